section C79
variable {p : Program} {l : Launch} {e : Env} {R : Room} {s : State} {m : MethodId} {args : Array Value} {below : List Frame} {meth : Method} {c : Code} {D : va_G} {cA : Nat → ClassId} {tys : List (ClassId × FieldType)} {A : Nat → Prop} {n0 s0 : Nat} {QM : State → Prop} {σi : Sg}
theorem dX11_newFold_0 : decode cX11_newFold 0 = .ok (.aload_n 0, 1) := by decide +kernel
theorem dX11_newFold_1 : decode cX11_newFold 1 = .ok (.getfield 22, 3) := by decide +kernel
theorem dX11_newFold_4 : decode cX11_newFold 4 = .ok (.invokevirtual 191, 3) := by decide +kernel
theorem dX11_newFold_7 : decode cX11_newFold 7 = .ok (.astore 5, 2) := by decide +kernel
theorem dX11_newFold_9 : decode cX11_newFold 9 = .ok (.aload 5, 2) := by decide +kernel
theorem dX11_newFold_11 : decode cX11_newFold 11 = .ok (.aload_n 2, 1) := by decide +kernel
theorem dX11_newFold_12 : decode cX11_newFold 12 = .ok (.getfield 72, 3) := by decide +kernel
theorem dX11_newFold_15 : decode cX11_newFold 15 = .ok (.putfield 72, 3) := by decide +kernel
theorem dX11_newFold_18 : decode cX11_newFold 18 = .ok (.aload 5, 2) := by decide +kernel
theorem dX11_newFold_20 : decode cX11_newFold 20 = .ok (.aload_n 2, 1) := by decide +kernel
theorem dX11_newFold_21 : decode cX11_newFold 21 = .ok (.getfield 195, 3) := by decide +kernel
theorem dX11_newFold_24 : decode cX11_newFold 24 = .ok (.putfield 195, 3) := by decide +kernel
theorem dX11_newFold_27 : decode cX11_newFold 27 = .ok (.aload 5, 2) := by decide +kernel
theorem dX11_newFold_29 : decode cX11_newFold 29 = .ok (.lload_n 3, 1) := by decide +kernel
theorem dX11_newFold_30 : decode cX11_newFold 30 = .ok (.putfield 85, 3) := by decide +kernel
theorem dX11_newFold_33 : decode cX11_newFold 33 = .ok (.aload_n 0, 1) := by decide +kernel
theorem dX11_newFold_34 : decode cX11_newFold 34 = .ok (.getfield 18, 3) := by decide +kernel
theorem dX11_newFold_37 : decode cX11_newFold 37 = .ok (.iconst 0, 1) := by decide +kernel
theorem dX11_newFold_38 : decode cX11_newFold 38 = .ok (.aload 5, 2) := by decide +kernel
theorem dX11_newFold_40 : decode cX11_newFold 40 = .ok (.getfield 64, 3) := by decide +kernel
theorem dX11_newFold_43 : decode cX11_newFold 43 = .ok (.iconst 0, 1) := by decide +kernel
theorem dX11_newFold_44 : decode cX11_newFold 44 = .ok (.aload_n 1, 1) := by decide +kernel
theorem dX11_newFold_45 : decode cX11_newFold 45 = .ok (.getfield 198, 3) := by decide +kernel
theorem dX11_newFold_48 : decode cX11_newFold 48 = .ok (.invokestatic 219, 3) := by decide +kernel
theorem dX11_newFold_51 : decode cX11_newFold 51 = .ok (.aload 5, 2) := by decide +kernel
theorem dX11_newFold_53 : decode cX11_newFold 53 = .ok (.areturn, 1) := by decide +kernel
set_option maxRecDepth 20000 in
theorem a_X11_newFold_0 {Q : Sg → Option Nat → Prop} {X : Sg → String → Prop} {th : Nat} (K : MD l R p s m args c cX11_newFold 6 RX11 D cA tys A n0 s0 3 60 []) (hQ : CQA p l e R s m args below meth c cX11_newFold D cA A n0 s0 QM σi 0 Q) (hX : CX p l e R s m args below meth c 6 D cA A n0 s0 QM σi X) (hTh : CT p l e R s m args below meth c cX11_newFold 6 D cA A n0 s0 QM σi RX11 X) : ∀ (σ : Sg) (v1 : Option Nat) (v2 : Option Nat) (v3 : Int64) (g1 : tyV σ 5 v1) (g2 : tyV σ 0 v2), w_X11_newFold_0 th Q X σ v1 v2 v3 → RG σ → TY σ → Ext σi σ → kO σ th 11 → JJ p l e R s m args below meth c 6 D cA A n0 s0 QM σ 0 [(0, .ref th), (1, va_rf v1), (2, va_rf v2), (3, .long v3)] [] := by
  intro σ v1 v2 v3 g1 g2 h hGσ hYσ hE hth H locs ls hH hl hc
  have B := K.1
  have hl9 := K.2.2.2.2.2.2
  unfold w_X11_newFold_0 at h
  refine lv_aload_n B.1 B.2.1 dX11_newFold_0 rfl (lv_at hl 0 rfl) ?_
  refine f_getp B hH hth (by decide) rfl wu_X11 0 (by decide) wf_X11_22 rfl rfl dX11_newFold_1 ?_
  obtain ⟨a27, ea27, h⟩ := h
  have ka27 : kO σ a27 8 := (hYσ.get hth (by decide)) a27 ea27
  have h := h ka27
  refine W.eq (g2 := F0 m 4 ls [.ref a27]) (by rw [ea27]; rfl) ?_
  refine c_V B hH hl hc K.2.2.1 (C := RX8) (T := TX8) (N := 3) (ci := 8) (As := []) (ok_X8_fresh hl9 K.2.1 σ a27 ka27 hGσ hYσ h) wc_X11_191 0 hd_X8_fresh ⟨Nat.le_trans (Nat.le_of_ble_eq_true rfl) K.2.2.2.1, Nat.le_trans (Nat.le_of_ble_eq_true rfl) K.2.2.2.2.1⟩ ka27.1 ka27.2 (by decide) rfl rfl (rest := []) rfl (Nat.le_of_ble_eq_true rfl) dX11_newFold_4 (fun σ25 w hq => ?_) (fun σ9 E9 hx9 => hX σ9 E9 _ _ _ (tb_out K.2.2.2.2.2.1 rfl) hx9.1 hx9.2.1 hx9.2.2.1 (hE.trans hx9.2.2.2))
  obtain ⟨r26, rfl, tr26, h, hGσ25, hYσ25, xσ25⟩ := hq
  have h := h xσ25 tr26
  intro H locs ls hH hl hc
  refine W.eq (g2 := F0 m 7 ls [va_rf r26]) (rfl) ?_
  try dsimp only at h
  refine lv_astoreQ (lv' := [(5, va_rf r26), (0, .ref th), (1, va_rf v1), (2, va_rf v2), (3, .long v3)]) B.1 B.2.1 dX11_newFold_7 hl (by decide) rfl (fun ls hl => ?_)
  refine lv_aloadQ B.1 B.2.1 dX11_newFold_9 (lv_at hl 0 rfl) ?_
  refine lv_aload_nQ B.1 B.2.1 dX11_newFold_11 rfl (lv_at hl 3 rfl) ?_
  obtain ⟨a28, ea28, h⟩ := h
  have ka28 : kO σ25 a28 0 := (g2.up xσ25) a28 ea28
  have h := h ka28
  refine W.eq (g2 := F0 m 12 ls [.ref a28, va_rf r26]) (by rw [ea28]; rfl) ?_
  refine f_getl B hH ka28 (by decide) rfl wu_X0 7 (by decide) wf_X11_72 rfl rfl dX11_newFold_12 ?_
  obtain ⟨a29, ea29, h⟩ := h
  have ka29 : kO σ25 a29 0 := tr26 a29 ea29
  have h := h ka29
  obtain ⟨σ30, eσ30⟩ : ∃ z, z = pJ σ25 a29 7 (gJ σ25 a28 7) := ⟨_, rfl⟩
  have h := h σ30 eσ30
  refine W.eq (g2 := F0 m 15 ls [.long (gJ σ25 a28 7), .ref a29]) (by rw [ea29]; rfl) ?_
  refine f_putl B hH ka29 (by decide) rfl wu_X0 tyX0 tyX0_ok nmX0 7 (by decide) wf_X11_72 rfl (ty := .long) rfl rfl rfl rfl rfl dX11_newFold_15 (fun H locs hH => ?_)
  have hH : Hd D cA A s (pJ σ25 a29 7 (gJ σ25 a28 7)) H locs := hH
  rw [← eσ30] at hH
  have hGσ30 : RG σ30 := by rw [eσ30]; exact hGσ25.pJ
  have hYσ30 : TY σ30 := by rw [eσ30]; exact hYσ25.pJ
  have xσ30 : Ext σ25 σ30 := by rw [eσ30]; exact Ext.pJ
  have hc : CB n0 s0 σ30 := by rw [eσ30]; exact hc
  rw [show gc σ25 = gc σ30 by rw [eσ30]; try rfl, show gs σ25 = gs σ30 by rw [eσ30]; try rfl]
  refine lv_aloadQ B.1 B.2.1 dX11_newFold_18 (lv_at hl 0 rfl) ?_
  refine lv_aload_nQ B.1 B.2.1 dX11_newFold_20 rfl (lv_at hl 3 rfl) ?_
  refine W.eq (g2 := F0 m 21 ls [.ref a28, va_rf r26]) (by rw [ea28]; rfl) ?_
  refine f_geti B hH (ka28.up xσ30) (by decide) rfl wu_X0 4 (by decide) wf_X11_195 rfl rfl dX11_newFold_21 ?_
  obtain ⟨σ31, eσ31⟩ : ∃ z, z = pI σ30 a29 4 (gI σ30 a28 4) := ⟨_, rfl⟩
  have h := h σ31 eσ31
  refine W.eq (g2 := F0 m 24 ls [.int (i32 (gI σ30 a28 4)), .ref a29]) (by rw [ea29]; rfl) ?_
  refine f_puti B hH (ka29.up xσ30) (by decide) rfl wu_X0 tyX0 tyX0_ok nmX0 4 (by decide) wf_X11_195 rfl (ty := .int) rfl rfl rfl rfl rfl dX11_newFold_24 (fun H locs hH => ?_)
  have hH : Hd D cA A s (pI σ30 a29 4 (gI σ30 a28 4)) H locs := hH
  rw [← eσ31] at hH
  have hGσ31 : RG σ31 := by rw [eσ31]; exact hGσ30.pI (hGσ30 _ _)
  have hYσ31 : TY σ31 := by rw [eσ31]; exact hYσ30.pI
  have xσ31 : Ext σ30 σ31 := by rw [eσ31]; exact Ext.pI
  have hc : CB n0 s0 σ31 := by rw [eσ31]; exact hc
  rw [show gc σ30 = gc σ31 by rw [eσ31]; try rfl, show gs σ30 = gs σ31 by rw [eσ31]; try rfl]
  refine lv_aloadQ B.1 B.2.1 dX11_newFold_27 (lv_at hl 0 rfl) ?_
  refine lv_lload_n B.1 B.2.1 dX11_newFold_29 rfl (lv_at hl 4 rfl) ?_
  obtain ⟨σ32, eσ32⟩ : ∃ z, z = pJ σ31 a29 5 v3 := ⟨_, rfl⟩
  have h := h σ32 eσ32
  refine W.eq (g2 := F0 m 30 ls [.long v3, .ref a29]) (by rw [ea29]; rfl) ?_
  refine f_putl B hH (ka29.up (xσ30.trans xσ31)) (by decide) rfl wu_X0 tyX0 tyX0_ok nmX0 5 (by decide) wf_X11_85 rfl (ty := .long) rfl rfl rfl rfl rfl dX11_newFold_30 (fun H locs hH => ?_)
  have hH : Hd D cA A s (pJ σ31 a29 5 v3) H locs := hH
  rw [← eσ32] at hH
  have hGσ32 : RG σ32 := by rw [eσ32]; exact hGσ31.pJ
  have hYσ32 : TY σ32 := by rw [eσ32]; exact hYσ31.pJ
  have xσ32 : Ext σ31 σ32 := by rw [eσ32]; exact Ext.pJ
  have hc : CB n0 s0 σ32 := by rw [eσ32]; exact hc
  rw [show gc σ31 = gc σ32 by rw [eσ32]; try rfl, show gs σ31 = gs σ32 by rw [eσ32]; try rfl]
  refine lv_aload_n B.1 B.2.1 dX11_newFold_33 rfl (lv_at hl 1 rfl) ?_
  refine f_getp B hH (hth.up (xσ25.trans (xσ30.trans (xσ31.trans xσ32)))) (by decide) rfl wu_X11 3 (by decide) wf_X11_18 rfl rfl dX11_newFold_34 ?_
  refine lv_iconst (v := i32 0) B.1 B.2.1 dX11_newFold_37 (by decide) ?_
  refine lv_aloadQ B.1 B.2.1 dX11_newFold_38 (lv_at hl 0 rfl) ?_
  refine W.eq (g2 := F0 m 40 ls [.ref a29, .int (i32 0), va_rf (gP σ32 th 3)]) (by rw [ea29]; rfl) ?_
  refine f_getp B hH (ka29.up (xσ30.trans (xσ31.trans xσ32))) (by decide) rfl wu_X0 0 (by decide) wf_X11_64 rfl rfl dX11_newFold_40 ?_
  refine lv_iconst (v := i32 0) B.1 B.2.1 dX11_newFold_43 (by decide) ?_
  refine lv_aload_nQ B.1 B.2.1 dX11_newFold_44 rfl (lv_at hl 2 rfl) ?_
  obtain ⟨a33, ea33, h⟩ := h
  have ka33 : kO σ32 a33 5 := (g1.up (xσ25.trans (xσ30.trans (xσ31.trans xσ32)))) a33 ea33
  have h := h ka33
  refine W.eq (g2 := F0 m 45 ls [.ref a33, .int (i32 0), va_rf (gP σ32 a29 0), .int (i32 0), va_rf (gP σ32 th 3)]) (by rw [ea33]; rfl) ?_
  refine f_geti B hH ka33 (by decide) rfl wu_X5 4 (by decide) wf_X11_198 rfl rfl dX11_newFold_45 ?_
  obtain ⟨a34, ea34, h⟩ := h
  have ka34 : kO σ32 a34 101 := (hYσ32.get (hth.up (xσ25.trans (xσ30.trans (xσ31.trans xσ32)))) (by decide)) a34 ea34
  have h := h ka34
  obtain ⟨a35, ea35, h⟩ := h
  have ka35 : kO σ32 a35 101 := (hYσ32.get (ka29.up (xσ30.trans (xσ31.trans xσ32))) (by decide)) a35 ea35
  have h := h ka35
  obtain ⟨q1, h⟩ := h
  obtain ⟨σ36, eσ36⟩ : ∃ z, z = cpJ σ32 a34 (0 : Int) a35 (0 : Int) (gI σ32 a33 4) := ⟨_, rfl⟩
  have h := h σ36 eσ36
  refine W.eq (g2 := F0 m 48 ls [.int (i32 (gI σ32 a33 4)), .int (i32 0), .ref a35, .int (i32 0), .ref a34]) (by rw [ea34, ea35]; rfl) ?_
  refine c_copy B K.2.1 hH hl ws_X11_219 ka34 ka35 q1.1 q1.2.1 q1.2.2 ⟨by have := hYσ32.2 a34; omega, by have := hYσ32.2 a35; omega⟩ (by have := K.2.2.2.1; omega) (Nat.le_trans (Nat.le_of_ble_eq_true rfl) K.2.2.2.2.1) dX11_newFold_48 (fun H locs hH => ?_)
  have hH : Hd D cA A s (cpJ σ32 a34 (0 : Int) a35 (0 : Int) (gI σ32 a33 4)) H locs := hH
  rw [← eσ36] at hH
  have hGσ36 : RG σ36 := by rw [eσ36]; exact hGσ32.cpJ
  have hYσ36 : TY σ36 := by rw [eσ36]; exact hYσ32.cpJ
  have xσ36 : Ext σ32 σ36 := by rw [eσ36]; exact Ext.cpJ
  have hc : CB n0 s0 σ36 := by rw [eσ36]; exact hc
  rw [show gc σ32 = gc σ36 by rw [eσ36]; try rfl, show gs σ32 = gs σ36 by rw [eσ36]; try rfl]
  refine lv_aloadQ B.1 B.2.1 dX11_newFold_51 (lv_at hl 0 rfl) ?_
  exact hQ _ _ _ _ _ _ (tr26.up (xσ30.trans (xσ31.trans (xσ32.trans xσ36)))) dX11_newFold_53 hH hc h hGσ36 hYσ36 (((((hE.trans xσ25).trans xσ30).trans xσ31).trans xσ32).trans xσ36)
theorem ok_X11_newFold (hl0 : l.stackTraces = false) (hT : TyC cA tys) {Q : Sg → Option Nat → Prop} {X : Sg → String → Prop} (σ : Sg) (th : Nat) (v1 : Option Nat) (v2 : Option Nat) (v3 : Int64) (g1 : tyV σ 5 v1) (g2 : tyV σ 0 v2) (hth : kO σ th 11) (hG : RG σ) (hY : TY σ) (h : wp_X11_newFold th v1 v2 v3 σ Q X) : Ok l D cA tys A yX11_newFold (.code yX11_newFold cX11_newFold 6 (some (.object "StreamHouse$Cell"))) 3 60 [.ref th, va_rf v1, va_rf v2, .long v3] σ (QcA σ 0 Q) (QxC σ X) := by
  unfold wp_X11_newFold at h
  exact oc_A hl0 (by decide) (by cases v1 <;> cases v2 <;> exact Nat.le_of_ble_eq_true rfl) hT (fun p e R s m args below meth c K hQ hX hTh H locs ls hH hl hc => a_X11_newFold_0 K hQ hX hTh σ v1 v2 v3 g1 g2 h hG hY (Ext.rfl' σ) hth H locs ls hH (lv_sub (l' := [(0, .ref th), (1, va_rf v1), (2, va_rf v2), (3, .long v3)]) hl [0, 1, 2, 3] (by cases v1 <;> cases v2 <;> rfl)) hc)
theorem dX11_foldRow_0 : decode cX11_foldRow 0 = .ok (.aload_n 3, 1) := by decide +kernel
theorem dX11_foldRow_1 : decode cX11_foldRow 1 = .ok (.aload_n 3, 1) := by decide +kernel
theorem dX11_foldRow_2 : decode cX11_foldRow 2 = .ok (.getfield 64, 3) := by decide +kernel
theorem dX11_foldRow_5 : decode cX11_foldRow 5 = .ok (.aload_n 1, 1) := by decide +kernel
theorem dX11_foldRow_6 : decode cX11_foldRow 6 = .ok (.getfield 69, 3) := by decide +kernel
theorem dX11_foldRow_9 : decode cX11_foldRow 9 = .ok (.laload, 1) := by decide +kernel
theorem dX11_foldRow_10 : decode cX11_foldRow 10 = .ok (.putfield 72, 3) := by decide +kernel
theorem dX11_foldRow_13 : decode cX11_foldRow 13 = .ok (.aload_n 1, 1) := by decide +kernel
theorem dX11_foldRow_14 : decode cX11_foldRow 14 = .ok (.getfield 30, 3) := by decide +kernel
theorem dX11_foldRow_17 : decode cX11_foldRow 17 = .ok (.iconst 5, 1) := by decide +kernel
theorem dX11_foldRow_18 : decode cX11_foldRow 18 = .ok (.if_icmp .ne 55, 3) := by decide +kernel
theorem dX11_foldRow_21 : decode cX11_foldRow 21 = .ok (.aload_n 0, 1) := by decide +kernel
theorem dX11_foldRow_22 : decode cX11_foldRow 22 = .ok (.aload_n 1, 1) := by decide +kernel
theorem dX11_foldRow_23 : decode cX11_foldRow 23 = .ok (.aload_n 3, 1) := by decide +kernel
theorem dX11_foldRow_24 : decode cX11_foldRow 24 = .ok (.aload_n 3, 1) := by decide +kernel
theorem dX11_foldRow_25 : decode cX11_foldRow 25 = .ok (.getfield 85, 3) := by decide +kernel
theorem dX11_foldRow_28 : decode cX11_foldRow 28 = .ok (.invokevirtual 201, 3) := by decide +kernel
theorem dX11_foldRow_31 : decode cX11_foldRow 31 = .ok (.astore 4, 2) := by decide +kernel
theorem dX11_foldRow_33 : decode cX11_foldRow 33 = .ok (.aload 4, 2) := by decide +kernel
theorem dX11_foldRow_35 : decode cX11_foldRow 35 = .ok (.aload_n 3, 1) := by decide +kernel
theorem dX11_foldRow_36 : decode cX11_foldRow 36 = .ok (.getfield 85, 3) := by decide +kernel
theorem dX11_foldRow_39 : decode cX11_foldRow 39 = .ok (.putfield 92, 3) := by decide +kernel
theorem dX11_foldRow_42 : decode cX11_foldRow 42 = .ok (.aload_n 0, 1) := by decide +kernel
theorem dX11_foldRow_43 : decode cX11_foldRow 43 = .ok (.aload_n 1, 1) := by decide +kernel
theorem dX11_foldRow_44 : decode cX11_foldRow 44 = .ok (.aload_n 2, 1) := by decide +kernel
theorem dX11_foldRow_45 : decode cX11_foldRow 45 = .ok (.getfield 105, 3) := by decide +kernel
theorem dX11_foldRow_48 : decode cX11_foldRow 48 = .ok (.aload 4, 2) := by decide +kernel
theorem dX11_foldRow_50 : decode cX11_foldRow 50 = .ok (.aload_n 3, 1) := by decide +kernel
theorem dX11_foldRow_51 : decode cX11_foldRow 51 = .ok (.getfield 85, 3) := by decide +kernel
theorem dX11_foldRow_54 : decode cX11_foldRow 54 = .ok (.invokevirtual 205, 3) := by decide +kernel
theorem dX11_foldRow_57 : decode cX11_foldRow 57 = .ok (.aload_n 0, 1) := by decide +kernel
theorem dX11_foldRow_58 : decode cX11_foldRow 58 = .ok (.invokevirtual 155, 3) := by decide +kernel
theorem dX11_foldRow_61 : decode cX11_foldRow 61 = .ok (.aload_n 2, 1) := by decide +kernel
theorem dX11_foldRow_62 : decode cX11_foldRow 62 = .ok (.getfield 105, 3) := by decide +kernel
theorem dX11_foldRow_65 : decode cX11_foldRow 65 = .ok (.aload 4, 2) := by decide +kernel
theorem dX11_foldRow_67 : decode cX11_foldRow 67 = .ok (.invokevirtual 42, 3) := by decide +kernel
theorem dX11_foldRow_70 : decode cX11_foldRow 70 = .ok (.goto 119, 3) := by decide +kernel
theorem dX11_foldRow_73 : decode cX11_foldRow 73 = .ok (.iconst 1, 1) := by decide +kernel
theorem dX11_foldRow_74 : decode cX11_foldRow 74 = .ok (.aload_n 1, 1) := by decide +kernel
theorem dX11_foldRow_75 : decode cX11_foldRow 75 = .ok (.getfield 209, 3) := by decide +kernel
theorem dX11_foldRow_78 : decode cX11_foldRow 78 = .ok (.invokestatic 79, 3) := by decide +kernel
theorem dX11_foldRow_81 : decode cX11_foldRow 81 = .ok (.i2l, 1) := by decide +kernel
theorem dX11_foldRow_82 : decode cX11_foldRow 82 = .ok (.lstore 4, 2) := by decide +kernel
theorem dX11_foldRow_84 : decode cX11_foldRow 84 = .ok (.aload_n 3, 1) := by decide +kernel
theorem dX11_foldRow_85 : decode cX11_foldRow 85 = .ok (.getfield 85, 3) := by decide +kernel
theorem dX11_foldRow_88 : decode cX11_foldRow 88 = .ok (.lload 4, 2) := by decide +kernel
theorem dX11_foldRow_90 : decode cX11_foldRow 90 = .ok (.invokestatic 88, 3) := by decide +kernel
theorem dX11_foldRow_93 : decode cX11_foldRow 93 = .ok (.lload 4, 2) := by decide +kernel
theorem dX11_foldRow_95 : decode cX11_foldRow 95 = .ok (.lmul, 1) := by decide +kernel
theorem dX11_foldRow_96 : decode cX11_foldRow 96 = .ok (.lstore 6, 2) := by decide +kernel
theorem dX11_foldRow_98 : decode cX11_foldRow 98 = .ok (.aload_n 3, 1) := by decide +kernel
theorem dX11_foldRow_99 : decode cX11_foldRow 99 = .ok (.getfield 85, 3) := by decide +kernel
theorem dX11_foldRow_102 : decode cX11_foldRow 102 = .ok (.aload_n 1, 1) := by decide +kernel
theorem dX11_foldRow_103 : decode cX11_foldRow 103 = .ok (.getfield 76, 3) := by decide +kernel
theorem dX11_foldRow_106 : decode cX11_foldRow 106 = .ok (.i2l, 1) := by decide +kernel
theorem dX11_foldRow_107 : decode cX11_foldRow 107 = .ok (.lsub, 1) := by decide +kernel
theorem dX11_foldRow_108 : decode cX11_foldRow 108 = .ok (.lload 4, 2) := by decide +kernel
theorem dX11_foldRow_110 : decode cX11_foldRow 110 = .ok (.invokestatic 88, 3) := by decide +kernel
theorem dX11_foldRow_113 : decode cX11_foldRow 113 = .ok (.lload 4, 2) := by decide +kernel
theorem dX11_foldRow_115 : decode cX11_foldRow 115 = .ok (.lmul, 1) := by decide +kernel
theorem dX11_foldRow_116 : decode cX11_foldRow 116 = .ok (.lload 4, 2) := by decide +kernel
theorem dX11_foldRow_118 : decode cX11_foldRow 118 = .ok (.ladd, 1) := by decide +kernel
theorem dX11_foldRow_119 : decode cX11_foldRow 119 = .ok (.lstore 8, 2) := by decide +kernel
theorem dX11_foldRow_121 : decode cX11_foldRow 121 = .ok (.lload 8, 2) := by decide +kernel
theorem dX11_foldRow_123 : decode cX11_foldRow 123 = .ok (.lstore 10, 2) := by decide +kernel
theorem dX11_foldRow_125 : decode cX11_foldRow 125 = .ok (.lload 10, 2) := by decide +kernel
theorem dX11_foldRow_127 : decode cX11_foldRow 127 = .ok (.lload 6, 2) := by decide +kernel
theorem dX11_foldRow_129 : decode cX11_foldRow 129 = .ok (.lcmp, 1) := by decide +kernel
theorem dX11_foldRow_130 : decode cX11_foldRow 130 = .ok (.ifCond .gt 59, 3) := by decide +kernel
theorem dX11_foldRow_133 : decode cX11_foldRow 133 = .ok (.lload 10, 2) := by decide +kernel
theorem dX11_foldRow_135 : decode cX11_foldRow 135 = .ok (.aload_n 1, 1) := by decide +kernel
theorem dX11_foldRow_136 : decode cX11_foldRow 136 = .ok (.getfield 76, 3) := by decide +kernel
theorem dX11_foldRow_139 : decode cX11_foldRow 139 = .ok (.i2l, 1) := by decide +kernel
theorem dX11_foldRow_140 : decode cX11_foldRow 140 = .ok (.ladd, 1) := by decide +kernel
theorem dX11_foldRow_141 : decode cX11_foldRow 141 = .ok (.lconst 1, 1) := by decide +kernel
theorem dX11_foldRow_142 : decode cX11_foldRow 142 = .ok (.lsub, 1) := by decide +kernel
theorem dX11_foldRow_143 : decode cX11_foldRow 143 = .ok (.lstore 12, 2) := by decide +kernel
theorem dX11_foldRow_145 : decode cX11_foldRow 145 = .ok (.aload_n 0, 1) := by decide +kernel
theorem dX11_foldRow_146 : decode cX11_foldRow 146 = .ok (.aload_n 1, 1) := by decide +kernel
theorem dX11_foldRow_147 : decode cX11_foldRow 147 = .ok (.aload_n 2, 1) := by decide +kernel
theorem dX11_foldRow_148 : decode cX11_foldRow 148 = .ok (.getfield 105, 3) := by decide +kernel
theorem dX11_foldRow_151 : decode cX11_foldRow 151 = .ok (.aload_n 3, 1) := by decide +kernel
theorem dX11_foldRow_152 : decode cX11_foldRow 152 = .ok (.lload 12, 2) := by decide +kernel
theorem dX11_foldRow_154 : decode cX11_foldRow 154 = .ok (.invokevirtual 212, 3) := by decide +kernel
theorem dX11_foldRow_157 : decode cX11_foldRow 157 = .ok (.ifCond .ne 22, 3) := by decide +kernel
theorem dX11_foldRow_160 : decode cX11_foldRow 160 = .ok (.aload_n 0, 1) := by decide +kernel
theorem dX11_foldRow_161 : decode cX11_foldRow 161 = .ok (.invokevirtual 155, 3) := by decide +kernel
theorem dX11_foldRow_164 : decode cX11_foldRow 164 = .ok (.aload_n 2, 1) := by decide +kernel
theorem dX11_foldRow_165 : decode cX11_foldRow 165 = .ok (.getfield 105, 3) := by decide +kernel
theorem dX11_foldRow_168 : decode cX11_foldRow 168 = .ok (.aload_n 0, 1) := by decide +kernel
theorem dX11_foldRow_169 : decode cX11_foldRow 169 = .ok (.aload_n 1, 1) := by decide +kernel
theorem dX11_foldRow_170 : decode cX11_foldRow 170 = .ok (.aload_n 3, 1) := by decide +kernel
theorem dX11_foldRow_171 : decode cX11_foldRow 171 = .ok (.lload 12, 2) := by decide +kernel
theorem dX11_foldRow_173 : decode cX11_foldRow 173 = .ok (.invokevirtual 201, 3) := by decide +kernel
theorem dX11_foldRow_176 : decode cX11_foldRow 176 = .ok (.invokevirtual 42, 3) := by decide +kernel
theorem dX11_foldRow_179 : decode cX11_foldRow 179 = .ok (.lload 10, 2) := by decide +kernel
theorem dX11_foldRow_181 : decode cX11_foldRow 181 = .ok (.lload 4, 2) := by decide +kernel
theorem dX11_foldRow_183 : decode cX11_foldRow 183 = .ok (.ladd, 1) := by decide +kernel
theorem dX11_foldRow_184 : decode cX11_foldRow 184 = .ok (.lstore 10, 2) := by decide +kernel
theorem dX11_foldRow_186 : decode cX11_foldRow 186 = .ok (.goto (-61), 3) := by decide +kernel
theorem dX11_foldRow_189 : decode cX11_foldRow 189 = .ok (.aload_n 0, 1) := by decide +kernel
theorem dX11_foldRow_190 : decode cX11_foldRow 190 = .ok (.getfield 22, 3) := by decide +kernel
theorem dX11_foldRow_193 : decode cX11_foldRow 193 = .ok (.aload_n 3, 1) := by decide +kernel
theorem dX11_foldRow_194 : decode cX11_foldRow 194 = .ok (.invokevirtual 174, 3) := by decide +kernel
theorem dX11_foldRow_197 : decode cX11_foldRow 197 = .ok (.return_, 1) := by decide +kernel
set_option maxRecDepth 20000 in
theorem a_X11_foldRow_189 {Q : Sg → Unit → Prop} {X : Sg → String → Prop} {th : Nat} (K : MD l R p s m args c cX11_foldRow 14 RX11 D cA tys A n0 s0 9 164 []) (hQ : CQV p l e R s m args below meth c cX11_foldRow D cA A n0 s0 QM σi Q) (hX : CX p l e R s m args below meth c 14 D cA A n0 s0 QM σi X) (hTh : CT p l e R s m args below meth c cX11_foldRow 14 D cA A n0 s0 QM σi RX11 X) : ∀ (σ : Sg) (v3 : Option Nat) (g3 : tyV σ 0 v3), w_X11_foldRow_189 th Q X σ v3 → RG σ → TY σ → Ext σi σ → kO σ th 11 → JJ p l e R s m args below meth c 14 D cA A n0 s0 QM σ 189 [(0, .ref th), (3, va_rf v3)] [] := by
  intro σ v3 g3 h hGσ hYσ hE hth H locs ls hH hl hc
  have B := K.1
  have hl9 := K.2.2.2.2.2.2
  unfold w_X11_foldRow_189 at h
  refine lv_aload_n B.1 B.2.1 dX11_foldRow_189 rfl (lv_at hl 0 rfl) ?_
  refine f_getp B hH hth (by decide) rfl wu_X11 0 (by decide) wf_X11_22 rfl rfl dX11_foldRow_190 ?_
  refine lv_aload_nQ B.1 B.2.1 dX11_foldRow_193 rfl (lv_at hl 1 rfl) ?_
  obtain ⟨a72, ea72, h⟩ := h
  have ka72 : kO σ a72 8 := (hYσ.get hth (by decide)) a72 ea72
  have h := h ka72
  refine W.eq (g2 := F0 m 194 ls [va_rf v3, .ref a72]) (by rw [ea72]; rfl) ?_
  refine c_V B hH hl hc K.2.2.1 (C := RX8) (T := TX8) (N := 3) (ci := 8) (As := [va_rf v3]) (ok_X8_release hl9 K.2.1 σ a72 v3 g3 ka72 hGσ hYσ h) wc_X11_174 1 hd_X8_release ⟨Nat.le_trans (Nat.le_of_ble_eq_true rfl) K.2.2.2.1, Nat.le_trans (Nat.le_of_ble_eq_true rfl) K.2.2.2.2.1⟩ ka72.1 ka72.2 (by decide) rfl rfl (rest := []) rfl (Nat.le_of_ble_eq_true rfl) dX11_foldRow_194 (fun σ71 w hq => ?_) (fun σ9 E9 hx9 => hX σ9 E9 _ _ _ (tb_out K.2.2.2.2.2.1 rfl) hx9.1 hx9.2.1 hx9.2.2.1 (hE.trans hx9.2.2.2))
  obtain ⟨rfl, h, hGσ71, hYσ71, xσ71⟩ := hq
  have h := h xσ71
  intro H locs ls hH hl hc
  refine W.eq (g2 := F0 m 197 ls []) (rfl) ?_
  try dsimp only at h
  exact hQ _ _ _ _ _ dX11_foldRow_197 hH hc h hGσ71 hYσ71 (hE.trans xσ71)
set_option maxRecDepth 20000 in
theorem a_X11_foldRow_179 {Q : Sg → Unit → Prop} {X : Sg → String → Prop} {th : Nat} (K : MD l R p s m args c cX11_foldRow 14 RX11 D cA tys A n0 s0 9 164 []) (hQ : CQV p l e R s m args below meth c cX11_foldRow D cA A n0 s0 QM σi Q) (hX : CX p l e R s m args below meth c 14 D cA A n0 s0 QM σi X) (hTh : CT p l e R s m args below meth c cX11_foldRow 14 D cA A n0 s0 QM σi RX11 X) {K125 : Sg → Option Nat → Option Nat → Option Nat → Int64 → Int64 → Int64 → Prop} (hK125 : ∀ (σ : Sg) (v1 : Option Nat) (v2 : Option Nat) (v3 : Option Nat) (v4 : Int64) (v6 : Int64) (v10 : Int64) (g1 : tyV σ 5 v1) (g2 : tyV σ 10 v2) (g3 : tyV σ 0 v3), K125 σ v1 v2 v3 v4 v6 v10 → RG σ → TY σ → Ext σi σ → kO σ th 11 → JJ p l e R s m args below meth c 14 D cA A n0 s0 QM σ 125 [(0, .ref th), (1, va_rf v1), (2, va_rf v2), (3, va_rf v3), (4, .long v4), (6, .long v6), (10, .long v10)] []) : ∀ (σ : Sg) (v1 : Option Nat) (v2 : Option Nat) (v3 : Option Nat) (v4 : Int64) (v6 : Int64) (v10 : Int64) (g1 : tyV σ 5 v1) (g2 : tyV σ 10 v2) (g3 : tyV σ 0 v3), w_X11_foldRow_179 th K125 Q X σ v1 v2 v3 v4 v6 v10 → RG σ → TY σ → Ext σi σ → kO σ th 11 → JJ p l e R s m args below meth c 14 D cA A n0 s0 QM σ 179 [(0, .ref th), (1, va_rf v1), (2, va_rf v2), (3, va_rf v3), (4, .long v4), (6, .long v6), (10, .long v10)] [] := by
  intro σ v1 v2 v3 v4 v6 v10 g1 g2 g3 h hGσ hYσ hE hth H locs ls hH hl hc
  have B := K.1
  have hl9 := K.2.2.2.2.2.2
  unfold w_X11_foldRow_179 at h
  refine lv_lload B.1 B.2.1 dX11_foldRow_179 (lv_at hl 6 rfl) ?_
  refine lv_lload B.1 B.2.1 dX11_foldRow_181 (lv_at hl 4 rfl) ?_
  refine lv_ladd B.1 B.2.1 dX11_foldRow_183 ?_
  refine lv_lstore (lv' := [(10, .long (v10 + v4)), (0, .ref th), (1, va_rf v1), (2, va_rf v2), (3, va_rf v3), (4, .long v4), (6, .long v6)]) B.1 B.2.1 dX11_foldRow_184 hl (by decide) rfl (fun ls hl => ?_)
  refine lv_goto (tgt := 125) B.1 B.2.1 dX11_foldRow_186 (by decide) ?_
  exact hK125 _ _ _ _ _ _ _ g1 g2 g3 h hGσ hYσ hE hth _ _ _ hH (lv_sub (l' := [(0, .ref th), (1, va_rf v1), (2, va_rf v2), (3, va_rf v3), (4, .long v4), (6, .long v6), (10, .long (v10 + v4))]) hl [1, 2, 3, 4, 5, 6, 0] rfl) hc
set_option maxRecDepth 20000 in
theorem a_X11_foldRow_160 {Q : Sg → Unit → Prop} {X : Sg → String → Prop} {th : Nat} (K : MD l R p s m args c cX11_foldRow 14 RX11 D cA tys A n0 s0 9 164 []) (hQ : CQV p l e R s m args below meth c cX11_foldRow D cA A n0 s0 QM σi Q) (hX : CX p l e R s m args below meth c 14 D cA A n0 s0 QM σi X) (hTh : CT p l e R s m args below meth c cX11_foldRow 14 D cA A n0 s0 QM σi RX11 X) {K125 : Sg → Option Nat → Option Nat → Option Nat → Int64 → Int64 → Int64 → Prop} (hK125 : ∀ (σ : Sg) (v1 : Option Nat) (v2 : Option Nat) (v3 : Option Nat) (v4 : Int64) (v6 : Int64) (v10 : Int64) (g1 : tyV σ 5 v1) (g2 : tyV σ 10 v2) (g3 : tyV σ 0 v3), K125 σ v1 v2 v3 v4 v6 v10 → RG σ → TY σ → Ext σi σ → kO σ th 11 → JJ p l e R s m args below meth c 14 D cA A n0 s0 QM σ 125 [(0, .ref th), (1, va_rf v1), (2, va_rf v2), (3, va_rf v3), (4, .long v4), (6, .long v6), (10, .long v10)] []) : ∀ (σ : Sg) (v1 : Option Nat) (v2 : Option Nat) (v3 : Option Nat) (v4 : Int64) (v6 : Int64) (v10 : Int64) (v12 : Int64) (g1 : tyV σ 5 v1) (g2 : tyV σ 10 v2) (g3 : tyV σ 0 v3), w_X11_foldRow_160 th K125 Q X σ v1 v2 v3 v4 v6 v10 v12 → RG σ → TY σ → Ext σi σ → kO σ th 11 → JJ p l e R s m args below meth c 14 D cA A n0 s0 QM σ 160 [(0, .ref th), (1, va_rf v1), (2, va_rf v2), (3, va_rf v3), (4, .long v4), (6, .long v6), (10, .long v10), (12, .long v12)] [] := by
  intro σ v1 v2 v3 v4 v6 v10 v12 g1 g2 g3 h hGσ hYσ hE hth H locs ls hH hl hc
  have B := K.1
  have hl9 := K.2.2.2.2.2.2
  unfold w_X11_foldRow_160 at h
  refine lv_aload_n B.1 B.2.1 dX11_foldRow_160 rfl (lv_at hl 0 rfl) ?_
  refine W.eq (g2 := F0 m 161 ls [.ref th]) (rfl) ?_
  refine c_V B hH hl hc K.2.2.1 (C := RX11) (T := TX11) (N := 6) (ci := 11) (As := []) (ok_X11_countRecord hl9 K.2.1 σ th hth hGσ hYσ h) wc_X11_155 0 hd_X11_countRecord ⟨Nat.le_trans (Nat.le_of_ble_eq_true rfl) K.2.2.2.1, Nat.le_trans (Nat.le_of_ble_eq_true rfl) K.2.2.2.2.1⟩ hth.1 hth.2 (by decide) rfl rfl (rest := []) rfl (Nat.le_of_ble_eq_true rfl) dX11_foldRow_161 (fun σ73 w hq => ?_) (fun σ9 E9 hx9 => hX σ9 E9 _ _ _ (tb_out K.2.2.2.2.2.1 rfl) hx9.1 hx9.2.1 hx9.2.2.1 (hE.trans hx9.2.2.2))
  obtain ⟨rfl, h, hGσ73, hYσ73, xσ73⟩ := hq
  have h := h xσ73
  intro H locs ls hH hl hc
  refine W.eq (g2 := F0 m 164 ls []) (rfl) ?_
  try dsimp only at h
  refine lv_aload_nQ B.1 B.2.1 dX11_foldRow_164 rfl (lv_at hl 2 rfl) ?_
  obtain ⟨a74, ea74, h⟩ := h
  have ka74 : kO σ73 a74 10 := (g2.up xσ73) a74 ea74
  have h := h ka74
  refine W.eq (g2 := F0 m 165 ls [.ref a74]) (by rw [ea74]; rfl) ?_
  refine f_getp B hH ka74 (by decide) rfl wu_X10 2 (by decide) wf_X11_105 rfl rfl dX11_foldRow_165 ?_
  refine lv_aload_n B.1 B.2.1 dX11_foldRow_168 rfl (lv_at hl 0 rfl) ?_
  refine lv_aload_nQ B.1 B.2.1 dX11_foldRow_169 rfl (lv_at hl 1 rfl) ?_
  refine lv_aload_nQ B.1 B.2.1 dX11_foldRow_170 rfl (lv_at hl 3 rfl) ?_
  refine lv_lload B.1 B.2.1 dX11_foldRow_171 (lv_at hl 7 rfl) ?_
  refine W.eq (g2 := F0 m 173 ls [.long v12, va_rf v3, va_rf v1, .ref th, va_rf (gP σ73 a74 2)]) (rfl) ?_
  refine c_V B hH hl hc K.2.2.1 (C := RX11) (T := TX11) (N := 6) (ci := 11) (As := [va_rf v1, va_rf v3, .long v12]) (ok_X11_newFold hl9 K.2.1 σ73 th v1 v3 v12 (g1.up xσ73) (g3.up xσ73) (hth.up xσ73) hGσ73 hYσ73 h) wc_X11_201 3 hd_X11_newFold ⟨Nat.le_trans (Nat.le_of_ble_eq_true rfl) K.2.2.2.1, Nat.le_trans (Nat.le_of_ble_eq_true rfl) K.2.2.2.2.1⟩ (hth.up xσ73).1 (hth.up xσ73).2 (by decide) rfl rfl (rest := [va_rf (gP σ73 a74 2)]) rfl (by simp only [List.map_cons, List.map_nil, rf_cat]; exact Nat.le_of_ble_eq_true rfl) dX11_foldRow_173 (fun σ75 w hq => ?_) (fun σ9 E9 hx9 => hX σ9 E9 _ _ _ (tb_out K.2.2.2.2.2.1 rfl) hx9.1 hx9.2.1 hx9.2.2.1 ((hE.trans xσ73).trans hx9.2.2.2))
  obtain ⟨r76, rfl, tr76, h, hGσ75, hYσ75, xσ75⟩ := hq
  have h := h xσ75 tr76
  intro H locs ls hH hl hc
  refine W.eq (g2 := F0 m 176 ls [va_rf r76, va_rf (gP σ73 a74 2)]) (rfl) ?_
  try dsimp only at h
  obtain ⟨a78, ea78, h⟩ := h
  have ka78 : kO σ75 a78 1 := ((hYσ73.get ka74 (by decide)).up xσ75) a78 ea78
  have h := h ka78
  refine W.eq (g2 := F0 m 176 ls [va_rf r76, .ref a78]) (by rw [ea78]; rfl) ?_
  refine c_V B hH hl hc K.2.2.1 (C := RX1) (T := TX1) (N := 3) (ci := 1) (As := [va_rf r76]) (ok_X1_add hl9 K.2.1 σ75 a78 r76 tr76 ka78 hGσ75 hYσ75 h) wc_X11_42 1 hd_X1_add ⟨Nat.le_trans (Nat.le_of_ble_eq_true rfl) K.2.2.2.1, Nat.le_trans (Nat.le_of_ble_eq_true rfl) K.2.2.2.2.1⟩ ka78.1 ka78.2 (by decide) rfl rfl (rest := []) rfl (Nat.le_of_ble_eq_true rfl) dX11_foldRow_176 (fun σ77 w hq => ?_) (fun σ9 E9 hx9 => hX σ9 E9 _ _ _ (tb_out K.2.2.2.2.2.1 rfl) hx9.1 hx9.2.1 hx9.2.2.1 (((hE.trans xσ73).trans xσ75).trans hx9.2.2.2))
  obtain ⟨rfl, h, hGσ77, hYσ77, xσ77⟩ := hq
  have h := h xσ77
  intro H locs ls hH hl hc
  refine W.eq (g2 := F0 m 179 ls []) (rfl) ?_
  try dsimp only at h
  exact a_X11_foldRow_179 K hQ hX hTh hK125 _ _ _ _ _ _ _ (g1.up (xσ73.trans (xσ75.trans xσ77))) (g2.up (xσ73.trans (xσ75.trans xσ77))) (g3.up (xσ73.trans (xσ75.trans xσ77))) h hGσ77 hYσ77 (((hE.trans xσ73).trans xσ75).trans xσ77) (hth.up (xσ73.trans (xσ75.trans xσ77))) _ _ _ hH (lv_sub (l' := [(0, .ref th), (1, va_rf v1), (2, va_rf v2), (3, va_rf v3), (4, .long v4), (6, .long v6), (10, .long v10)]) hl [0, 1, 2, 3, 4, 5, 6] rfl) hc
set_option maxRecDepth 20000 in
theorem a_X11_foldRow_133 {Q : Sg → Unit → Prop} {X : Sg → String → Prop} {th : Nat} (K : MD l R p s m args c cX11_foldRow 14 RX11 D cA tys A n0 s0 9 164 []) (hQ : CQV p l e R s m args below meth c cX11_foldRow D cA A n0 s0 QM σi Q) (hX : CX p l e R s m args below meth c 14 D cA A n0 s0 QM σi X) (hTh : CT p l e R s m args below meth c cX11_foldRow 14 D cA A n0 s0 QM σi RX11 X) {K125 : Sg → Option Nat → Option Nat → Option Nat → Int64 → Int64 → Int64 → Prop} (hK125 : ∀ (σ : Sg) (v1 : Option Nat) (v2 : Option Nat) (v3 : Option Nat) (v4 : Int64) (v6 : Int64) (v10 : Int64) (g1 : tyV σ 5 v1) (g2 : tyV σ 10 v2) (g3 : tyV σ 0 v3), K125 σ v1 v2 v3 v4 v6 v10 → RG σ → TY σ → Ext σi σ → kO σ th 11 → JJ p l e R s m args below meth c 14 D cA A n0 s0 QM σ 125 [(0, .ref th), (1, va_rf v1), (2, va_rf v2), (3, va_rf v3), (4, .long v4), (6, .long v6), (10, .long v10)] []) : ∀ (σ : Sg) (v1 : Option Nat) (v2 : Option Nat) (v3 : Option Nat) (v4 : Int64) (v6 : Int64) (v10 : Int64) (g1 : tyV σ 5 v1) (g2 : tyV σ 10 v2) (g3 : tyV σ 0 v3), w_X11_foldRow_133 th K125 Q X σ v1 v2 v3 v4 v6 v10 → RG σ → TY σ → Ext σi σ → kO σ th 11 → JJ p l e R s m args below meth c 14 D cA A n0 s0 QM σ 133 [(0, .ref th), (1, va_rf v1), (2, va_rf v2), (3, va_rf v3), (4, .long v4), (6, .long v6), (10, .long v10)] [] := by
  intro σ v1 v2 v3 v4 v6 v10 g1 g2 g3 h hGσ hYσ hE hth H locs ls hH hl hc
  have B := K.1
  have hl9 := K.2.2.2.2.2.2
  unfold w_X11_foldRow_133 at h
  refine lv_lload B.1 B.2.1 dX11_foldRow_133 (lv_at hl 6 rfl) ?_
  refine lv_aload_nQ B.1 B.2.1 dX11_foldRow_135 rfl (lv_at hl 1 rfl) ?_
  obtain ⟨a79, ea79, h⟩ := h
  have ka79 : kO σ a79 5 := g1 a79 ea79
  have h := h ka79
  refine W.eq (g2 := F0 m 136 ls [.ref a79, .long v10]) (by rw [ea79]; rfl) ?_
  refine f_geti B hH ka79 (by decide) rfl wu_X5 11 (by decide) wf_X11_76 rfl rfl dX11_foldRow_136 ?_
  refine lv_i2l B.1 B.2.1 dX11_foldRow_139 (i32_i64 (hGσ _ _)) ?_
  refine lv_ladd B.1 B.2.1 dX11_foldRow_140 ?_
  refine lv_lconst (v := 1) B.1 B.2.1 dX11_foldRow_141 (by decide) ?_
  refine lv_lsub B.1 B.2.1 dX11_foldRow_142 ?_
  refine lv_lstore (lv' := [(12, .long ((v10 + (Int64.ofInt (gI σ a79 11))) - 1)), (0, .ref th), (1, va_rf v1), (2, va_rf v2), (3, va_rf v3), (4, .long v4), (6, .long v6), (10, .long v10)]) B.1 B.2.1 dX11_foldRow_143 hl (by decide) rfl (fun ls hl => ?_)
  refine lv_aload_n B.1 B.2.1 dX11_foldRow_145 rfl (lv_at hl 1 rfl) ?_
  refine lv_aload_nQ B.1 B.2.1 dX11_foldRow_146 rfl (lv_at hl 2 rfl) ?_
  refine lv_aload_nQ B.1 B.2.1 dX11_foldRow_147 rfl (lv_at hl 3 rfl) ?_
  obtain ⟨a80, ea80, h⟩ := h
  have ka80 : kO σ a80 10 := g2 a80 ea80
  have h := h ka80
  refine W.eq (g2 := F0 m 148 ls [.ref a80, va_rf v1, .ref th]) (by rw [ea80]; rfl) ?_
  refine f_getp B hH ka80 (by decide) rfl wu_X10 2 (by decide) wf_X11_105 rfl rfl dX11_foldRow_148 ?_
  refine lv_aload_nQ B.1 B.2.1 dX11_foldRow_151 rfl (lv_at hl 4 rfl) ?_
  refine lv_lload B.1 B.2.1 dX11_foldRow_152 (lv_at hl 0 rfl) ?_
  refine W.eq (g2 := F0 m 154 ls [.long ((v10 + (Int64.ofInt (gI σ a79 11))) - 1), va_rf v3, va_rf (gP σ a80 2), va_rf v1, .ref th]) (rfl) ?_
  refine c_V B hH hl hc K.2.2.1 (C := RX11) (T := TX11) (N := 6) (ci := 11) (As := [va_rf v1, va_rf (gP σ a80 2), va_rf v3, .long ((v10 + (Int64.ofInt (gI σ a79 11))) - 1)]) (ok_X11_addToSpan hl9 K.2.1 σ th v1 (gP σ a80 2) v3 ((v10 + (Int64.ofInt (gI σ a79 11))) - 1) g1 (hYσ.get ka80 (by decide)) g3 hth hGσ hYσ h) wc_X11_212 4 hd_X11_addToSpan ⟨Nat.le_trans (Nat.le_of_ble_eq_true rfl) K.2.2.2.1, Nat.le_trans (Nat.le_of_ble_eq_true rfl) K.2.2.2.2.1⟩ hth.1 hth.2 (by decide) rfl rfl (rest := []) rfl (Nat.le_of_ble_eq_true rfl) dX11_foldRow_154 (fun σ81 w hq => ?_) (fun σ9 E9 hx9 => hX σ9 E9 _ _ _ (tb_out K.2.2.2.2.2.1 rfl) hx9.1 hx9.2.1 hx9.2.2.1 (hE.trans hx9.2.2.2))
  obtain ⟨r82, rfl, ⟨gr82, gzr82⟩, h, hGσ81, hYσ81, xσ81⟩ := hq
  have h := h xσ81
  intro H locs ls hH hl hc
  refine W.eq (g2 := F0 m 157 ls [.int (i32 r82)]) (rfl) ?_
  try dsimp only at h
  refine lv_if_ne (tgt := 179) B.1 B.2.1 dX11_foldRow_157 (by decide) (fun h9 => ?_) (fun h9 => ?_)
  · rw [if_pos (fun q => h9 ((z_eq gr82).mpr q))] at h
    exact a_X11_foldRow_179 K hQ hX hTh hK125 _ _ _ _ _ _ _ (g1.up xσ81) (g2.up xσ81) (g3.up xσ81) h hGσ81 hYσ81 (hE.trans xσ81) (hth.up xσ81) _ _ _ hH (lv_sub (l' := [(0, .ref th), (1, va_rf v1), (2, va_rf v2), (3, va_rf v3), (4, .long v4), (6, .long v6), (10, .long v10)]) hl [1, 2, 3, 4, 5, 6, 7] rfl) hc
  · rw [if_neg (fun q => q ((z_eq gr82).mp h9))] at h
    exact a_X11_foldRow_160 K hQ hX hTh hK125 _ _ _ _ _ _ _ _ (g1.up xσ81) (g2.up xσ81) (g3.up xσ81) h hGσ81 hYσ81 (hE.trans xσ81) (hth.up xσ81) _ _ _ hH (lv_sub (l' := [(0, .ref th), (1, va_rf v1), (2, va_rf v2), (3, va_rf v3), (4, .long v4), (6, .long v6), (10, .long v10), (12, .long ((v10 + (Int64.ofInt (gI σ a79 11))) - 1))]) hl [1, 2, 3, 4, 5, 6, 7, 0] rfl) hc
set_option maxRecDepth 20000 in
theorem a_X11_foldRow_125 {Q : Sg → Unit → Prop} {X : Sg → String → Prop} {th : Nat} (K : MD l R p s m args c cX11_foldRow 14 RX11 D cA tys A n0 s0 9 164 []) (hQ : CQV p l e R s m args below meth c cX11_foldRow D cA A n0 s0 QM σi Q) (hX : CX p l e R s m args below meth c 14 D cA A n0 s0 QM σi X) (hTh : CT p l e R s m args below meth c cX11_foldRow 14 D cA A n0 s0 QM σi RX11 X) {K125 : Sg → Option Nat → Option Nat → Option Nat → Int64 → Int64 → Int64 → Prop} (hK125 : ∀ (σ : Sg) (v1 : Option Nat) (v2 : Option Nat) (v3 : Option Nat) (v4 : Int64) (v6 : Int64) (v10 : Int64) (g1 : tyV σ 5 v1) (g2 : tyV σ 10 v2) (g3 : tyV σ 0 v3), K125 σ v1 v2 v3 v4 v6 v10 → RG σ → TY σ → Ext σi σ → kO σ th 11 → JJ p l e R s m args below meth c 14 D cA A n0 s0 QM σ 125 [(0, .ref th), (1, va_rf v1), (2, va_rf v2), (3, va_rf v3), (4, .long v4), (6, .long v6), (10, .long v10)] []) : ∀ (σ : Sg) (v1 : Option Nat) (v2 : Option Nat) (v3 : Option Nat) (v4 : Int64) (v6 : Int64) (v10 : Int64) (g1 : tyV σ 5 v1) (g2 : tyV σ 10 v2) (g3 : tyV σ 0 v3), w_X11_foldRow_125 th K125 Q X σ v1 v2 v3 v4 v6 v10 → RG σ → TY σ → Ext σi σ → kO σ th 11 → JJ p l e R s m args below meth c 14 D cA A n0 s0 QM σ 125 [(0, .ref th), (1, va_rf v1), (2, va_rf v2), (3, va_rf v3), (4, .long v4), (6, .long v6), (10, .long v10)] [] := by
  intro σ v1 v2 v3 v4 v6 v10 g1 g2 g3 h hGσ hYσ hE hth H locs ls hH hl hc
  have B := K.1
  have hl9 := K.2.2.2.2.2.2
  unfold w_X11_foldRow_125 at h
  refine lv_lload B.1 B.2.1 dX11_foldRow_125 (lv_at hl 6 rfl) ?_
  refine lv_lload B.1 B.2.1 dX11_foldRow_127 (lv_at hl 5 rfl) ?_
  refine W.lcmp B.1 B.2.1 dX11_foldRow_129 ?_
  refine lv_if_gt (tgt := 189) B.1 B.2.1 dX11_foldRow_130 (by decide) (fun h9 => ?_) (fun h9 => ?_)
  · rw [if_pos ((lg_cmp_gt _ _).mp h9)] at h
    exact a_X11_foldRow_189 K hQ hX hTh _ _ g3 h hGσ hYσ hE hth _ _ _ hH (lv_sub (l' := [(0, .ref th), (3, va_rf v3)]) hl [0, 3] rfl) hc
  · rw [if_neg (fun q => h9 ((lg_cmp_gt _ _).mpr q))] at h
    exact a_X11_foldRow_133 K hQ hX hTh hK125 _ _ _ _ _ _ _ g1 g2 g3 h hGσ hYσ hE hth _ _ _ hH (lv_sub (l' := [(0, .ref th), (1, va_rf v1), (2, va_rf v2), (3, va_rf v3), (4, .long v4), (6, .long v6), (10, .long v10)]) hl [0, 1, 2, 3, 4, 5, 6] rfl) hc
theorem al_X11_foldRow_125 {Q : Sg → Unit → Prop} {X : Sg → String → Prop} {th : Nat} (K : MD l R p s m args c cX11_foldRow 14 RX11 D cA tys A n0 s0 9 164 []) (hQ : CQV p l e R s m args below meth c cX11_foldRow D cA A n0 s0 QM σi Q) (hX : CX p l e R s m args below meth c 14 D cA A n0 s0 QM σi X) (hTh : CT p l e R s m args below meth c cX11_foldRow 14 D cA A n0 s0 QM σi RX11 X) : ∀ (n : Nat), ∀ (σ : Sg) (v1 : Option Nat) (v2 : Option Nat) (v3 : Option Nat) (v4 : Int64) (v6 : Int64) (v10 : Int64) (g1 : tyV σ 5 v1) (g2 : tyV σ 10 v2) (g3 : tyV σ 0 v3), wl_X11_foldRow_125 th Q X n σ v1 v2 v3 v4 v6 v10 → RG σ → TY σ → Ext σi σ → kO σ th 11 → JJ p l e R s m args below meth c 14 D cA A n0 s0 QM σ 125 [(0, .ref th), (1, va_rf v1), (2, va_rf v2), (3, va_rf v3), (4, .long v4), (6, .long v6), (10, .long v10)] [] := by
  intro n
  induction n with
  | zero => intro σ v1 v2 v3 v4 v6 v10 g1 g2 g3 h; exact h.elim
  | succ n ih => exact fun σ v1 v2 v3 v4 v6 v10 g1 g2 g3 h => a_X11_foldRow_125 K hQ hX hTh ih σ v1 v2 v3 v4 v6 v10 g1 g2 g3 h
set_option maxRecDepth 20000 in
theorem a_X11_foldRow_73 {Q : Sg → Unit → Prop} {X : Sg → String → Prop} {th : Nat} (K : MD l R p s m args c cX11_foldRow 14 RX11 D cA tys A n0 s0 9 164 []) (hQ : CQV p l e R s m args below meth c cX11_foldRow D cA A n0 s0 QM σi Q) (hX : CX p l e R s m args below meth c 14 D cA A n0 s0 QM σi X) (hTh : CT p l e R s m args below meth c cX11_foldRow 14 D cA A n0 s0 QM σi RX11 X) : ∀ (σ : Sg) (v1 : Option Nat) (v2 : Option Nat) (v3 : Option Nat) (g1 : tyV σ 5 v1) (g2 : tyV σ 10 v2) (g3 : tyV σ 0 v3), w_X11_foldRow_73 th Q X σ v1 v2 v3 → RG σ → TY σ → Ext σi σ → kO σ th 11 → JJ p l e R s m args below meth c 14 D cA A n0 s0 QM σ 73 [(0, .ref th), (1, va_rf v1), (2, va_rf v2), (3, va_rf v3)] [] := by
  intro σ v1 v2 v3 g1 g2 g3 h hGσ hYσ hE hth H locs ls hH hl hc
  have B := K.1
  have hl9 := K.2.2.2.2.2.2
  unfold w_X11_foldRow_73 at h
  refine lv_iconst (v := i32 1) B.1 B.2.1 dX11_foldRow_73 (by decide) ?_
  refine lv_aload_nQ B.1 B.2.1 dX11_foldRow_74 rfl (lv_at hl 1 rfl) ?_
  obtain ⟨a83, ea83, h⟩ := h
  have ka83 : kO σ a83 5 := g1 a83 ea83
  have h := h ka83
  refine W.eq (g2 := F0 m 75 ls [.ref a83, .int (i32 1)]) (by rw [ea83]; rfl) ?_
  refine f_geti B hH ka83 (by decide) rfl wu_X5 12 (by decide) wf_X11_209 rfl rfl dX11_foldRow_75 ?_
  refine c_S B hH hl hc K.2.2.1 (As := [.int (i32 1), .int (i32 (gI σ a83 12))]) (okC_J9_max_7cf53 hl9 K.2.1 σ 1 (gI σ a83 12) (by unfold rng; omega) (hGσ _ _) hGσ hYσ h) wc_X11_79 2 hdC_J9_max_7cf53 ⟨Nat.le_trans (Nat.le_of_ble_eq_true rfl) K.2.2.2.1, Nat.le_trans (Nat.le_of_ble_eq_true rfl) K.2.2.2.2.1⟩ rfl (rest := []) rfl (Nat.le_of_ble_eq_true rfl) dX11_foldRow_78 (fun σ84 w hq => ?_) (fun σ9 E9 hx9 => hX σ9 E9 _ _ _ (tb_out K.2.2.2.2.2.1 rfl) hx9.1 hx9.2.1 hx9.2.2.1 (hE.trans hx9.2.2.2))
  obtain ⟨r85, rfl, gr85, h, hGσ84, hYσ84, xσ84⟩ := hq
  have h := h xσ84
  intro H locs ls hH hl hc
  refine W.eq (g2 := F0 m 81 ls [.int (i32 r85)]) (rfl) ?_
  try dsimp only at h
  refine lv_i2l B.1 B.2.1 dX11_foldRow_81 (i32_i64 gr85) ?_
  refine lv_lstore (lv' := [(4, .long (Int64.ofInt r85)), (0, .ref th), (1, va_rf v1), (2, va_rf v2), (3, va_rf v3)]) B.1 B.2.1 dX11_foldRow_82 hl (by decide) (by generalize v3 = w9; cases w9 <;> rfl) (fun ls hl => ?_)
  refine lv_aload_nQ B.1 B.2.1 dX11_foldRow_84 rfl (lv_at hl 4 rfl) ?_
  obtain ⟨a86, ea86, h⟩ := h
  have ka86 : kO σ84 a86 0 := (g3.up xσ84) a86 ea86
  have h := h ka86
  refine W.eq (g2 := F0 m 85 ls [.ref a86]) (by rw [ea86]; rfl) ?_
  refine f_getl B hH ka86 (by decide) rfl wu_X0 5 (by decide) wf_X11_85 rfl rfl dX11_foldRow_85 ?_
  refine lv_lload B.1 B.2.1 dX11_foldRow_88 (lv_at hl 0 rfl) ?_
  refine c_S B hH hl hc K.2.2.1 (As := [.long (gJ σ84 a86 5), .long (Int64.ofInt r85)]) (okC_J9_floorDiv_f86c9 hl9 K.2.1 σ84 (gJ σ84 a86 5) (Int64.ofInt r85) hGσ84 hYσ84 h) wc_X11_88 2 hdC_J9_floorDiv_f86c9 ⟨Nat.le_trans (Nat.le_of_ble_eq_true rfl) K.2.2.2.1, Nat.le_trans (Nat.le_of_ble_eq_true rfl) K.2.2.2.2.1⟩ rfl (rest := []) rfl (Nat.le_of_ble_eq_true rfl) dX11_foldRow_90 (fun σ87 w hq => ?_) (fun σ9 E9 hx9 => hX σ9 E9 _ _ _ (tb_out K.2.2.2.2.2.1 rfl) hx9.1 hx9.2.1 hx9.2.2.1 ((hE.trans xσ84).trans hx9.2.2.2))
  obtain ⟨r88, rfl, h, hGσ87, hYσ87, xσ87⟩ := hq
  have h := h xσ87
  intro H locs ls hH hl hc
  refine W.eq (g2 := F0 m 93 ls [.long r88]) (rfl) ?_
  try dsimp only at h
  refine lv_lload B.1 B.2.1 dX11_foldRow_93 (lv_at hl 0 rfl) ?_
  refine lv_lmul B.1 B.2.1 dX11_foldRow_95 ?_
  refine lv_lstore (lv' := [(6, .long (r88 * (Int64.ofInt r85))), (4, .long (Int64.ofInt r85)), (0, .ref th), (1, va_rf v1), (2, va_rf v2), (3, va_rf v3)]) B.1 B.2.1 dX11_foldRow_96 hl (by decide) rfl (fun ls hl => ?_)
  refine lv_aload_nQ B.1 B.2.1 dX11_foldRow_98 rfl (lv_at hl 5 rfl) ?_
  refine W.eq (g2 := F0 m 99 ls [.ref a86]) (by rw [ea86]; rfl) ?_
  refine f_getl B hH (ka86.up xσ87) (by decide) rfl wu_X0 5 (by decide) wf_X11_85 rfl rfl dX11_foldRow_99 ?_
  refine lv_aload_nQ B.1 B.2.1 dX11_foldRow_102 rfl (lv_at hl 3 rfl) ?_
  refine W.eq (g2 := F0 m 103 ls [.ref a83, .long (gJ σ87 a86 5)]) (by rw [ea83]; rfl) ?_
  refine f_geti B hH (ka83.up (xσ84.trans xσ87)) (by decide) rfl wu_X5 11 (by decide) wf_X11_76 rfl rfl dX11_foldRow_103 ?_
  refine lv_i2l B.1 B.2.1 dX11_foldRow_106 (i32_i64 (hGσ87 _ _)) ?_
  refine lv_lsub B.1 B.2.1 dX11_foldRow_107 ?_
  refine lv_lload B.1 B.2.1 dX11_foldRow_108 (lv_at hl 1 rfl) ?_
  refine c_S B hH hl hc K.2.2.1 (As := [.long (gJ σ87 a86 5 - (Int64.ofInt (gI σ87 a83 11))), .long (Int64.ofInt r85)]) (okC_J9_floorDiv_f86c9 hl9 K.2.1 σ87 (gJ σ87 a86 5 - (Int64.ofInt (gI σ87 a83 11))) (Int64.ofInt r85) hGσ87 hYσ87 h) wc_X11_88 2 hdC_J9_floorDiv_f86c9 ⟨Nat.le_trans (Nat.le_of_ble_eq_true rfl) K.2.2.2.1, Nat.le_trans (Nat.le_of_ble_eq_true rfl) K.2.2.2.2.1⟩ rfl (rest := []) rfl (Nat.le_of_ble_eq_true rfl) dX11_foldRow_110 (fun σ89 w hq => ?_) (fun σ9 E9 hx9 => hX σ9 E9 _ _ _ (tb_out K.2.2.2.2.2.1 rfl) hx9.1 hx9.2.1 hx9.2.2.1 (((hE.trans xσ84).trans xσ87).trans hx9.2.2.2))
  obtain ⟨r90, rfl, h, hGσ89, hYσ89, xσ89⟩ := hq
  have h := h xσ89
  intro H locs ls hH hl hc
  refine W.eq (g2 := F0 m 113 ls [.long r90]) (rfl) ?_
  try dsimp only at h
  refine lv_lload B.1 B.2.1 dX11_foldRow_113 (lv_at hl 1 rfl) ?_
  refine lv_lmul B.1 B.2.1 dX11_foldRow_115 ?_
  refine lv_lload B.1 B.2.1 dX11_foldRow_116 (lv_at hl 1 rfl) ?_
  refine lv_ladd B.1 B.2.1 dX11_foldRow_118 ?_
  refine lv_lstore (lv' := [(8, .long ((r90 * (Int64.ofInt r85)) + (Int64.ofInt r85))), (6, .long (r88 * (Int64.ofInt r85))), (4, .long (Int64.ofInt r85)), (0, .ref th), (1, va_rf v1), (2, va_rf v2), (3, va_rf v3)]) B.1 B.2.1 dX11_foldRow_119 hl (by decide) rfl (fun ls hl => ?_)
  refine lv_lload B.1 B.2.1 dX11_foldRow_121 (lv_at hl 0 rfl) ?_
  refine lv_lstore (lv' := [(10, .long ((r90 * (Int64.ofInt r85)) + (Int64.ofInt r85))), (8, .long ((r90 * (Int64.ofInt r85)) + (Int64.ofInt r85))), (6, .long (r88 * (Int64.ofInt r85))), (4, .long (Int64.ofInt r85)), (0, .ref th), (1, va_rf v1), (2, va_rf v2), (3, va_rf v3)]) B.1 B.2.1 dX11_foldRow_123 hl (by decide) rfl (fun ls hl => ?_)
  obtain ⟨n9, h⟩ := h
  exact al_X11_foldRow_125 K hQ hX hTh n9 _ _ _ _ _ _ _ (g1.up (xσ84.trans (xσ87.trans xσ89))) (g2.up (xσ84.trans (xσ87.trans xσ89))) (g3.up (xσ84.trans (xσ87.trans xσ89))) h hGσ89 hYσ89 (((hE.trans xσ84).trans xσ87).trans xσ89) (hth.up (xσ84.trans (xσ87.trans xσ89))) _ _ _ hH (lv_sub (l' := [(0, .ref th), (1, va_rf v1), (2, va_rf v2), (3, va_rf v3), (4, .long (Int64.ofInt r85)), (6, .long (r88 * (Int64.ofInt r85))), (10, .long ((r90 * (Int64.ofInt r85)) + (Int64.ofInt r85)))]) hl [4, 5, 6, 7, 3, 2, 0] rfl) hc
set_option maxRecDepth 20000 in
theorem a_X11_foldRow_21 {Q : Sg → Unit → Prop} {X : Sg → String → Prop} {th : Nat} (K : MD l R p s m args c cX11_foldRow 14 RX11 D cA tys A n0 s0 9 164 []) (hQ : CQV p l e R s m args below meth c cX11_foldRow D cA A n0 s0 QM σi Q) (hX : CX p l e R s m args below meth c 14 D cA A n0 s0 QM σi X) (hTh : CT p l e R s m args below meth c cX11_foldRow 14 D cA A n0 s0 QM σi RX11 X) : ∀ (σ : Sg) (v1 : Option Nat) (v2 : Option Nat) (v3 : Option Nat) (g1 : tyV σ 5 v1) (g2 : tyV σ 10 v2) (g3 : tyV σ 0 v3), w_X11_foldRow_21 th Q X σ v1 v2 v3 → RG σ → TY σ → Ext σi σ → kO σ th 11 → JJ p l e R s m args below meth c 14 D cA A n0 s0 QM σ 21 [(0, .ref th), (1, va_rf v1), (2, va_rf v2), (3, va_rf v3)] [] := by
  intro σ v1 v2 v3 g1 g2 g3 h hGσ hYσ hE hth H locs ls hH hl hc
  have B := K.1
  have hl9 := K.2.2.2.2.2.2
  unfold w_X11_foldRow_21 at h
  refine lv_aload_n B.1 B.2.1 dX11_foldRow_21 rfl (lv_at hl 0 rfl) ?_
  refine lv_aload_nQ B.1 B.2.1 dX11_foldRow_22 rfl (lv_at hl 1 rfl) ?_
  refine lv_aload_nQ B.1 B.2.1 dX11_foldRow_23 rfl (lv_at hl 3 rfl) ?_
  refine lv_aload_nQ B.1 B.2.1 dX11_foldRow_24 rfl (lv_at hl 3 rfl) ?_
  obtain ⟨a91, ea91, h⟩ := h
  have ka91 : kO σ a91 0 := g3 a91 ea91
  have h := h ka91
  refine W.eq (g2 := F0 m 25 ls [.ref a91, va_rf v3, va_rf v1, .ref th]) (by rw [ea91]; rfl) ?_
  refine f_getl B hH ka91 (by decide) rfl wu_X0 5 (by decide) wf_X11_85 rfl rfl dX11_foldRow_25 ?_
  refine W.eq (g2 := F0 m 28 ls [.long (gJ σ a91 5), va_rf v3, va_rf v1, .ref th]) (rfl) ?_
  refine c_V B hH hl hc K.2.2.1 (C := RX11) (T := TX11) (N := 6) (ci := 11) (As := [va_rf v1, va_rf v3, .long (gJ σ a91 5)]) (ok_X11_newFold hl9 K.2.1 σ th v1 v3 (gJ σ a91 5) g1 g3 hth hGσ hYσ h) wc_X11_201 3 hd_X11_newFold ⟨Nat.le_trans (Nat.le_of_ble_eq_true rfl) K.2.2.2.1, Nat.le_trans (Nat.le_of_ble_eq_true rfl) K.2.2.2.2.1⟩ hth.1 hth.2 (by decide) rfl rfl (rest := []) rfl (Nat.le_of_ble_eq_true rfl) dX11_foldRow_28 (fun σ92 w hq => ?_) (fun σ9 E9 hx9 => hX σ9 E9 _ _ _ (tb_out K.2.2.2.2.2.1 rfl) hx9.1 hx9.2.1 hx9.2.2.1 (hE.trans hx9.2.2.2))
  obtain ⟨r93, rfl, tr93, h, hGσ92, hYσ92, xσ92⟩ := hq
  have h := h xσ92 tr93
  intro H locs ls hH hl hc
  refine W.eq (g2 := F0 m 31 ls [va_rf r93]) (rfl) ?_
  try dsimp only at h
  refine lv_astoreQ (lv' := [(4, va_rf r93), (0, .ref th), (1, va_rf v1), (2, va_rf v2), (3, va_rf v3)]) B.1 B.2.1 dX11_foldRow_31 hl (by decide) (by generalize v3 = w9; cases w9 <;> rfl) (fun ls hl => ?_)
  refine lv_aloadQ B.1 B.2.1 dX11_foldRow_33 (lv_at hl 0 rfl) ?_
  refine lv_aload_nQ B.1 B.2.1 dX11_foldRow_35 rfl (lv_at hl 4 rfl) ?_
  refine W.eq (g2 := F0 m 36 ls [.ref a91, va_rf r93]) (by rw [ea91]; rfl) ?_
  refine f_getl B hH (ka91.up xσ92) (by decide) rfl wu_X0 5 (by decide) wf_X11_85 rfl rfl dX11_foldRow_36 ?_
  obtain ⟨a94, ea94, h⟩ := h
  have ka94 : kO σ92 a94 0 := tr93 a94 ea94
  have h := h ka94
  obtain ⟨σ95, eσ95⟩ : ∃ z, z = pJ σ92 a94 6 (gJ σ92 a91 5) := ⟨_, rfl⟩
  have h := h σ95 eσ95
  refine W.eq (g2 := F0 m 39 ls [.long (gJ σ92 a91 5), .ref a94]) (by rw [ea94]; rfl) ?_
  refine f_putl B hH ka94 (by decide) rfl wu_X0 tyX0 tyX0_ok nmX0 6 (by decide) wf_X11_92 rfl (ty := .long) rfl rfl rfl rfl rfl dX11_foldRow_39 (fun H locs hH => ?_)
  have hH : Hd D cA A s (pJ σ92 a94 6 (gJ σ92 a91 5)) H locs := hH
  rw [← eσ95] at hH
  have hGσ95 : RG σ95 := by rw [eσ95]; exact hGσ92.pJ
  have hYσ95 : TY σ95 := by rw [eσ95]; exact hYσ92.pJ
  have xσ95 : Ext σ92 σ95 := by rw [eσ95]; exact Ext.pJ
  have hc : CB n0 s0 σ95 := by rw [eσ95]; exact hc
  rw [show gc σ92 = gc σ95 by rw [eσ95]; try rfl, show gs σ92 = gs σ95 by rw [eσ95]; try rfl]
  refine lv_aload_n B.1 B.2.1 dX11_foldRow_42 rfl (lv_at hl 1 rfl) ?_
  refine lv_aload_nQ B.1 B.2.1 dX11_foldRow_43 rfl (lv_at hl 2 rfl) ?_
  refine lv_aload_nQ B.1 B.2.1 dX11_foldRow_44 rfl (lv_at hl 3 rfl) ?_
  obtain ⟨a96, ea96, h⟩ := h
  have ka96 : kO σ95 a96 10 := (g2.up (xσ92.trans xσ95)) a96 ea96
  have h := h ka96
  refine W.eq (g2 := F0 m 45 ls [.ref a96, va_rf v1, .ref th]) (by rw [ea96]; rfl) ?_
  refine f_getp B hH ka96 (by decide) rfl wu_X10 2 (by decide) wf_X11_105 rfl rfl dX11_foldRow_45 ?_
  refine lv_aloadQ B.1 B.2.1 dX11_foldRow_48 (lv_at hl 0 rfl) ?_
  refine lv_aload_nQ B.1 B.2.1 dX11_foldRow_50 rfl (lv_at hl 4 rfl) ?_
  refine W.eq (g2 := F0 m 51 ls [.ref a91, va_rf r93, va_rf (gP σ95 a96 2), va_rf v1, .ref th]) (by rw [ea91]; rfl) ?_
  refine f_getl B hH (ka91.up (xσ92.trans xσ95)) (by decide) rfl wu_X0 5 (by decide) wf_X11_85 rfl rfl dX11_foldRow_51 ?_
  refine W.eq (g2 := F0 m 54 ls [.long (gJ σ95 a91 5), va_rf r93, va_rf (gP σ95 a96 2), va_rf v1, .ref th]) (rfl) ?_
  refine c_V B hH hl hc K.2.2.1 (C := RX11) (T := TX11) (N := 6) (ci := 11) (As := [va_rf v1, va_rf (gP σ95 a96 2), va_rf r93, .long (gJ σ95 a91 5)]) (ok_X11_addNearTo hl9 K.2.1 σ95 th v1 (gP σ95 a96 2) r93 (gJ σ95 a91 5) (g1.up (xσ92.trans xσ95)) (hYσ95.get ka96 (by decide)) (tr93.up xσ95) (hth.up (xσ92.trans xσ95)) hGσ95 hYσ95 h) wc_X11_205 4 hd_X11_addNearTo ⟨Nat.le_trans (Nat.le_of_ble_eq_true rfl) K.2.2.2.1, Nat.le_trans (Nat.le_of_ble_eq_true rfl) K.2.2.2.2.1⟩ (hth.up (xσ92.trans xσ95)).1 (hth.up (xσ92.trans xσ95)).2 (by decide) rfl rfl (rest := []) rfl (Nat.le_of_ble_eq_true rfl) dX11_foldRow_54 (fun σ97 w hq => ?_) (fun σ9 E9 hx9 => hX σ9 E9 _ _ _ (tb_out K.2.2.2.2.2.1 rfl) hx9.1 hx9.2.1 hx9.2.2.1 (((hE.trans xσ92).trans xσ95).trans hx9.2.2.2))
  obtain ⟨rfl, h, hGσ97, hYσ97, xσ97⟩ := hq
  have h := h xσ97
  intro H locs ls hH hl hc
  refine W.eq (g2 := F0 m 57 ls []) (rfl) ?_
  try dsimp only at h
  refine lv_aload_n B.1 B.2.1 dX11_foldRow_57 rfl (lv_at hl 1 rfl) ?_
  refine W.eq (g2 := F0 m 58 ls [.ref th]) (rfl) ?_
  refine c_V B hH hl hc K.2.2.1 (C := RX11) (T := TX11) (N := 6) (ci := 11) (As := []) (ok_X11_countRecord hl9 K.2.1 σ97 th (hth.up (xσ92.trans (xσ95.trans xσ97))) hGσ97 hYσ97 h) wc_X11_155 0 hd_X11_countRecord ⟨Nat.le_trans (Nat.le_of_ble_eq_true rfl) K.2.2.2.1, Nat.le_trans (Nat.le_of_ble_eq_true rfl) K.2.2.2.2.1⟩ (hth.up (xσ92.trans (xσ95.trans xσ97))).1 (hth.up (xσ92.trans (xσ95.trans xσ97))).2 (by decide) rfl rfl (rest := []) rfl (Nat.le_of_ble_eq_true rfl) dX11_foldRow_58 (fun σ98 w hq => ?_) (fun σ9 E9 hx9 => hX σ9 E9 _ _ _ (tb_out K.2.2.2.2.2.1 rfl) hx9.1 hx9.2.1 hx9.2.2.1 ((((hE.trans xσ92).trans xσ95).trans xσ97).trans hx9.2.2.2))
  obtain ⟨rfl, h, hGσ98, hYσ98, xσ98⟩ := hq
  have h := h xσ98
  intro H locs ls hH hl hc
  refine W.eq (g2 := F0 m 61 ls []) (rfl) ?_
  try dsimp only at h
  refine lv_aload_nQ B.1 B.2.1 dX11_foldRow_61 rfl (lv_at hl 3 rfl) ?_
  refine W.eq (g2 := F0 m 62 ls [.ref a96]) (by rw [ea96]; rfl) ?_
  refine f_getp B hH (ka96.up (xσ97.trans xσ98)) (by decide) rfl wu_X10 2 (by decide) wf_X11_105 rfl rfl dX11_foldRow_62 ?_
  refine lv_aloadQ B.1 B.2.1 dX11_foldRow_65 (lv_at hl 0 rfl) ?_
  obtain ⟨a100, ea100, h⟩ := h
  have ka100 : kO σ98 a100 1 := (hYσ98.get (ka96.up (xσ97.trans xσ98)) (by decide)) a100 ea100
  have h := h ka100
  refine W.eq (g2 := F0 m 67 ls [va_rf r93, .ref a100]) (by rw [ea100]; rfl) ?_
  refine c_V B hH hl hc K.2.2.1 (C := RX1) (T := TX1) (N := 3) (ci := 1) (As := [va_rf r93]) (ok_X1_add hl9 K.2.1 σ98 a100 r93 (tr93.up (xσ95.trans (xσ97.trans xσ98))) ka100 hGσ98 hYσ98 h) wc_X11_42 1 hd_X1_add ⟨Nat.le_trans (Nat.le_of_ble_eq_true rfl) K.2.2.2.1, Nat.le_trans (Nat.le_of_ble_eq_true rfl) K.2.2.2.2.1⟩ ka100.1 ka100.2 (by decide) rfl rfl (rest := []) rfl (Nat.le_of_ble_eq_true rfl) dX11_foldRow_67 (fun σ99 w hq => ?_) (fun σ9 E9 hx9 => hX σ9 E9 _ _ _ (tb_out K.2.2.2.2.2.1 rfl) hx9.1 hx9.2.1 hx9.2.2.1 (((((hE.trans xσ92).trans xσ95).trans xσ97).trans xσ98).trans hx9.2.2.2))
  obtain ⟨rfl, h, hGσ99, hYσ99, xσ99⟩ := hq
  have h := h xσ99
  intro H locs ls hH hl hc
  refine W.eq (g2 := F0 m 70 ls []) (rfl) ?_
  try dsimp only at h
  refine lv_goto (tgt := 189) B.1 B.2.1 dX11_foldRow_70 (by decide) ?_
  exact a_X11_foldRow_189 K hQ hX hTh _ _ (g3.up (xσ92.trans (xσ95.trans (xσ97.trans (xσ98.trans xσ99))))) h hGσ99 hYσ99 (((((hE.trans xσ92).trans xσ95).trans xσ97).trans xσ98).trans xσ99) (hth.up (xσ92.trans (xσ95.trans (xσ97.trans (xσ98.trans xσ99))))) _ _ _ hH (lv_sub (l' := [(0, .ref th), (3, va_rf v3)]) hl [1, 4] rfl) hc
set_option maxRecDepth 20000 in
theorem a_X11_foldRow_0 {Q : Sg → Unit → Prop} {X : Sg → String → Prop} {th : Nat} (K : MD l R p s m args c cX11_foldRow 14 RX11 D cA tys A n0 s0 9 164 []) (hQ : CQV p l e R s m args below meth c cX11_foldRow D cA A n0 s0 QM σi Q) (hX : CX p l e R s m args below meth c 14 D cA A n0 s0 QM σi X) (hTh : CT p l e R s m args below meth c cX11_foldRow 14 D cA A n0 s0 QM σi RX11 X) : ∀ (σ : Sg) (v1 : Option Nat) (v2 : Option Nat) (v3 : Option Nat) (g1 : tyV σ 5 v1) (g2 : tyV σ 10 v2) (g3 : tyV σ 0 v3), w_X11_foldRow_0 th Q X σ v1 v2 v3 → RG σ → TY σ → Ext σi σ → kO σ th 11 → JJ p l e R s m args below meth c 14 D cA A n0 s0 QM σ 0 [(0, .ref th), (1, va_rf v1), (2, va_rf v2), (3, va_rf v3)] [] := by
  intro σ v1 v2 v3 g1 g2 g3 h hGσ hYσ hE hth H locs ls hH hl hc
  have B := K.1
  have hl9 := K.2.2.2.2.2.2
  unfold w_X11_foldRow_0 at h
  refine lv_aload_nQ B.1 B.2.1 dX11_foldRow_0 rfl (lv_at hl 3 rfl) ?_
  refine lv_aload_nQ B.1 B.2.1 dX11_foldRow_1 rfl (lv_at hl 3 rfl) ?_
  obtain ⟨a101, ea101, h⟩ := h
  have ka101 : kO σ a101 0 := g3 a101 ea101
  have h := h ka101
  refine W.eq (g2 := F0 m 2 ls [.ref a101, va_rf v3]) (by rw [ea101]; rfl) ?_
  refine f_getp B hH ka101 (by decide) rfl wu_X0 0 (by decide) wf_X11_64 rfl rfl dX11_foldRow_2 ?_
  refine lv_aload_nQ B.1 B.2.1 dX11_foldRow_5 rfl (lv_at hl 1 rfl) ?_
  obtain ⟨a102, ea102, h⟩ := h
  have ka102 : kO σ a102 5 := g1 a102 ea102
  have h := h ka102
  refine W.eq (g2 := F0 m 6 ls [.ref a102, va_rf (gP σ a101 0), va_rf v3]) (by rw [ea102]; rfl) ?_
  refine f_geti B hH ka102 (by decide) rfl wu_X5 13 (by decide) wf_X11_69 rfl rfl dX11_foldRow_6 ?_
  obtain ⟨a103, ea103, h⟩ := h
  have ka103 : kO σ a103 101 := (hYσ.get ka101 (by decide)) a103 ea103
  have h := h ka103
  obtain ⟨q1, h⟩ := h
  refine W.eq (g2 := F0 m 9 ls [.int (i32 (gI σ a102 13)), .ref a103, va_rf v3]) (by rw [ea103]; rfl) ?_
  refine y_lald B K.2.1 hH ka103 q1 dX11_foldRow_9 (hYσ.2 _) ?_
  obtain ⟨σ104, eσ104⟩ : ∃ z, z = pJ σ a101 7 (gJ σ a103 (gI σ a102 13).toNat) := ⟨_, rfl⟩
  have h := h σ104 eσ104
  refine W.eq (g2 := F0 m 10 ls [.long (gJ σ a103 (gI σ a102 13).toNat), .ref a101]) (by rw [ea101]; rfl) ?_
  refine f_putl B hH ka101 (by decide) rfl wu_X0 tyX0 tyX0_ok nmX0 7 (by decide) wf_X11_72 rfl (ty := .long) rfl rfl rfl rfl rfl dX11_foldRow_10 (fun H locs hH => ?_)
  have hH : Hd D cA A s (pJ σ a101 7 (gJ σ a103 (gI σ a102 13).toNat)) H locs := hH
  rw [← eσ104] at hH
  have hGσ104 : RG σ104 := by rw [eσ104]; exact hGσ.pJ
  have hYσ104 : TY σ104 := by rw [eσ104]; exact hYσ.pJ
  have xσ104 : Ext σ σ104 := by rw [eσ104]; exact Ext.pJ
  have hc : CB n0 s0 σ104 := by rw [eσ104]; exact hc
  rw [show gc σ = gc σ104 by rw [eσ104]; try rfl, show gs σ = gs σ104 by rw [eσ104]; try rfl]
  refine lv_aload_nQ B.1 B.2.1 dX11_foldRow_13 rfl (lv_at hl 1 rfl) ?_
  refine W.eq (g2 := F0 m 14 ls [.ref a102]) (by rw [ea102]; rfl) ?_
  refine f_geti B hH (ka102.up xσ104) (by decide) rfl wu_X5 6 (by decide) wf_X11_30 rfl rfl dX11_foldRow_14 ?_
  refine lv_iconst (v := i32 5) B.1 B.2.1 dX11_foldRow_17 (by decide) ?_
  refine lv_icmp_ne (tgt := 73) B.1 B.2.1 dX11_foldRow_18 (by decide) (fun h9 => ?_) (fun h9 => ?_)
  · rw [if_pos (fun q => h9 ((i32_eq (hGσ104 _ _) (by unfold rng; omega)).mpr q))] at h
    exact a_X11_foldRow_73 K hQ hX hTh _ _ _ _ (g1.up xσ104) (g2.up xσ104) (g3.up xσ104) h hGσ104 hYσ104 (hE.trans xσ104) (hth.up xσ104) _ _ _ hH (lv_sub (l' := [(0, .ref th), (1, va_rf v1), (2, va_rf v2), (3, va_rf v3)]) hl [0, 1, 2, 3] rfl) hc
  · rw [if_neg (fun q => q ((i32_eq (hGσ104 _ _) (by unfold rng; omega)).mp h9))] at h
    exact a_X11_foldRow_21 K hQ hX hTh _ _ _ _ (g1.up xσ104) (g2.up xσ104) (g3.up xσ104) h hGσ104 hYσ104 (hE.trans xσ104) (hth.up xσ104) _ _ _ hH (lv_sub (l' := [(0, .ref th), (1, va_rf v1), (2, va_rf v2), (3, va_rf v3)]) hl [0, 1, 2, 3] rfl) hc
theorem ok_X11_foldRow (hl0 : l.stackTraces = false) (hT : TyC cA tys) {Q : Sg → Unit → Prop} {X : Sg → String → Prop} (σ : Sg) (th : Nat) (v1 : Option Nat) (v2 : Option Nat) (v3 : Option Nat) (g1 : tyV σ 5 v1) (g2 : tyV σ 10 v2) (g3 : tyV σ 0 v3) (hth : kO σ th 11) (hG : RG σ) (hY : TY σ) (h : wp_X11_foldRow th v1 v2 v3 σ Q X) : Ok l D cA tys A yX11_foldRow (.code yX11_foldRow cX11_foldRow 14 none) 9 164 [.ref th, va_rf v1, va_rf v2, va_rf v3] σ (QcV σ Q) (QxC σ X) := by
  unfold wp_X11_foldRow at h
  exact oc_V hl0 (by decide) (by cases v1 <;> cases v2 <;> cases v3 <;> exact Nat.le_of_ble_eq_true rfl) hT (fun p e R s m args below meth c K hQ hX hTh hin9 H locs ls hH hl hc => a_X11_foldRow_0 K hQ hX hTh σ v1 v2 v3 g1 g2 g3 h hG hY (Ext.rfl' σ) hth H locs ls hH (lv_sub (l' := [(0, .ref th), (1, va_rf v1), (2, va_rf v2), (3, va_rf v3)]) hl [0, 1, 2, 3] (by cases v1 <;> cases v2 <;> cases v3 <;> rfl)) hc)
theorem dX11_addPair_0 : decode cX11_addPair 0 = .ok (.aload_n 0, 1) := by decide +kernel
theorem dX11_addPair_1 : decode cX11_addPair 1 = .ok (.getfield 136, 3) := by decide +kernel
theorem dX11_addPair_4 : decode cX11_addPair 4 = .ok (.getfield 140, 3) := by decide +kernel
theorem dX11_addPair_7 : decode cX11_addPair 7 = .ok (.aload_n 1, 1) := by decide +kernel
theorem dX11_addPair_8 : decode cX11_addPair 8 = .ok (.getfield 149, 3) := by decide +kernel
theorem dX11_addPair_11 : decode cX11_addPair 11 = .ok (.aaload, 1) := by decide +kernel
theorem dX11_addPair_12 : decode cX11_addPair 12 = .ok (.getfield 152, 3) := by decide +kernel
theorem dX11_addPair_15 : decode cX11_addPair 15 = .ok (.istore 6, 2) := by decide +kernel
theorem dX11_addPair_17 : decode cX11_addPair 17 = .ok (.aload_n 0, 1) := by decide +kernel
theorem dX11_addPair_18 : decode cX11_addPair 18 = .ok (.getfield 22, 3) := by decide +kernel
theorem dX11_addPair_21 : decode cX11_addPair 21 = .ok (.aload_n 2, 1) := by decide +kernel
theorem dX11_addPair_22 : decode cX11_addPair 22 = .ok (.getfield 195, 3) := by decide +kernel
theorem dX11_addPair_25 : decode cX11_addPair 25 = .ok (.aload_n 3, 1) := by decide +kernel
theorem dX11_addPair_26 : decode cX11_addPair 26 = .ok (.getfield 195, 3) := by decide +kernel
theorem dX11_addPair_29 : decode cX11_addPair 29 = .ok (.invokevirtual 228, 3) := by decide +kernel
theorem dX11_addPair_32 : decode cX11_addPair 32 = .ok (.istore 7, 2) := by decide +kernel
theorem dX11_addPair_34 : decode cX11_addPair 34 = .ok (.aload_n 0, 1) := by decide +kernel
theorem dX11_addPair_35 : decode cX11_addPair 35 = .ok (.getfield 22, 3) := by decide +kernel
theorem dX11_addPair_38 : decode cX11_addPair 38 = .ok (.invokevirtual 191, 3) := by decide +kernel
theorem dX11_addPair_41 : decode cX11_addPair 41 = .ok (.astore 8, 2) := by decide +kernel
theorem dX11_addPair_43 : decode cX11_addPair 43 = .ok (.aload 8, 2) := by decide +kernel
theorem dX11_addPair_45 : decode cX11_addPair 45 = .ok (.lload 4, 2) := by decide +kernel
theorem dX11_addPair_47 : decode cX11_addPair 47 = .ok (.putfield 85, 3) := by decide +kernel
theorem dX11_addPair_50 : decode cX11_addPair 50 = .ok (.aload 8, 2) := by decide +kernel
theorem dX11_addPair_52 : decode cX11_addPair 52 = .ok (.iload 7, 2) := by decide +kernel
theorem dX11_addPair_54 : decode cX11_addPair 54 = .ok (.putfield 195, 3) := by decide +kernel
theorem dX11_addPair_57 : decode cX11_addPair 57 = .ok (.aload_n 2, 1) := by decide +kernel
theorem dX11_addPair_58 : decode cX11_addPair 58 = .ok (.getfield 64, 3) := by decide +kernel
theorem dX11_addPair_61 : decode cX11_addPair 61 = .ok (.iconst 0, 1) := by decide +kernel
theorem dX11_addPair_62 : decode cX11_addPair 62 = .ok (.aload 8, 2) := by decide +kernel
theorem dX11_addPair_64 : decode cX11_addPair 64 = .ok (.getfield 64, 3) := by decide +kernel
theorem dX11_addPair_67 : decode cX11_addPair 67 = .ok (.iconst 0, 1) := by decide +kernel
theorem dX11_addPair_68 : decode cX11_addPair 68 = .ok (.iload 6, 2) := by decide +kernel
theorem dX11_addPair_70 : decode cX11_addPair 70 = .ok (.invokestatic 219, 3) := by decide +kernel
theorem dX11_addPair_73 : decode cX11_addPair 73 = .ok (.aload_n 3, 1) := by decide +kernel
theorem dX11_addPair_74 : decode cX11_addPair 74 = .ok (.getfield 64, 3) := by decide +kernel
theorem dX11_addPair_77 : decode cX11_addPair 77 = .ok (.iconst 0, 1) := by decide +kernel
theorem dX11_addPair_78 : decode cX11_addPair 78 = .ok (.aload 8, 2) := by decide +kernel
theorem dX11_addPair_80 : decode cX11_addPair 80 = .ok (.getfield 64, 3) := by decide +kernel
theorem dX11_addPair_83 : decode cX11_addPair 83 = .ok (.iload 6, 2) := by decide +kernel
theorem dX11_addPair_85 : decode cX11_addPair 85 = .ok (.aload_n 1, 1) := by decide +kernel
theorem dX11_addPair_86 : decode cX11_addPair 86 = .ok (.getfield 152, 3) := by decide +kernel
theorem dX11_addPair_89 : decode cX11_addPair 89 = .ok (.iload 6, 2) := by decide +kernel
theorem dX11_addPair_91 : decode cX11_addPair 91 = .ok (.isub, 1) := by decide +kernel
theorem dX11_addPair_92 : decode cX11_addPair 92 = .ok (.invokestatic 219, 3) := by decide +kernel
theorem dX11_addPair_95 : decode cX11_addPair 95 = .ok (.aload_n 0, 1) := by decide +kernel
theorem dX11_addPair_96 : decode cX11_addPair 96 = .ok (.getfield 12, 3) := by decide +kernel
theorem dX11_addPair_99 : decode cX11_addPair 99 = .ok (.aload 8, 2) := by decide +kernel
theorem dX11_addPair_101 : decode cX11_addPair 101 = .ok (.invokevirtual 42, 3) := by decide +kernel
theorem dX11_addPair_104 : decode cX11_addPair 104 = .ok (.return_, 1) := by decide +kernel
set_option maxRecDepth 20000 in
theorem a_X11_addPair_0 {Q : Sg → Unit → Prop} {X : Sg → String → Prop} {th : Nat} (K : MD l R p s m args c cX11_addPair 9 RX11 D cA tys A n0 s0 8 136 []) (hQ : CQV p l e R s m args below meth c cX11_addPair D cA A n0 s0 QM σi Q) (hX : CX p l e R s m args below meth c 9 D cA A n0 s0 QM σi X) (hTh : CT p l e R s m args below meth c cX11_addPair 9 D cA A n0 s0 QM σi RX11 X) : ∀ (σ : Sg) (v1 : Option Nat) (v2 : Option Nat) (v3 : Option Nat) (v4 : Int64) (g1 : tyV σ 5 v1) (g2 : tyV σ 0 v2) (g3 : tyV σ 0 v3), w_X11_addPair_0 th Q X σ v1 v2 v3 v4 → RG σ → TY σ → Ext σi σ → kO σ th 11 → JJ p l e R s m args below meth c 9 D cA A n0 s0 QM σ 0 [(0, .ref th), (1, va_rf v1), (2, va_rf v2), (3, va_rf v3), (4, .long v4)] [] := by
  intro σ v1 v2 v3 v4 g1 g2 g3 h hGσ hYσ hE hth H locs ls hH hl hc
  have B := K.1
  have hl9 := K.2.2.2.2.2.2
  unfold w_X11_addPair_0 at h
  refine lv_aload_n B.1 B.2.1 dX11_addPair_0 rfl (lv_at hl 0 rfl) ?_
  refine f_getp B hH hth (by decide) rfl wu_X11 5 (by decide) wf_X11_136 rfl rfl dX11_addPair_1 ?_
  obtain ⟨a47, ea47, h⟩ := h
  have ka47 : kO σ a47 4 := (hYσ.get hth (by decide)) a47 ea47
  have h := h ka47
  refine W.eq (g2 := F0 m 4 ls [.ref a47]) (by rw [ea47]; rfl) ?_
  refine f_getp B hH ka47 (by decide) rfl wu_X4 0 (by decide) wf_X11_140 rfl rfl dX11_addPair_4 ?_
  refine lv_aload_nQ B.1 B.2.1 dX11_addPair_7 rfl (lv_at hl 1 rfl) ?_
  obtain ⟨a48, ea48, h⟩ := h
  have ka48 : kO σ a48 5 := g1 a48 ea48
  have h := h ka48
  refine W.eq (g2 := F0 m 8 ls [.ref a48, va_rf (gP σ a47 0)]) (by rw [ea48]; rfl) ?_
  refine f_geti B hH ka48 (by decide) rfl wu_X5 7 (by decide) wf_X11_149 rfl rfl dX11_addPair_8 ?_
  obtain ⟨a49, ea49, h⟩ := h
  have ka49 : kO σ a49 115 := (hYσ.get ka47 (by decide)) a49 ea49
  have h := h ka49
  obtain ⟨q1, h⟩ := h
  refine W.eq (g2 := F0 m 11 ls [.int (i32 (gI σ a48 7)), .ref a49]) (by rw [ea49]; rfl) ?_
  refine y_aald B hH (t0 := 6) ka49 (by decide) K.2.1.2.2.2.1 q1 (hYσ.2 _) dX11_addPair_11 ?_
  obtain ⟨a50, ea50, h⟩ := h
  have ka50 : kO σ a50 5 := (hYσ.get ka49 rfl) a50 ea50
  have h := h ka50
  refine W.eq (g2 := F0 m 12 ls [.ref a50]) (by rw [ea50]; rfl) ?_
  refine f_geti B hH ka50 (by decide) rfl wu_X5 3 (by decide) wf_X11_152 rfl rfl dX11_addPair_12 ?_
  refine lv_istore (lv' := [(6, .int (i32 (gI σ a50 3))), (0, .ref th), (1, va_rf v1), (2, va_rf v2), (3, va_rf v3), (4, .long v4)]) B.1 B.2.1 dX11_addPair_15 hl (by decide) rfl (fun ls hl => ?_)
  refine lv_aload_n B.1 B.2.1 dX11_addPair_17 rfl (lv_at hl 1 rfl) ?_
  refine f_getp B hH hth (by decide) rfl wu_X11 0 (by decide) wf_X11_22 rfl rfl dX11_addPair_18 ?_
  refine lv_aload_nQ B.1 B.2.1 dX11_addPair_21 rfl (lv_at hl 3 rfl) ?_
  obtain ⟨a51, ea51, h⟩ := h
  have ka51 : kO σ a51 0 := g2 a51 ea51
  have h := h ka51
  refine W.eq (g2 := F0 m 22 ls [.ref a51, va_rf (gP σ th 0)]) (by rw [ea51]; rfl) ?_
  refine f_geti B hH ka51 (by decide) rfl wu_X0 4 (by decide) wf_X11_195 rfl rfl dX11_addPair_22 ?_
  refine lv_aload_nQ B.1 B.2.1 dX11_addPair_25 rfl (lv_at hl 4 rfl) ?_
  obtain ⟨a52, ea52, h⟩ := h
  have ka52 : kO σ a52 0 := g3 a52 ea52
  have h := h ka52
  refine W.eq (g2 := F0 m 26 ls [.ref a52, .int (i32 (gI σ a51 4)), va_rf (gP σ th 0)]) (by rw [ea52]; rfl) ?_
  refine f_geti B hH ka52 (by decide) rfl wu_X0 4 (by decide) wf_X11_195 rfl rfl dX11_addPair_26 ?_
  obtain ⟨a55, ea55, h⟩ := h
  have ka55 : kO σ a55 8 := (hYσ.get hth (by decide)) a55 ea55
  have h := h ka55
  refine W.eq (g2 := F0 m 29 ls [.int (i32 (gI σ a52 4)), .int (i32 (gI σ a51 4)), .ref a55]) (by rw [ea55]; rfl) ?_
  refine c_V B hH hl hc K.2.2.1 (C := RX8) (T := TX8) (N := 3) (ci := 8) (As := [.int (i32 (gI σ a51 4)), .int (i32 (gI σ a52 4))]) (ok_X8_together hl9 K.2.1 σ a55 (gI σ a51 4) (gI σ a52 4) (hGσ _ _) (hGσ _ _) ka55 hGσ hYσ h) wc_X11_228 2 hd_X8_together ⟨Nat.le_trans (Nat.le_of_ble_eq_true rfl) K.2.2.2.1, Nat.le_trans (Nat.le_of_ble_eq_true rfl) K.2.2.2.2.1⟩ ka55.1 ka55.2 (by decide) rfl rfl (rest := []) rfl (Nat.le_of_ble_eq_true rfl) dX11_addPair_29 (fun σ53 w hq => ?_) (fun σ9 E9 hx9 => hX σ9 E9 _ _ _ (tb_out K.2.2.2.2.2.1 rfl) hx9.1 hx9.2.1 hx9.2.2.1 (hE.trans hx9.2.2.2))
  obtain ⟨r54, rfl, gr54, h, hGσ53, hYσ53, xσ53⟩ := hq
  have h := h xσ53
  intro H locs ls hH hl hc
  refine W.eq (g2 := F0 m 32 ls [.int (i32 r54)]) (rfl) ?_
  try dsimp only at h
  refine lv_istore (lv' := [(7, .int (i32 r54)), (6, .int (i32 (gI σ a50 3))), (0, .ref th), (1, va_rf v1), (2, va_rf v2), (3, va_rf v3), (4, .long v4)]) B.1 B.2.1 dX11_addPair_32 hl (by decide) rfl (fun ls hl => ?_)
  refine lv_aload_n B.1 B.2.1 dX11_addPair_34 rfl (lv_at hl 2 rfl) ?_
  refine f_getp B hH (hth.up xσ53) (by decide) rfl wu_X11 0 (by decide) wf_X11_22 rfl rfl dX11_addPair_35 ?_
  obtain ⟨a58, ea58, h⟩ := h
  have ka58 : kO σ53 a58 8 := (hYσ53.get (hth.up xσ53) (by decide)) a58 ea58
  have h := h ka58
  refine W.eq (g2 := F0 m 38 ls [.ref a58]) (by rw [ea58]; rfl) ?_
  refine c_V B hH hl hc K.2.2.1 (C := RX8) (T := TX8) (N := 3) (ci := 8) (As := []) (ok_X8_fresh hl9 K.2.1 σ53 a58 ka58 hGσ53 hYσ53 h) wc_X11_191 0 hd_X8_fresh ⟨Nat.le_trans (Nat.le_of_ble_eq_true rfl) K.2.2.2.1, Nat.le_trans (Nat.le_of_ble_eq_true rfl) K.2.2.2.2.1⟩ ka58.1 ka58.2 (by decide) rfl rfl (rest := []) rfl (Nat.le_of_ble_eq_true rfl) dX11_addPair_38 (fun σ56 w hq => ?_) (fun σ9 E9 hx9 => hX σ9 E9 _ _ _ (tb_out K.2.2.2.2.2.1 rfl) hx9.1 hx9.2.1 hx9.2.2.1 ((hE.trans xσ53).trans hx9.2.2.2))
  obtain ⟨r57, rfl, tr57, h, hGσ56, hYσ56, xσ56⟩ := hq
  have h := h xσ56 tr57
  intro H locs ls hH hl hc
  refine W.eq (g2 := F0 m 41 ls [va_rf r57]) (rfl) ?_
  try dsimp only at h
  refine lv_astoreQ (lv' := [(8, va_rf r57), (7, .int (i32 r54)), (6, .int (i32 (gI σ a50 3))), (0, .ref th), (1, va_rf v1), (2, va_rf v2), (3, va_rf v3), (4, .long v4)]) B.1 B.2.1 dX11_addPair_41 hl (by decide) rfl (fun ls hl => ?_)
  refine lv_aloadQ B.1 B.2.1 dX11_addPair_43 (lv_at hl 0 rfl) ?_
  refine lv_lload B.1 B.2.1 dX11_addPair_45 (lv_at hl 7 rfl) ?_
  obtain ⟨a59, ea59, h⟩ := h
  have ka59 : kO σ56 a59 0 := tr57 a59 ea59
  have h := h ka59
  obtain ⟨σ60, eσ60⟩ : ∃ z, z = pJ σ56 a59 5 v4 := ⟨_, rfl⟩
  have h := h σ60 eσ60
  refine W.eq (g2 := F0 m 47 ls [.long v4, .ref a59]) (by rw [ea59]; rfl) ?_
  refine f_putl B hH ka59 (by decide) rfl wu_X0 tyX0 tyX0_ok nmX0 5 (by decide) wf_X11_85 rfl (ty := .long) rfl rfl rfl rfl rfl dX11_addPair_47 (fun H locs hH => ?_)
  have hH : Hd D cA A s (pJ σ56 a59 5 v4) H locs := hH
  rw [← eσ60] at hH
  have hGσ60 : RG σ60 := by rw [eσ60]; exact hGσ56.pJ
  have hYσ60 : TY σ60 := by rw [eσ60]; exact hYσ56.pJ
  have xσ60 : Ext σ56 σ60 := by rw [eσ60]; exact Ext.pJ
  have hc : CB n0 s0 σ60 := by rw [eσ60]; exact hc
  rw [show gc σ56 = gc σ60 by rw [eσ60]; try rfl, show gs σ56 = gs σ60 by rw [eσ60]; try rfl]
  refine lv_aloadQ B.1 B.2.1 dX11_addPair_50 (lv_at hl 0 rfl) ?_
  refine lv_iload B.1 B.2.1 dX11_addPair_52 (lv_at hl 1 rfl) ?_
  obtain ⟨σ61, eσ61⟩ : ∃ z, z = pI σ60 a59 4 r54 := ⟨_, rfl⟩
  have h := h σ61 eσ61
  refine W.eq (g2 := F0 m 54 ls [.int (i32 r54), .ref a59]) (by rw [ea59]; rfl) ?_
  refine f_puti B hH (ka59.up xσ60) (by decide) rfl wu_X0 tyX0 tyX0_ok nmX0 4 (by decide) wf_X11_195 rfl (ty := .int) rfl rfl rfl rfl rfl dX11_addPair_54 (fun H locs hH => ?_)
  have hH : Hd D cA A s (pI σ60 a59 4 r54) H locs := hH
  rw [← eσ61] at hH
  have hGσ61 : RG σ61 := by rw [eσ61]; exact hGσ60.pI gr54
  have hYσ61 : TY σ61 := by rw [eσ61]; exact hYσ60.pI
  have xσ61 : Ext σ60 σ61 := by rw [eσ61]; exact Ext.pI
  have hc : CB n0 s0 σ61 := by rw [eσ61]; exact hc
  rw [show gc σ60 = gc σ61 by rw [eσ61]; try rfl, show gs σ60 = gs σ61 by rw [eσ61]; try rfl]
  refine lv_aload_nQ B.1 B.2.1 dX11_addPair_57 rfl (lv_at hl 5 rfl) ?_
  refine W.eq (g2 := F0 m 58 ls [.ref a51]) (by rw [ea51]; rfl) ?_
  refine f_getp B hH (ka51.up (xσ53.trans (xσ56.trans (xσ60.trans xσ61)))) (by decide) rfl wu_X0 0 (by decide) wf_X11_64 rfl rfl dX11_addPair_58 ?_
  refine lv_iconst (v := i32 0) B.1 B.2.1 dX11_addPair_61 (by decide) ?_
  refine lv_aloadQ B.1 B.2.1 dX11_addPair_62 (lv_at hl 0 rfl) ?_
  refine W.eq (g2 := F0 m 64 ls [.ref a59, .int (i32 0), va_rf (gP σ61 a51 0)]) (by rw [ea59]; rfl) ?_
  refine f_getp B hH (ka59.up (xσ60.trans xσ61)) (by decide) rfl wu_X0 0 (by decide) wf_X11_64 rfl rfl dX11_addPair_64 ?_
  refine lv_iconst (v := i32 0) B.1 B.2.1 dX11_addPair_67 (by decide) ?_
  refine lv_iload B.1 B.2.1 dX11_addPair_68 (lv_at hl 2 rfl) ?_
  obtain ⟨a62, ea62, h⟩ := h
  have ka62 : kO σ61 a62 101 := (hYσ61.get (ka51.up (xσ53.trans (xσ56.trans (xσ60.trans xσ61)))) (by decide)) a62 ea62
  have h := h ka62
  obtain ⟨a63, ea63, h⟩ := h
  have ka63 : kO σ61 a63 101 := (hYσ61.get (ka59.up (xσ60.trans xσ61)) (by decide)) a63 ea63
  have h := h ka63
  obtain ⟨q2, h⟩ := h
  obtain ⟨σ64, eσ64⟩ : ∃ z, z = cpJ σ61 a62 (0 : Int) a63 (0 : Int) (gI σ a50 3) := ⟨_, rfl⟩
  have h := h σ64 eσ64
  refine W.eq (g2 := F0 m 70 ls [.int (i32 (gI σ a50 3)), .int (i32 0), .ref a63, .int (i32 0), .ref a62]) (by rw [ea62, ea63]; rfl) ?_
  refine c_copy B K.2.1 hH hl ws_X11_219 ka62 ka63 q2.1 q2.2.1 q2.2.2 ⟨by have := hYσ61.2 a62; omega, by have := hYσ61.2 a63; omega⟩ (by have := K.2.2.2.1; omega) (Nat.le_trans (Nat.le_of_ble_eq_true rfl) K.2.2.2.2.1) dX11_addPair_70 (fun H locs hH => ?_)
  have hH : Hd D cA A s (cpJ σ61 a62 (0 : Int) a63 (0 : Int) (gI σ a50 3)) H locs := hH
  rw [← eσ64] at hH
  have hGσ64 : RG σ64 := by rw [eσ64]; exact hGσ61.cpJ
  have hYσ64 : TY σ64 := by rw [eσ64]; exact hYσ61.cpJ
  have xσ64 : Ext σ61 σ64 := by rw [eσ64]; exact Ext.cpJ
  have hc : CB n0 s0 σ64 := by rw [eσ64]; exact hc
  rw [show gc σ61 = gc σ64 by rw [eσ64]; try rfl, show gs σ61 = gs σ64 by rw [eσ64]; try rfl]
  refine lv_aload_nQ B.1 B.2.1 dX11_addPair_73 rfl (lv_at hl 6 rfl) ?_
  refine W.eq (g2 := F0 m 74 ls [.ref a52]) (by rw [ea52]; rfl) ?_
  refine f_getp B hH (ka52.up (xσ53.trans (xσ56.trans (xσ60.trans (xσ61.trans xσ64))))) (by decide) rfl wu_X0 0 (by decide) wf_X11_64 rfl rfl dX11_addPair_74 ?_
  refine lv_iconst (v := i32 0) B.1 B.2.1 dX11_addPair_77 (by decide) ?_
  refine lv_aloadQ B.1 B.2.1 dX11_addPair_78 (lv_at hl 0 rfl) ?_
  refine W.eq (g2 := F0 m 80 ls [.ref a59, .int (i32 0), va_rf (gP σ64 a52 0)]) (by rw [ea59]; rfl) ?_
  refine f_getp B hH (ka59.up (xσ60.trans (xσ61.trans xσ64))) (by decide) rfl wu_X0 0 (by decide) wf_X11_64 rfl rfl dX11_addPair_80 ?_
  refine lv_iload B.1 B.2.1 dX11_addPair_83 (lv_at hl 2 rfl) ?_
  refine lv_aload_nQ B.1 B.2.1 dX11_addPair_85 rfl (lv_at hl 4 rfl) ?_
  refine W.eq (g2 := F0 m 86 ls [.ref a48, .int (i32 (gI σ a50 3)), va_rf (gP σ64 a59 0), .int (i32 0), va_rf (gP σ64 a52 0)]) (by rw [ea48]; rfl) ?_
  refine f_geti B hH (ka48.up (xσ53.trans (xσ56.trans (xσ60.trans (xσ61.trans xσ64))))) (by decide) rfl wu_X5 3 (by decide) wf_X11_152 rfl rfl dX11_addPair_86 ?_
  refine lv_iload B.1 B.2.1 dX11_addPair_89 (lv_at hl 2 rfl) ?_
  obtain ⟨q3, h⟩ := h
  refine lv_isub B.1 B.2.1 dX11_addPair_91 ?_
  rw [i32_sub]
  obtain ⟨a65, ea65, h⟩ := h
  have ka65 : kO σ64 a65 101 := (hYσ64.get (ka52.up (xσ53.trans (xσ56.trans (xσ60.trans (xσ61.trans xσ64))))) (by decide)) a65 ea65
  have h := h ka65
  obtain ⟨a66, ea66, h⟩ := h
  have ka66 : kO σ64 a66 101 := (hYσ64.get (ka59.up (xσ60.trans (xσ61.trans xσ64))) (by decide)) a66 ea66
  have h := h ka66
  obtain ⟨q4, h⟩ := h
  obtain ⟨σ67, eσ67⟩ : ∃ z, z = cpJ σ64 a65 (0 : Int) a66 (gI σ a50 3) (gI σ64 a48 3 - gI σ a50 3) := ⟨_, rfl⟩
  have h := h σ67 eσ67
  refine W.eq (g2 := F0 m 92 ls [.int (i32 (gI σ64 a48 3 - gI σ a50 3)), .int (i32 (gI σ a50 3)), .ref a66, .int (i32 0), .ref a65]) (by rw [ea65, ea66]; rfl) ?_
  refine c_copy B K.2.1 hH hl ws_X11_219 ka65 ka66 q4.1 q4.2.1 q4.2.2 ⟨by have := hYσ64.2 a65; omega, by have := hYσ64.2 a66; omega⟩ (by have := K.2.2.2.1; omega) (Nat.le_trans (Nat.le_of_ble_eq_true rfl) K.2.2.2.2.1) dX11_addPair_92 (fun H locs hH => ?_)
  have hH : Hd D cA A s (cpJ σ64 a65 (0 : Int) a66 (gI σ a50 3) (gI σ64 a48 3 - gI σ a50 3)) H locs := hH
  rw [← eσ67] at hH
  have hGσ67 : RG σ67 := by rw [eσ67]; exact hGσ64.cpJ
  have hYσ67 : TY σ67 := by rw [eσ67]; exact hYσ64.cpJ
  have xσ67 : Ext σ64 σ67 := by rw [eσ67]; exact Ext.cpJ
  have hc : CB n0 s0 σ67 := by rw [eσ67]; exact hc
  rw [show gc σ64 = gc σ67 by rw [eσ67]; try rfl, show gs σ64 = gs σ67 by rw [eσ67]; try rfl]
  refine lv_aload_n B.1 B.2.1 dX11_addPair_95 rfl (lv_at hl 3 rfl) ?_
  refine f_getp B hH (hth.up (xσ53.trans (xσ56.trans (xσ60.trans (xσ61.trans (xσ64.trans xσ67)))))) (by decide) rfl wu_X11 2 (by decide) wf_X11_12 rfl rfl dX11_addPair_96 ?_
  refine lv_aloadQ B.1 B.2.1 dX11_addPair_99 (lv_at hl 0 rfl) ?_
  obtain ⟨a69, ea69, h⟩ := h
  have ka69 : kO σ67 a69 1 := (hYσ67.get (hth.up (xσ53.trans (xσ56.trans (xσ60.trans (xσ61.trans (xσ64.trans xσ67)))))) (by decide)) a69 ea69
  have h := h ka69
  refine W.eq (g2 := F0 m 101 ls [va_rf r57, .ref a69]) (by rw [ea69]; rfl) ?_
  refine c_V B hH hl hc K.2.2.1 (C := RX1) (T := TX1) (N := 3) (ci := 1) (As := [va_rf r57]) (ok_X1_add hl9 K.2.1 σ67 a69 r57 (tr57.up (xσ60.trans (xσ61.trans (xσ64.trans xσ67)))) ka69 hGσ67 hYσ67 h) wc_X11_42 1 hd_X1_add ⟨Nat.le_trans (Nat.le_of_ble_eq_true rfl) K.2.2.2.1, Nat.le_trans (Nat.le_of_ble_eq_true rfl) K.2.2.2.2.1⟩ ka69.1 ka69.2 (by decide) rfl rfl (rest := []) rfl (Nat.le_of_ble_eq_true rfl) dX11_addPair_101 (fun σ68 w hq => ?_) (fun σ9 E9 hx9 => hX σ9 E9 _ _ _ (tb_out K.2.2.2.2.2.1 rfl) hx9.1 hx9.2.1 hx9.2.2.1 (((((((hE.trans xσ53).trans xσ56).trans xσ60).trans xσ61).trans xσ64).trans xσ67).trans hx9.2.2.2))
  obtain ⟨rfl, h, hGσ68, hYσ68, xσ68⟩ := hq
  have h := h xσ68
  intro H locs ls hH hl hc
  refine W.eq (g2 := F0 m 104 ls []) (rfl) ?_
  try dsimp only at h
  exact hQ _ _ _ _ _ dX11_addPair_104 hH hc h hGσ68 hYσ68 (((((((hE.trans xσ53).trans xσ56).trans xσ60).trans xσ61).trans xσ64).trans xσ67).trans xσ68)
theorem ok_X11_addPair (hl0 : l.stackTraces = false) (hT : TyC cA tys) {Q : Sg → Unit → Prop} {X : Sg → String → Prop} (σ : Sg) (th : Nat) (v1 : Option Nat) (v2 : Option Nat) (v3 : Option Nat) (v4 : Int64) (g1 : tyV σ 5 v1) (g2 : tyV σ 0 v2) (g3 : tyV σ 0 v3) (hth : kO σ th 11) (hG : RG σ) (hY : TY σ) (h : wp_X11_addPair th v1 v2 v3 v4 σ Q X) : Ok l D cA tys A yX11_addPair (.code yX11_addPair cX11_addPair 9 none) 8 136 [.ref th, va_rf v1, va_rf v2, va_rf v3, .long v4] σ (QcV σ Q) (QxC σ X) := by
  unfold wp_X11_addPair at h
  exact oc_V hl0 (by decide) (by cases v1 <;> cases v2 <;> cases v3 <;> exact Nat.le_of_ble_eq_true rfl) hT (fun p e R s m args below meth c K hQ hX hTh hin9 H locs ls hH hl hc => a_X11_addPair_0 K hQ hX hTh σ v1 v2 v3 v4 g1 g2 g3 h hG hY (Ext.rfl' σ) hth H locs ls hH (lv_sub (l' := [(0, .ref th), (1, va_rf v1), (2, va_rf v2), (3, va_rf v3), (4, .long v4)]) hl [0, 1, 2, 3, 4] (by cases v1 <;> cases v2 <;> cases v3 <;> rfl)) hc)
theorem dX11_orderOf_0 : decode cX11_orderOf 0 = .ok (.iload_n 0, 1) := by decide +kernel
theorem dX11_orderOf_1 : decode cX11_orderOf 1 = .ok (.tableswitch 45 7 10 #[33, 35, 35, 31], 31) := by decide +kernel
theorem dX11_orderOf_32 : decode cX11_orderOf 32 = .ok (.iconst 3, 1) := by decide +kernel
theorem dX11_orderOf_33 : decode cX11_orderOf 33 = .ok (.ireturn, 1) := by decide +kernel
theorem dX11_orderOf_34 : decode cX11_orderOf 34 = .ok (.iconst 1, 1) := by decide +kernel
theorem dX11_orderOf_35 : decode cX11_orderOf 35 = .ok (.ireturn, 1) := by decide +kernel
theorem dX11_orderOf_36 : decode cX11_orderOf 36 = .ok (.iload_n 1, 1) := by decide +kernel
theorem dX11_orderOf_37 : decode cX11_orderOf 37 = .ok (.ifCond .ne 7, 3) := by decide +kernel
theorem dX11_orderOf_40 : decode cX11_orderOf 40 = .ok (.iconst 1, 1) := by decide +kernel
theorem dX11_orderOf_41 : decode cX11_orderOf 41 = .ok (.goto 4, 3) := by decide +kernel
theorem dX11_orderOf_44 : decode cX11_orderOf 44 = .ok (.iconst 0, 1) := by decide +kernel
theorem dX11_orderOf_45 : decode cX11_orderOf 45 = .ok (.ireturn, 1) := by decide +kernel
theorem dX11_orderOf_46 : decode cX11_orderOf 46 = .ok (.iconst 0, 1) := by decide +kernel
theorem dX11_orderOf_47 : decode cX11_orderOf 47 = .ok (.ireturn, 1) := by decide +kernel
set_option maxRecDepth 20000 in
theorem a_X11_orderOf_32 {Q : Sg → Int → Prop} {X : Sg → String → Prop} (K : MD l R p s m args c cX11_orderOf 2 RX11 D cA tys A n0 s0 0 0 []) (hQ : CQI p l e R s m args below meth c cX11_orderOf D cA A n0 s0 QM σi Q) (hX : CX p l e R s m args below meth c 2 D cA A n0 s0 QM σi X) (hTh : CT p l e R s m args below meth c cX11_orderOf 2 D cA A n0 s0 QM σi RX11 X) : ∀ (σ : Sg), w_X11_orderOf_32 Q X σ → RG σ → TY σ → Ext σi σ → JJ p l e R s m args below meth c 2 D cA A n0 s0 QM σ 32 [] [] := by
  intro σ h hGσ hYσ hE H locs ls hH hl hc
  have B := K.1
  have hl9 := K.2.2.2.2.2.2
  unfold w_X11_orderOf_32 at h
  refine lv_iconst (v := i32 3) B.1 B.2.1 dX11_orderOf_32 (by decide) ?_
  exact hQ _ _ _ _ _ _ (by unfold rng; omega) dX11_orderOf_33 hH hc h hGσ hYσ hE
set_option maxRecDepth 20000 in
theorem a_X11_orderOf_34 {Q : Sg → Int → Prop} {X : Sg → String → Prop} (K : MD l R p s m args c cX11_orderOf 2 RX11 D cA tys A n0 s0 0 0 []) (hQ : CQI p l e R s m args below meth c cX11_orderOf D cA A n0 s0 QM σi Q) (hX : CX p l e R s m args below meth c 2 D cA A n0 s0 QM σi X) (hTh : CT p l e R s m args below meth c cX11_orderOf 2 D cA A n0 s0 QM σi RX11 X) : ∀ (σ : Sg), w_X11_orderOf_34 Q X σ → RG σ → TY σ → Ext σi σ → JJ p l e R s m args below meth c 2 D cA A n0 s0 QM σ 34 [] [] := by
  intro σ h hGσ hYσ hE H locs ls hH hl hc
  have B := K.1
  have hl9 := K.2.2.2.2.2.2
  unfold w_X11_orderOf_34 at h
  refine lv_iconst (v := i32 1) B.1 B.2.1 dX11_orderOf_34 (by decide) ?_
  exact hQ _ _ _ _ _ _ (by unfold rng; omega) dX11_orderOf_35 hH hc h hGσ hYσ hE
set_option maxRecDepth 20000 in
theorem a_X11_orderOf_45 {Q : Sg → Int → Prop} {X : Sg → String → Prop} (K : MD l R p s m args c cX11_orderOf 2 RX11 D cA tys A n0 s0 0 0 []) (hQ : CQI p l e R s m args below meth c cX11_orderOf D cA A n0 s0 QM σi Q) (hX : CX p l e R s m args below meth c 2 D cA A n0 s0 QM σi X) (hTh : CT p l e R s m args below meth c cX11_orderOf 2 D cA A n0 s0 QM σi RX11 X) : ∀ (σ : Sg) (u0 : Int) (gu0 : rng u0), w_X11_orderOf_45 Q X σ u0 → RG σ → TY σ → Ext σi σ → JJ p l e R s m args below meth c 2 D cA A n0 s0 QM σ 45 [] [.int (i32 u0)] := by
  intro σ u0 gu0 h hGσ hYσ hE H locs ls hH hl hc
  have B := K.1
  have hl9 := K.2.2.2.2.2.2
  unfold w_X11_orderOf_45 at h
  exact hQ _ _ _ _ _ _ gu0 dX11_orderOf_45 hH hc h hGσ hYσ hE
set_option maxRecDepth 20000 in
theorem a_X11_orderOf_44 {Q : Sg → Int → Prop} {X : Sg → String → Prop} (K : MD l R p s m args c cX11_orderOf 2 RX11 D cA tys A n0 s0 0 0 []) (hQ : CQI p l e R s m args below meth c cX11_orderOf D cA A n0 s0 QM σi Q) (hX : CX p l e R s m args below meth c 2 D cA A n0 s0 QM σi X) (hTh : CT p l e R s m args below meth c cX11_orderOf 2 D cA A n0 s0 QM σi RX11 X) : ∀ (σ : Sg), w_X11_orderOf_44 Q X σ → RG σ → TY σ → Ext σi σ → JJ p l e R s m args below meth c 2 D cA A n0 s0 QM σ 44 [] [] := by
  intro σ h hGσ hYσ hE H locs ls hH hl hc
  have B := K.1
  have hl9 := K.2.2.2.2.2.2
  unfold w_X11_orderOf_44 at h
  refine lv_iconst (v := i32 0) B.1 B.2.1 dX11_orderOf_44 (by decide) ?_
  exact a_X11_orderOf_45 K hQ hX hTh _ _ (by unfold rng; omega) h hGσ hYσ hE _ _ _ hH (lv_sub (l' := []) hl [] rfl) hc
set_option maxRecDepth 20000 in
theorem a_X11_orderOf_40 {Q : Sg → Int → Prop} {X : Sg → String → Prop} (K : MD l R p s m args c cX11_orderOf 2 RX11 D cA tys A n0 s0 0 0 []) (hQ : CQI p l e R s m args below meth c cX11_orderOf D cA A n0 s0 QM σi Q) (hX : CX p l e R s m args below meth c 2 D cA A n0 s0 QM σi X) (hTh : CT p l e R s m args below meth c cX11_orderOf 2 D cA A n0 s0 QM σi RX11 X) : ∀ (σ : Sg), w_X11_orderOf_40 Q X σ → RG σ → TY σ → Ext σi σ → JJ p l e R s m args below meth c 2 D cA A n0 s0 QM σ 40 [] [] := by
  intro σ h hGσ hYσ hE H locs ls hH hl hc
  have B := K.1
  have hl9 := K.2.2.2.2.2.2
  unfold w_X11_orderOf_40 at h
  refine lv_iconst (v := i32 1) B.1 B.2.1 dX11_orderOf_40 (by decide) ?_
  refine lv_goto (tgt := 45) B.1 B.2.1 dX11_orderOf_41 (by decide) ?_
  exact a_X11_orderOf_45 K hQ hX hTh _ _ (by unfold rng; omega) h hGσ hYσ hE _ _ _ hH (lv_sub (l' := []) hl [] rfl) hc
set_option maxRecDepth 20000 in
theorem a_X11_orderOf_36 {Q : Sg → Int → Prop} {X : Sg → String → Prop} (K : MD l R p s m args c cX11_orderOf 2 RX11 D cA tys A n0 s0 0 0 []) (hQ : CQI p l e R s m args below meth c cX11_orderOf D cA A n0 s0 QM σi Q) (hX : CX p l e R s m args below meth c 2 D cA A n0 s0 QM σi X) (hTh : CT p l e R s m args below meth c cX11_orderOf 2 D cA A n0 s0 QM σi RX11 X) : ∀ (σ : Sg) (v1 : Int) (g1 : rng v1), w_X11_orderOf_36 Q X σ v1 → RG σ → TY σ → Ext σi σ → JJ p l e R s m args below meth c 2 D cA A n0 s0 QM σ 36 [(1, .int (i32 v1))] [] := by
  intro σ v1 g1 h hGσ hYσ hE H locs ls hH hl hc
  have B := K.1
  have hl9 := K.2.2.2.2.2.2
  unfold w_X11_orderOf_36 at h
  refine lv_iload_n B.1 B.2.1 dX11_orderOf_36 rfl (lv_at hl 0 rfl) ?_
  refine lv_if_ne (tgt := 44) B.1 B.2.1 dX11_orderOf_37 (by decide) (fun h9 => ?_) (fun h9 => ?_)
  · rw [if_pos (fun q => h9 ((z_eq g1).mpr q))] at h
    exact a_X11_orderOf_44 K hQ hX hTh _ h hGσ hYσ hE _ _ _ hH (lv_sub (l' := []) hl [] rfl) hc
  · rw [if_neg (fun q => q ((z_eq g1).mp h9))] at h
    exact a_X11_orderOf_40 K hQ hX hTh _ h hGσ hYσ hE _ _ _ hH (lv_sub (l' := []) hl [] rfl) hc
set_option maxRecDepth 20000 in
theorem a_X11_orderOf_46 {Q : Sg → Int → Prop} {X : Sg → String → Prop} (K : MD l R p s m args c cX11_orderOf 2 RX11 D cA tys A n0 s0 0 0 []) (hQ : CQI p l e R s m args below meth c cX11_orderOf D cA A n0 s0 QM σi Q) (hX : CX p l e R s m args below meth c 2 D cA A n0 s0 QM σi X) (hTh : CT p l e R s m args below meth c cX11_orderOf 2 D cA A n0 s0 QM σi RX11 X) : ∀ (σ : Sg), w_X11_orderOf_46 Q X σ → RG σ → TY σ → Ext σi σ → JJ p l e R s m args below meth c 2 D cA A n0 s0 QM σ 46 [] [] := by
  intro σ h hGσ hYσ hE H locs ls hH hl hc
  have B := K.1
  have hl9 := K.2.2.2.2.2.2
  unfold w_X11_orderOf_46 at h
  refine lv_iconst (v := i32 0) B.1 B.2.1 dX11_orderOf_46 (by decide) ?_
  exact hQ _ _ _ _ _ _ (by unfold rng; omega) dX11_orderOf_47 hH hc h hGσ hYσ hE
set_option maxRecDepth 20000 in
theorem a_X11_orderOf_0 {Q : Sg → Int → Prop} {X : Sg → String → Prop} (K : MD l R p s m args c cX11_orderOf 2 RX11 D cA tys A n0 s0 0 0 []) (hQ : CQI p l e R s m args below meth c cX11_orderOf D cA A n0 s0 QM σi Q) (hX : CX p l e R s m args below meth c 2 D cA A n0 s0 QM σi X) (hTh : CT p l e R s m args below meth c cX11_orderOf 2 D cA A n0 s0 QM σi RX11 X) : ∀ (σ : Sg) (v0 : Int) (v1 : Int) (g0 : rng v0) (g1 : rng v1), w_X11_orderOf_0 Q X σ v0 v1 → RG σ → TY σ → Ext σi σ → JJ p l e R s m args below meth c 2 D cA A n0 s0 QM σ 0 [(0, .int (i32 v0)), (1, .int (i32 v1))] [] := by
  intro σ v0 v1 g0 g1 h hGσ hYσ hE H locs ls hH hl hc
  have B := K.1
  have hl9 := K.2.2.2.2.2.2
  unfold w_X11_orderOf_0 at h
  refine lv_iload_n B.1 B.2.1 dX11_orderOf_0 rfl (lv_at hl 0 rfl) ?_
  rcases Classical.em (v0 = 7) with e9 | e9
  · rw [if_pos e9] at h
    refine lv_tableIn (off := 33) (tgt := 34) B.1 B.2.1 dX11_orderOf_1 (by rw [i32_toInt g0, e9]; decide) (by rw [i32_toInt g0, e9]; decide) (by rw [i32_toInt g0, e9]; rfl) (by decide) ?_
    exact a_X11_orderOf_34 K hQ hX hTh _ h hGσ hYσ hE _ _ _ hH (lv_sub (l' := []) hl [] rfl) hc
  rw [if_neg e9] at h
  have k1 := e9
  rcases Classical.em (v0 = 8) with e9 | e9
  · rw [if_pos e9] at h
    refine lv_tableIn (off := 35) (tgt := 36) B.1 B.2.1 dX11_orderOf_1 (by rw [i32_toInt g0, e9]; decide) (by rw [i32_toInt g0, e9]; decide) (by rw [i32_toInt g0, e9]; rfl) (by decide) ?_
    exact a_X11_orderOf_36 K hQ hX hTh _ _ g1 h hGσ hYσ hE _ _ _ hH (lv_sub (l' := [(1, .int (i32 v1))]) hl [1] rfl) hc
  rw [if_neg e9] at h
  have k2 := e9
  rcases Classical.em (v0 = 9) with e9 | e9
  · rw [if_pos e9] at h
    refine lv_tableIn (off := 35) (tgt := 36) B.1 B.2.1 dX11_orderOf_1 (by rw [i32_toInt g0, e9]; decide) (by rw [i32_toInt g0, e9]; decide) (by rw [i32_toInt g0, e9]; rfl) (by decide) ?_
    exact a_X11_orderOf_36 K hQ hX hTh _ _ g1 h hGσ hYσ hE _ _ _ hH (lv_sub (l' := [(1, .int (i32 v1))]) hl [1] rfl) hc
  rw [if_neg e9] at h
  have k3 := e9
  rcases Classical.em (v0 = 10) with e9 | e9
  · rw [if_pos e9] at h
    refine lv_tableIn (off := 31) (tgt := 32) B.1 B.2.1 dX11_orderOf_1 (by rw [i32_toInt g0, e9]; decide) (by rw [i32_toInt g0, e9]; decide) (by rw [i32_toInt g0, e9]; rfl) (by decide) ?_
    exact a_X11_orderOf_32 K hQ hX hTh _ h hGσ hYσ hE _ _ _ hH (lv_sub (l' := []) hl [] rfl) hc
  rw [if_neg e9] at h
  have k4 := e9
  rcases (show (v0 < 7 ∨ 10 < v0) ∨ False by omega) with e9 | e9
  · refine lv_tableOut (tgt := 46) B.1 B.2.1 dX11_orderOf_1 (by rw [i32_toInt g0]; exact e9) (by decide) ?_
    exact a_X11_orderOf_46 K hQ hX hTh _ h hGσ hYσ hE _ _ _ hH (lv_sub (l' := []) hl [] rfl) hc
  exact e9.elim
theorem ok_X11_orderOf (hl0 : l.stackTraces = false) (hT : TyC cA tys) {Q : Sg → Int → Prop} {X : Sg → String → Prop} (σ : Sg) (v0 : Int) (v1 : Int) (g0 : rng v0) (g1 : rng v1) (hG : RG σ) (hY : TY σ) (h : wp_X11_orderOf v0 v1 σ Q X) : Ok l D cA tys A yX11_orderOf (.code yX11_orderOf cX11_orderOf 2 (some .int)) 0 0 [.int (i32 v0), .int (i32 v1)] σ (QcI σ Q) (QxC σ X) := by
  unfold wp_X11_orderOf at h
  exact oc_I hl0 (by decide) (by exact Nat.le_of_ble_eq_true rfl) hT (fun p e R s m args below meth c K hQ hX hTh H locs ls hH hl hc => a_X11_orderOf_0 K hQ hX hTh σ v0 v1 g0 g1 h hG hY (Ext.rfl' σ) H locs ls hH (lv_sub (l' := [(0, .int (i32 v0)), (1, .int (i32 v1))]) hl [0, 1] rfl) hc)
theorem dX1_compare_0 : decode cX1_compare 0 = .ok (.iconst 0, 1) := by decide +kernel
theorem dX1_compare_1 : decode cX1_compare 1 = .ok (.istore 4, 2) := by decide +kernel
theorem dX1_compare_3 : decode cX1_compare 3 = .ok (.iload_n 2, 1) := by decide +kernel
theorem dX1_compare_4 : decode cX1_compare 4 = .ok (.ifCond .ne 5, 3) := by decide +kernel
theorem dX1_compare_7 : decode cX1_compare 7 = .ok (.iconst 0, 1) := by decide +kernel
theorem dX1_compare_8 : decode cX1_compare 8 = .ok (.ireturn, 1) := by decide +kernel
theorem dX1_compare_9 : decode cX1_compare 9 = .ok (.iload_n 2, 1) := by decide +kernel
theorem dX1_compare_10 : decode cX1_compare 10 = .ok (.iconst 3, 1) := by decide +kernel
theorem dX1_compare_11 : decode cX1_compare 11 = .ok (.if_icmp .ne 39, 3) := by decide +kernel
theorem dX1_compare_14 : decode cX1_compare 14 = .ok (.aload_n 0, 1) := by decide +kernel
theorem dX1_compare_15 : decode cX1_compare 15 = .ok (.getfield 39, 3) := by decide +kernel
theorem dX1_compare_18 : decode cX1_compare 18 = .ok (.aload_n 1, 1) := by decide +kernel
theorem dX1_compare_19 : decode cX1_compare 19 = .ok (.getfield 39, 3) := by decide +kernel
theorem dX1_compare_22 : decode cX1_compare 22 = .ok (.invokestatic 43, 3) := by decide +kernel
theorem dX1_compare_25 : decode cX1_compare 25 = .ok (.istore 4, 2) := by decide +kernel
theorem dX1_compare_27 : decode cX1_compare 27 = .ok (.iload 4, 2) := by decide +kernel
theorem dX1_compare_29 : decode cX1_compare 29 = .ok (.ifCond .eq 8, 3) := by decide +kernel
theorem dX1_compare_32 : decode cX1_compare 32 = .ok (.iload 4, 2) := by decide +kernel
theorem dX1_compare_34 : decode cX1_compare 34 = .ok (.goto 14, 3) := by decide +kernel
theorem dX1_compare_37 : decode cX1_compare 37 = .ok (.aload_n 1, 1) := by decide +kernel
theorem dX1_compare_38 : decode cX1_compare 38 = .ok (.getfield 48, 3) := by decide +kernel
theorem dX1_compare_41 : decode cX1_compare 41 = .ok (.aload_n 0, 1) := by decide +kernel
theorem dX1_compare_42 : decode cX1_compare 42 = .ok (.getfield 48, 3) := by decide +kernel
theorem dX1_compare_45 : decode cX1_compare 45 = .ok (.invokestatic 43, 3) := by decide +kernel
theorem dX1_compare_48 : decode cX1_compare 48 = .ok (.istore 4, 2) := by decide +kernel
theorem dX1_compare_50 : decode cX1_compare 50 = .ok (.iload 4, 2) := by decide +kernel
theorem dX1_compare_52 : decode cX1_compare 52 = .ok (.ifCond .eq 8, 3) := by decide +kernel
theorem dX1_compare_55 : decode cX1_compare 55 = .ok (.iload 4, 2) := by decide +kernel
theorem dX1_compare_57 : decode cX1_compare 57 = .ok (.goto 14, 3) := by decide +kernel
theorem dX1_compare_60 : decode cX1_compare 60 = .ok (.aload_n 0, 1) := by decide +kernel
theorem dX1_compare_61 : decode cX1_compare 61 = .ok (.getfield 51, 3) := by decide +kernel
theorem dX1_compare_64 : decode cX1_compare 64 = .ok (.aload_n 1, 1) := by decide +kernel
theorem dX1_compare_65 : decode cX1_compare 65 = .ok (.getfield 51, 3) := by decide +kernel
theorem dX1_compare_68 : decode cX1_compare 68 = .ok (.invokestatic 43, 3) := by decide +kernel
theorem dX1_compare_71 : decode cX1_compare 71 = .ok (.istore 4, 2) := by decide +kernel
theorem dX1_compare_73 : decode cX1_compare 73 = .ok (.iload_n 2, 1) := by decide +kernel
theorem dX1_compare_74 : decode cX1_compare 74 = .ok (.iconst 2, 1) := by decide +kernel
theorem dX1_compare_75 : decode cX1_compare 75 = .ok (.if_icmp .ne 48, 3) := by decide +kernel
theorem dX1_compare_78 : decode cX1_compare 78 = .ok (.iload 4, 2) := by decide +kernel
theorem dX1_compare_80 : decode cX1_compare 80 = .ok (.ifCond .eq 8, 3) := by decide +kernel
theorem dX1_compare_83 : decode cX1_compare 83 = .ok (.iload 4, 2) := by decide +kernel
theorem dX1_compare_85 : decode cX1_compare 85 = .ok (.goto 14, 3) := by decide +kernel
theorem dX1_compare_88 : decode cX1_compare 88 = .ok (.aload_n 0, 1) := by decide +kernel
theorem dX1_compare_89 : decode cX1_compare 89 = .ok (.getfield 48, 3) := by decide +kernel
theorem dX1_compare_92 : decode cX1_compare 92 = .ok (.aload_n 1, 1) := by decide +kernel
theorem dX1_compare_93 : decode cX1_compare 93 = .ok (.getfield 48, 3) := by decide +kernel
theorem dX1_compare_96 : decode cX1_compare 96 = .ok (.invokestatic 43, 3) := by decide +kernel
theorem dX1_compare_99 : decode cX1_compare 99 = .ok (.istore 4, 2) := by decide +kernel
theorem dX1_compare_101 : decode cX1_compare 101 = .ok (.iload 4, 2) := by decide +kernel
theorem dX1_compare_103 : decode cX1_compare 103 = .ok (.ifCond .eq 8, 3) := by decide +kernel
theorem dX1_compare_106 : decode cX1_compare 106 = .ok (.iload 4, 2) := by decide +kernel
theorem dX1_compare_108 : decode cX1_compare 108 = .ok (.goto 14, 3) := by decide +kernel
theorem dX1_compare_111 : decode cX1_compare 111 = .ok (.aload_n 0, 1) := by decide +kernel
theorem dX1_compare_112 : decode cX1_compare 112 = .ok (.getfield 39, 3) := by decide +kernel
theorem dX1_compare_115 : decode cX1_compare 115 = .ok (.aload_n 1, 1) := by decide +kernel
theorem dX1_compare_116 : decode cX1_compare 116 = .ok (.getfield 39, 3) := by decide +kernel
theorem dX1_compare_119 : decode cX1_compare 119 = .ok (.invokestatic 43, 3) := by decide +kernel
theorem dX1_compare_122 : decode cX1_compare 122 = .ok (.ireturn, 1) := by decide +kernel
theorem dX1_compare_123 : decode cX1_compare 123 = .ok (.iconst 0, 1) := by decide +kernel
theorem dX1_compare_124 : decode cX1_compare 124 = .ok (.istore 5, 2) := by decide +kernel
theorem dX1_compare_126 : decode cX1_compare 126 = .ok (.iload 5, 2) := by decide +kernel
theorem dX1_compare_128 : decode cX1_compare 128 = .ok (.iload_n 3, 1) := by decide +kernel
theorem dX1_compare_129 : decode cX1_compare 129 = .ok (.if_icmp .ge 40, 3) := by decide +kernel
theorem dX1_compare_132 : decode cX1_compare 132 = .ok (.iload 5, 2) := by decide +kernel
theorem dX1_compare_134 : decode cX1_compare 134 = .ok (.bipush 8, 2) := by decide +kernel
theorem dX1_compare_136 : decode cX1_compare 136 = .ok (.if_icmp .ge 33, 3) := by decide +kernel
theorem dX1_compare_139 : decode cX1_compare 139 = .ok (.iload 4, 2) := by decide +kernel
theorem dX1_compare_141 : decode cX1_compare 141 = .ok (.ifCond .ne 28, 3) := by decide +kernel
theorem dX1_compare_144 : decode cX1_compare 144 = .ok (.aload_n 0, 1) := by decide +kernel
theorem dX1_compare_145 : decode cX1_compare 145 = .ok (.getfield 54, 3) := by decide +kernel
theorem dX1_compare_148 : decode cX1_compare 148 = .ok (.iload 5, 2) := by decide +kernel
theorem dX1_compare_150 : decode cX1_compare 150 = .ok (.laload, 1) := by decide +kernel
theorem dX1_compare_151 : decode cX1_compare 151 = .ok (.aload_n 1, 1) := by decide +kernel
theorem dX1_compare_152 : decode cX1_compare 152 = .ok (.getfield 54, 3) := by decide +kernel
theorem dX1_compare_155 : decode cX1_compare 155 = .ok (.iload 5, 2) := by decide +kernel
theorem dX1_compare_157 : decode cX1_compare 157 = .ok (.laload, 1) := by decide +kernel
theorem dX1_compare_158 : decode cX1_compare 158 = .ok (.invokestatic 43, 3) := by decide +kernel
theorem dX1_compare_161 : decode cX1_compare 161 = .ok (.istore 4, 2) := by decide +kernel
theorem dX1_compare_163 : decode cX1_compare 163 = .ok (.iinc 5 1, 3) := by decide +kernel
theorem dX1_compare_166 : decode cX1_compare 166 = .ok (.goto (-40), 3) := by decide +kernel
theorem dX1_compare_169 : decode cX1_compare 169 = .ok (.iload 4, 2) := by decide +kernel
theorem dX1_compare_171 : decode cX1_compare 171 = .ok (.ireturn, 1) := by decide +kernel
set_option maxRecDepth 20000 in
theorem a_X1_compare_169 {Q : Sg → Int → Prop} {X : Sg → String → Prop} (K : MD l R p s m args c cX1_compare 6 RX1 D cA tys A n0 s0 1 23 []) (hQ : CQI p l e R s m args below meth c cX1_compare D cA A n0 s0 QM σi Q) (hX : CX p l e R s m args below meth c 6 D cA A n0 s0 QM σi X) (hTh : CT p l e R s m args below meth c cX1_compare 6 D cA A n0 s0 QM σi RX1 X) : ∀ (σ : Sg) (v4 : Int) (g4 : rng v4), w_X1_compare_169 Q X σ v4 → RG σ → TY σ → Ext σi σ → JJ p l e R s m args below meth c 6 D cA A n0 s0 QM σ 169 [(4, .int (i32 v4))] [] := by
  intro σ v4 g4 h hGσ hYσ hE H locs ls hH hl hc
  have B := K.1
  have hl9 := K.2.2.2.2.2.2
  unfold w_X1_compare_169 at h
  refine lv_iload B.1 B.2.1 dX1_compare_169 (lv_at hl 0 rfl) ?_
  exact hQ _ _ _ _ _ _ g4 dX1_compare_171 hH hc h hGσ hYσ hE
set_option maxRecDepth 20000 in
theorem a_X1_compare_144 {Q : Sg → Int → Prop} {X : Sg → String → Prop} (K : MD l R p s m args c cX1_compare 6 RX1 D cA tys A n0 s0 1 23 []) (hQ : CQI p l e R s m args below meth c cX1_compare D cA A n0 s0 QM σi Q) (hX : CX p l e R s m args below meth c 6 D cA A n0 s0 QM σi X) (hTh : CT p l e R s m args below meth c cX1_compare 6 D cA A n0 s0 QM σi RX1 X) {K126 : Sg → Option Nat → Option Nat → Int → Int → Int → Prop} (hK126 : ∀ (σ : Sg) (v0 : Option Nat) (v1 : Option Nat) (v3 : Int) (v4 : Int) (v5 : Int) (g0 : tyV σ 0 v0) (g1 : tyV σ 0 v1) (g3 : rng v3) (g4 : rng v4) (g5 : rng v5), K126 σ v0 v1 v3 v4 v5 → RG σ → TY σ → Ext σi σ → JJ p l e R s m args below meth c 6 D cA A n0 s0 QM σ 126 [(0, va_rf v0), (1, va_rf v1), (3, .int (i32 v3)), (4, .int (i32 v4)), (5, .int (i32 v5))] []) : ∀ (σ : Sg) (v0 : Option Nat) (v1 : Option Nat) (v3 : Int) (v5 : Int) (g0 : tyV σ 0 v0) (g1 : tyV σ 0 v1) (g3 : rng v3) (g5 : rng v5), w_X1_compare_144 K126 Q X σ v0 v1 v3 v5 → RG σ → TY σ → Ext σi σ → JJ p l e R s m args below meth c 6 D cA A n0 s0 QM σ 144 [(0, va_rf v0), (1, va_rf v1), (3, .int (i32 v3)), (5, .int (i32 v5))] [] := by
  intro σ v0 v1 v3 v5 g0 g1 g3 g5 h hGσ hYσ hE H locs ls hH hl hc
  have B := K.1
  have hl9 := K.2.2.2.2.2.2
  unfold w_X1_compare_144 at h
  refine lv_aload_nQ B.1 B.2.1 dX1_compare_144 rfl (lv_at hl 0 rfl) ?_
  obtain ⟨a53, ea53, h⟩ := h
  have ka53 : kO σ a53 0 := g0 a53 ea53
  have h := h ka53
  refine W.eq (g2 := F0 m 145 ls [.ref a53]) (by rw [ea53]; rfl) ?_
  refine f_getp B hH ka53 (by decide) rfl wu_X0 0 (by decide) wf_X1_54 rfl rfl dX1_compare_145 ?_
  refine lv_iload B.1 B.2.1 dX1_compare_148 (lv_at hl 3 rfl) ?_
  obtain ⟨a54, ea54, h⟩ := h
  have ka54 : kO σ a54 101 := (hYσ.get ka53 (by decide)) a54 ea54
  have h := h ka54
  obtain ⟨q1, h⟩ := h
  refine W.eq (g2 := F0 m 150 ls [.int (i32 v5), .ref a54]) (by rw [ea54]; rfl) ?_
  refine y_lald B K.2.1 hH ka54 q1 dX1_compare_150 (hYσ.2 _) ?_
  refine lv_aload_nQ B.1 B.2.1 dX1_compare_151 rfl (lv_at hl 1 rfl) ?_
  obtain ⟨a55, ea55, h⟩ := h
  have ka55 : kO σ a55 0 := g1 a55 ea55
  have h := h ka55
  refine W.eq (g2 := F0 m 152 ls [.ref a55, .long (gJ σ a54 v5.toNat)]) (by rw [ea55]; rfl) ?_
  refine f_getp B hH ka55 (by decide) rfl wu_X0 0 (by decide) wf_X1_54 rfl rfl dX1_compare_152 ?_
  refine lv_iload B.1 B.2.1 dX1_compare_155 (lv_at hl 3 rfl) ?_
  obtain ⟨a56, ea56, h⟩ := h
  have ka56 : kO σ a56 101 := (hYσ.get ka55 (by decide)) a56 ea56
  have h := h ka56
  obtain ⟨q2, h⟩ := h
  refine W.eq (g2 := F0 m 157 ls [.int (i32 v5), .ref a56, .long (gJ σ a54 v5.toNat)]) (by rw [ea56]; rfl) ?_
  refine y_lald B K.2.1 hH ka56 q2 dX1_compare_157 (hYσ.2 _) ?_
  refine c_S B hH hl hc K.2.2.1 (As := [.long (gJ σ a54 v5.toNat), .long (gJ σ a56 v5.toNat)]) (okC_J13_compare_74951 hl9 K.2.1 σ (gJ σ a54 v5.toNat) (gJ σ a56 v5.toNat) hGσ hYσ h) wc_X1_43 2 hdC_J13_compare_74951 ⟨Nat.le_trans (Nat.le_of_ble_eq_true rfl) K.2.2.2.1, Nat.le_trans (Nat.le_of_ble_eq_true rfl) K.2.2.2.2.1⟩ rfl (rest := []) rfl (Nat.le_of_ble_eq_true rfl) dX1_compare_158 (fun σ57 w hq => ?_) (fun σ9 E9 hx9 => hX σ9 E9 _ _ _ (tb_out K.2.2.2.2.2.1 rfl) hx9.1 hx9.2.1 hx9.2.2.1 (hE.trans hx9.2.2.2))
  obtain ⟨r58, rfl, gr58, h, hGσ57, hYσ57, xσ57⟩ := hq
  have h := h xσ57
  intro H locs ls hH hl hc
  refine W.eq (g2 := F0 m 161 ls [.int (i32 r58)]) (rfl) ?_
  try dsimp only at h
  refine lv_istore (lv' := [(4, .int (i32 r58)), (0, va_rf v0), (1, va_rf v1), (3, .int (i32 v3)), (5, .int (i32 v5))]) B.1 B.2.1 dX1_compare_161 hl (by decide) rfl (fun ls hl => ?_)
  obtain ⟨q3, h⟩ := h
  refine lv_iinc (k := 4) (v := i32 (v5 + 1)) (lv' := [(5, .int (i32 (v5 + 1))), (4, .int (i32 r58)), (0, va_rf v0), (1, va_rf v1), (3, .int (i32 v3))]) B.1 B.2.1 dX1_compare_163 hl rfl (i32_add _ _) (by decide) rfl (fun ls hl => ?_)
  refine lv_goto (tgt := 126) B.1 B.2.1 dX1_compare_166 (by decide) ?_
  exact hK126 _ _ _ _ _ _ (g0.up xσ57) (g1.up xσ57) g3 gr58 q3 h hGσ57 hYσ57 (hE.trans xσ57) _ _ _ hH (lv_sub (l' := [(0, va_rf v0), (1, va_rf v1), (3, .int (i32 v3)), (4, .int (i32 r58)), (5, .int (i32 (v5 + 1)))]) hl [2, 3, 4, 1, 0] rfl) hc
set_option maxRecDepth 20000 in
theorem a_X1_compare_139 {Q : Sg → Int → Prop} {X : Sg → String → Prop} (K : MD l R p s m args c cX1_compare 6 RX1 D cA tys A n0 s0 1 23 []) (hQ : CQI p l e R s m args below meth c cX1_compare D cA A n0 s0 QM σi Q) (hX : CX p l e R s m args below meth c 6 D cA A n0 s0 QM σi X) (hTh : CT p l e R s m args below meth c cX1_compare 6 D cA A n0 s0 QM σi RX1 X) {K126 : Sg → Option Nat → Option Nat → Int → Int → Int → Prop} (hK126 : ∀ (σ : Sg) (v0 : Option Nat) (v1 : Option Nat) (v3 : Int) (v4 : Int) (v5 : Int) (g0 : tyV σ 0 v0) (g1 : tyV σ 0 v1) (g3 : rng v3) (g4 : rng v4) (g5 : rng v5), K126 σ v0 v1 v3 v4 v5 → RG σ → TY σ → Ext σi σ → JJ p l e R s m args below meth c 6 D cA A n0 s0 QM σ 126 [(0, va_rf v0), (1, va_rf v1), (3, .int (i32 v3)), (4, .int (i32 v4)), (5, .int (i32 v5))] []) : ∀ (σ : Sg) (v0 : Option Nat) (v1 : Option Nat) (v3 : Int) (v4 : Int) (v5 : Int) (g0 : tyV σ 0 v0) (g1 : tyV σ 0 v1) (g3 : rng v3) (g4 : rng v4) (g5 : rng v5), w_X1_compare_139 K126 Q X σ v0 v1 v3 v4 v5 → RG σ → TY σ → Ext σi σ → JJ p l e R s m args below meth c 6 D cA A n0 s0 QM σ 139 [(0, va_rf v0), (1, va_rf v1), (3, .int (i32 v3)), (4, .int (i32 v4)), (5, .int (i32 v5))] [] := by
  intro σ v0 v1 v3 v4 v5 g0 g1 g3 g4 g5 h hGσ hYσ hE H locs ls hH hl hc
  have B := K.1
  have hl9 := K.2.2.2.2.2.2
  unfold w_X1_compare_139 at h
  refine lv_iload B.1 B.2.1 dX1_compare_139 (lv_at hl 3 rfl) ?_
  refine lv_if_ne (tgt := 169) B.1 B.2.1 dX1_compare_141 (by decide) (fun h9 => ?_) (fun h9 => ?_)
  · rw [if_pos (fun q => h9 ((z_eq g4).mpr q))] at h
    exact a_X1_compare_169 K hQ hX hTh _ _ g4 h hGσ hYσ hE _ _ _ hH (lv_sub (l' := [(4, .int (i32 v4))]) hl [3] rfl) hc
  · rw [if_neg (fun q => q ((z_eq g4).mp h9))] at h
    exact a_X1_compare_144 K hQ hX hTh hK126 _ _ _ _ _ g0 g1 g3 g5 h hGσ hYσ hE _ _ _ hH (lv_sub (l' := [(0, va_rf v0), (1, va_rf v1), (3, .int (i32 v3)), (5, .int (i32 v5))]) hl [0, 1, 2, 4] rfl) hc
set_option maxRecDepth 20000 in
theorem a_X1_compare_132 {Q : Sg → Int → Prop} {X : Sg → String → Prop} (K : MD l R p s m args c cX1_compare 6 RX1 D cA tys A n0 s0 1 23 []) (hQ : CQI p l e R s m args below meth c cX1_compare D cA A n0 s0 QM σi Q) (hX : CX p l e R s m args below meth c 6 D cA A n0 s0 QM σi X) (hTh : CT p l e R s m args below meth c cX1_compare 6 D cA A n0 s0 QM σi RX1 X) {K126 : Sg → Option Nat → Option Nat → Int → Int → Int → Prop} (hK126 : ∀ (σ : Sg) (v0 : Option Nat) (v1 : Option Nat) (v3 : Int) (v4 : Int) (v5 : Int) (g0 : tyV σ 0 v0) (g1 : tyV σ 0 v1) (g3 : rng v3) (g4 : rng v4) (g5 : rng v5), K126 σ v0 v1 v3 v4 v5 → RG σ → TY σ → Ext σi σ → JJ p l e R s m args below meth c 6 D cA A n0 s0 QM σ 126 [(0, va_rf v0), (1, va_rf v1), (3, .int (i32 v3)), (4, .int (i32 v4)), (5, .int (i32 v5))] []) : ∀ (σ : Sg) (v0 : Option Nat) (v1 : Option Nat) (v3 : Int) (v4 : Int) (v5 : Int) (g0 : tyV σ 0 v0) (g1 : tyV σ 0 v1) (g3 : rng v3) (g4 : rng v4) (g5 : rng v5), w_X1_compare_132 K126 Q X σ v0 v1 v3 v4 v5 → RG σ → TY σ → Ext σi σ → JJ p l e R s m args below meth c 6 D cA A n0 s0 QM σ 132 [(0, va_rf v0), (1, va_rf v1), (3, .int (i32 v3)), (4, .int (i32 v4)), (5, .int (i32 v5))] [] := by
  intro σ v0 v1 v3 v4 v5 g0 g1 g3 g4 g5 h hGσ hYσ hE H locs ls hH hl hc
  have B := K.1
  have hl9 := K.2.2.2.2.2.2
  unfold w_X1_compare_132 at h
  refine lv_iload B.1 B.2.1 dX1_compare_132 (lv_at hl 4 rfl) ?_
  refine lv_bipush (v := i32 8) B.1 B.2.1 dX1_compare_134 (by decide) ?_
  refine lv_icmp_ge (tgt := 169) B.1 B.2.1 dX1_compare_136 (by decide) (fun h9 => ?_) (fun h9 => ?_)
  · rw [if_pos ((i32_le (by unfold rng; omega) g5).mp h9)] at h
    exact a_X1_compare_169 K hQ hX hTh _ _ g4 h hGσ hYσ hE _ _ _ hH (lv_sub (l' := [(4, .int (i32 v4))]) hl [3] rfl) hc
  · rw [if_neg (fun q => h9 ((i32_le (by unfold rng; omega) g5).mpr q))] at h
    exact a_X1_compare_139 K hQ hX hTh hK126 _ _ _ _ _ _ g0 g1 g3 g4 g5 h hGσ hYσ hE _ _ _ hH (lv_sub (l' := [(0, va_rf v0), (1, va_rf v1), (3, .int (i32 v3)), (4, .int (i32 v4)), (5, .int (i32 v5))]) hl [0, 1, 2, 3, 4] rfl) hc
set_option maxRecDepth 20000 in
theorem a_X1_compare_126 {Q : Sg → Int → Prop} {X : Sg → String → Prop} (K : MD l R p s m args c cX1_compare 6 RX1 D cA tys A n0 s0 1 23 []) (hQ : CQI p l e R s m args below meth c cX1_compare D cA A n0 s0 QM σi Q) (hX : CX p l e R s m args below meth c 6 D cA A n0 s0 QM σi X) (hTh : CT p l e R s m args below meth c cX1_compare 6 D cA A n0 s0 QM σi RX1 X) {K126 : Sg → Option Nat → Option Nat → Int → Int → Int → Prop} (hK126 : ∀ (σ : Sg) (v0 : Option Nat) (v1 : Option Nat) (v3 : Int) (v4 : Int) (v5 : Int) (g0 : tyV σ 0 v0) (g1 : tyV σ 0 v1) (g3 : rng v3) (g4 : rng v4) (g5 : rng v5), K126 σ v0 v1 v3 v4 v5 → RG σ → TY σ → Ext σi σ → JJ p l e R s m args below meth c 6 D cA A n0 s0 QM σ 126 [(0, va_rf v0), (1, va_rf v1), (3, .int (i32 v3)), (4, .int (i32 v4)), (5, .int (i32 v5))] []) : ∀ (σ : Sg) (v0 : Option Nat) (v1 : Option Nat) (v3 : Int) (v4 : Int) (v5 : Int) (g0 : tyV σ 0 v0) (g1 : tyV σ 0 v1) (g3 : rng v3) (g4 : rng v4) (g5 : rng v5), w_X1_compare_126 K126 Q X σ v0 v1 v3 v4 v5 → RG σ → TY σ → Ext σi σ → JJ p l e R s m args below meth c 6 D cA A n0 s0 QM σ 126 [(0, va_rf v0), (1, va_rf v1), (3, .int (i32 v3)), (4, .int (i32 v4)), (5, .int (i32 v5))] [] := by
  intro σ v0 v1 v3 v4 v5 g0 g1 g3 g4 g5 h hGσ hYσ hE H locs ls hH hl hc
  have B := K.1
  have hl9 := K.2.2.2.2.2.2
  unfold w_X1_compare_126 at h
  refine lv_iload B.1 B.2.1 dX1_compare_126 (lv_at hl 4 rfl) ?_
  refine lv_iload_n B.1 B.2.1 dX1_compare_128 rfl (lv_at hl 2 rfl) ?_
  refine lv_icmp_ge (tgt := 169) B.1 B.2.1 dX1_compare_129 (by decide) (fun h9 => ?_) (fun h9 => ?_)
  · rw [if_pos ((i32_le g3 g5).mp h9)] at h
    exact a_X1_compare_169 K hQ hX hTh _ _ g4 h hGσ hYσ hE _ _ _ hH (lv_sub (l' := [(4, .int (i32 v4))]) hl [3] rfl) hc
  · rw [if_neg (fun q => h9 ((i32_le g3 g5).mpr q))] at h
    exact a_X1_compare_132 K hQ hX hTh hK126 _ _ _ _ _ _ g0 g1 g3 g4 g5 h hGσ hYσ hE _ _ _ hH (lv_sub (l' := [(0, va_rf v0), (1, va_rf v1), (3, .int (i32 v3)), (4, .int (i32 v4)), (5, .int (i32 v5))]) hl [0, 1, 2, 3, 4] rfl) hc
theorem al_X1_compare_126 {Q : Sg → Int → Prop} {X : Sg → String → Prop} (K : MD l R p s m args c cX1_compare 6 RX1 D cA tys A n0 s0 1 23 []) (hQ : CQI p l e R s m args below meth c cX1_compare D cA A n0 s0 QM σi Q) (hX : CX p l e R s m args below meth c 6 D cA A n0 s0 QM σi X) (hTh : CT p l e R s m args below meth c cX1_compare 6 D cA A n0 s0 QM σi RX1 X) : ∀ (n : Nat), ∀ (σ : Sg) (v0 : Option Nat) (v1 : Option Nat) (v3 : Int) (v4 : Int) (v5 : Int) (g0 : tyV σ 0 v0) (g1 : tyV σ 0 v1) (g3 : rng v3) (g4 : rng v4) (g5 : rng v5), wl_X1_compare_126 Q X n σ v0 v1 v3 v4 v5 → RG σ → TY σ → Ext σi σ → JJ p l e R s m args below meth c 6 D cA A n0 s0 QM σ 126 [(0, va_rf v0), (1, va_rf v1), (3, .int (i32 v3)), (4, .int (i32 v4)), (5, .int (i32 v5))] [] := by
  intro n
  induction n with
  | zero => intro σ v0 v1 v3 v4 v5 g0 g1 g3 g4 g5 h; exact h.elim
  | succ n ih => exact fun σ v0 v1 v3 v4 v5 g0 g1 g3 g4 g5 h => a_X1_compare_126 K hQ hX hTh ih σ v0 v1 v3 v4 v5 g0 g1 g3 g4 g5 h
set_option maxRecDepth 20000 in
theorem a_X1_compare_123 {Q : Sg → Int → Prop} {X : Sg → String → Prop} (K : MD l R p s m args c cX1_compare 6 RX1 D cA tys A n0 s0 1 23 []) (hQ : CQI p l e R s m args below meth c cX1_compare D cA A n0 s0 QM σi Q) (hX : CX p l e R s m args below meth c 6 D cA A n0 s0 QM σi X) (hTh : CT p l e R s m args below meth c cX1_compare 6 D cA A n0 s0 QM σi RX1 X) : ∀ (σ : Sg) (v0 : Option Nat) (v1 : Option Nat) (v3 : Int) (v4 : Int) (g0 : tyV σ 0 v0) (g1 : tyV σ 0 v1) (g3 : rng v3) (g4 : rng v4), w_X1_compare_123 Q X σ v0 v1 v3 v4 → RG σ → TY σ → Ext σi σ → JJ p l e R s m args below meth c 6 D cA A n0 s0 QM σ 123 [(0, va_rf v0), (1, va_rf v1), (3, .int (i32 v3)), (4, .int (i32 v4))] [] := by
  intro σ v0 v1 v3 v4 g0 g1 g3 g4 h hGσ hYσ hE H locs ls hH hl hc
  have B := K.1
  have hl9 := K.2.2.2.2.2.2
  unfold w_X1_compare_123 at h
  refine lv_iconst (v := i32 0) B.1 B.2.1 dX1_compare_123 (by decide) ?_
  refine lv_istore (lv' := [(5, .int (i32 0)), (0, va_rf v0), (1, va_rf v1), (3, .int (i32 v3)), (4, .int (i32 v4))]) B.1 B.2.1 dX1_compare_124 hl (by decide) rfl (fun ls hl => ?_)
  obtain ⟨n9, h⟩ := h
  exact al_X1_compare_126 K hQ hX hTh n9 _ _ _ _ _ _ g0 g1 g3 g4 (by unfold rng; omega) h hGσ hYσ hE _ _ _ hH (lv_sub (l' := [(0, va_rf v0), (1, va_rf v1), (3, .int (i32 v3)), (4, .int (i32 v4)), (5, .int (i32 0))]) hl [1, 2, 3, 4, 0] rfl) hc
set_option maxRecDepth 20000 in
theorem a_X1_compare_122 {Q : Sg → Int → Prop} {X : Sg → String → Prop} (K : MD l R p s m args c cX1_compare 6 RX1 D cA tys A n0 s0 1 23 []) (hQ : CQI p l e R s m args below meth c cX1_compare D cA A n0 s0 QM σi Q) (hX : CX p l e R s m args below meth c 6 D cA A n0 s0 QM σi X) (hTh : CT p l e R s m args below meth c cX1_compare 6 D cA A n0 s0 QM σi RX1 X) : ∀ (σ : Sg) (u0 : Int) (gu0 : rng u0), w_X1_compare_122 Q X σ u0 → RG σ → TY σ → Ext σi σ → JJ p l e R s m args below meth c 6 D cA A n0 s0 QM σ 122 [] [.int (i32 u0)] := by
  intro σ u0 gu0 h hGσ hYσ hE H locs ls hH hl hc
  have B := K.1
  have hl9 := K.2.2.2.2.2.2
  unfold w_X1_compare_122 at h
  exact hQ _ _ _ _ _ _ gu0 dX1_compare_122 hH hc h hGσ hYσ hE
set_option maxRecDepth 20000 in
theorem a_X1_compare_111 {Q : Sg → Int → Prop} {X : Sg → String → Prop} (K : MD l R p s m args c cX1_compare 6 RX1 D cA tys A n0 s0 1 23 []) (hQ : CQI p l e R s m args below meth c cX1_compare D cA A n0 s0 QM σi Q) (hX : CX p l e R s m args below meth c 6 D cA A n0 s0 QM σi X) (hTh : CT p l e R s m args below meth c cX1_compare 6 D cA A n0 s0 QM σi RX1 X) : ∀ (σ : Sg) (v0 : Option Nat) (v1 : Option Nat) (g0 : tyV σ 0 v0) (g1 : tyV σ 0 v1), w_X1_compare_111 Q X σ v0 v1 → RG σ → TY σ → Ext σi σ → JJ p l e R s m args below meth c 6 D cA A n0 s0 QM σ 111 [(0, va_rf v0), (1, va_rf v1)] [] := by
  intro σ v0 v1 g0 g1 h hGσ hYσ hE H locs ls hH hl hc
  have B := K.1
  have hl9 := K.2.2.2.2.2.2
  unfold w_X1_compare_111 at h
  refine lv_aload_nQ B.1 B.2.1 dX1_compare_111 rfl (lv_at hl 0 rfl) ?_
  obtain ⟨a59, ea59, h⟩ := h
  have ka59 : kO σ a59 0 := g0 a59 ea59
  have h := h ka59
  refine W.eq (g2 := F0 m 112 ls [.ref a59]) (by rw [ea59]; rfl) ?_
  refine f_getl B hH ka59 (by decide) rfl wu_X0 6 (by decide) wf_X1_39 rfl rfl dX1_compare_112 ?_
  refine lv_aload_nQ B.1 B.2.1 dX1_compare_115 rfl (lv_at hl 1 rfl) ?_
  obtain ⟨a60, ea60, h⟩ := h
  have ka60 : kO σ a60 0 := g1 a60 ea60
  have h := h ka60
  refine W.eq (g2 := F0 m 116 ls [.ref a60, .long (gJ σ a59 6)]) (by rw [ea60]; rfl) ?_
  refine f_getl B hH ka60 (by decide) rfl wu_X0 6 (by decide) wf_X1_39 rfl rfl dX1_compare_116 ?_
  refine c_S B hH hl hc K.2.2.1 (As := [.long (gJ σ a59 6), .long (gJ σ a60 6)]) (okC_J13_compare_74951 hl9 K.2.1 σ (gJ σ a59 6) (gJ σ a60 6) hGσ hYσ h) wc_X1_43 2 hdC_J13_compare_74951 ⟨Nat.le_trans (Nat.le_of_ble_eq_true rfl) K.2.2.2.1, Nat.le_trans (Nat.le_of_ble_eq_true rfl) K.2.2.2.2.1⟩ rfl (rest := []) rfl (Nat.le_of_ble_eq_true rfl) dX1_compare_119 (fun σ61 w hq => ?_) (fun σ9 E9 hx9 => hX σ9 E9 _ _ _ (tb_out K.2.2.2.2.2.1 rfl) hx9.1 hx9.2.1 hx9.2.2.1 (hE.trans hx9.2.2.2))
  obtain ⟨r62, rfl, gr62, h, hGσ61, hYσ61, xσ61⟩ := hq
  have h := h xσ61
  intro H locs ls hH hl hc
  refine W.eq (g2 := F0 m 122 ls [.int (i32 r62)]) (rfl) ?_
  try dsimp only at h
  exact a_X1_compare_122 K hQ hX hTh _ _ gr62 h hGσ61 hYσ61 (hE.trans xσ61) _ _ _ hH (lv_sub (l' := []) hl [] rfl) hc
set_option maxRecDepth 20000 in
theorem a_X1_compare_106 {Q : Sg → Int → Prop} {X : Sg → String → Prop} (K : MD l R p s m args c cX1_compare 6 RX1 D cA tys A n0 s0 1 23 []) (hQ : CQI p l e R s m args below meth c cX1_compare D cA A n0 s0 QM σi Q) (hX : CX p l e R s m args below meth c 6 D cA A n0 s0 QM σi X) (hTh : CT p l e R s m args below meth c cX1_compare 6 D cA A n0 s0 QM σi RX1 X) : ∀ (σ : Sg) (v4 : Int) (g4 : rng v4), w_X1_compare_106 Q X σ v4 → RG σ → TY σ → Ext σi σ → JJ p l e R s m args below meth c 6 D cA A n0 s0 QM σ 106 [(4, .int (i32 v4))] [] := by
  intro σ v4 g4 h hGσ hYσ hE H locs ls hH hl hc
  have B := K.1
  have hl9 := K.2.2.2.2.2.2
  unfold w_X1_compare_106 at h
  refine lv_iload B.1 B.2.1 dX1_compare_106 (lv_at hl 0 rfl) ?_
  refine lv_goto (tgt := 122) B.1 B.2.1 dX1_compare_108 (by decide) ?_
  exact a_X1_compare_122 K hQ hX hTh _ _ g4 h hGσ hYσ hE _ _ _ hH (lv_sub (l' := []) hl [] rfl) hc
set_option maxRecDepth 20000 in
theorem a_X1_compare_99 {Q : Sg → Int → Prop} {X : Sg → String → Prop} (K : MD l R p s m args c cX1_compare 6 RX1 D cA tys A n0 s0 1 23 []) (hQ : CQI p l e R s m args below meth c cX1_compare D cA A n0 s0 QM σi Q) (hX : CX p l e R s m args below meth c 6 D cA A n0 s0 QM σi X) (hTh : CT p l e R s m args below meth c cX1_compare 6 D cA A n0 s0 QM σi RX1 X) : ∀ (σ : Sg) (v0 : Option Nat) (v1 : Option Nat) (u0 : Int) (g0 : tyV σ 0 v0) (g1 : tyV σ 0 v1) (gu0 : rng u0), w_X1_compare_99 Q X σ v0 v1 u0 → RG σ → TY σ → Ext σi σ → JJ p l e R s m args below meth c 6 D cA A n0 s0 QM σ 99 [(0, va_rf v0), (1, va_rf v1)] [.int (i32 u0)] := by
  intro σ v0 v1 u0 g0 g1 gu0 h hGσ hYσ hE H locs ls hH hl hc
  have B := K.1
  have hl9 := K.2.2.2.2.2.2
  unfold w_X1_compare_99 at h
  refine lv_istore (lv' := [(4, .int (i32 u0)), (0, va_rf v0), (1, va_rf v1)]) B.1 B.2.1 dX1_compare_99 hl (by decide) rfl (fun ls hl => ?_)
  refine lv_iload B.1 B.2.1 dX1_compare_101 (lv_at hl 0 rfl) ?_
  refine lv_if_eq (tgt := 111) B.1 B.2.1 dX1_compare_103 (by decide) (fun h9 => ?_) (fun h9 => ?_)
  · rw [if_pos ((z_eq gu0).mp h9)] at h
    exact a_X1_compare_111 K hQ hX hTh _ _ _ g0 g1 h hGσ hYσ hE _ _ _ hH (lv_sub (l' := [(0, va_rf v0), (1, va_rf v1)]) hl [1, 2] rfl) hc
  · rw [if_neg (fun q => h9 ((z_eq gu0).mpr q))] at h
    exact a_X1_compare_106 K hQ hX hTh _ _ gu0 h hGσ hYσ hE _ _ _ hH (lv_sub (l' := [(4, .int (i32 u0))]) hl [0] rfl) hc
set_option maxRecDepth 20000 in
theorem a_X1_compare_88 {Q : Sg → Int → Prop} {X : Sg → String → Prop} (K : MD l R p s m args c cX1_compare 6 RX1 D cA tys A n0 s0 1 23 []) (hQ : CQI p l e R s m args below meth c cX1_compare D cA A n0 s0 QM σi Q) (hX : CX p l e R s m args below meth c 6 D cA A n0 s0 QM σi X) (hTh : CT p l e R s m args below meth c cX1_compare 6 D cA A n0 s0 QM σi RX1 X) : ∀ (σ : Sg) (v0 : Option Nat) (v1 : Option Nat) (g0 : tyV σ 0 v0) (g1 : tyV σ 0 v1), w_X1_compare_88 Q X σ v0 v1 → RG σ → TY σ → Ext σi σ → JJ p l e R s m args below meth c 6 D cA A n0 s0 QM σ 88 [(0, va_rf v0), (1, va_rf v1)] [] := by
  intro σ v0 v1 g0 g1 h hGσ hYσ hE H locs ls hH hl hc
  have B := K.1
  have hl9 := K.2.2.2.2.2.2
  unfold w_X1_compare_88 at h
  refine lv_aload_nQ B.1 B.2.1 dX1_compare_88 rfl (lv_at hl 0 rfl) ?_
  obtain ⟨a63, ea63, h⟩ := h
  have ka63 : kO σ a63 0 := g0 a63 ea63
  have h := h ka63
  refine W.eq (g2 := F0 m 89 ls [.ref a63]) (by rw [ea63]; rfl) ?_
  refine f_getl B hH ka63 (by decide) rfl wu_X0 7 (by decide) wf_X1_48 rfl rfl dX1_compare_89 ?_
  refine lv_aload_nQ B.1 B.2.1 dX1_compare_92 rfl (lv_at hl 1 rfl) ?_
  obtain ⟨a64, ea64, h⟩ := h
  have ka64 : kO σ a64 0 := g1 a64 ea64
  have h := h ka64
  refine W.eq (g2 := F0 m 93 ls [.ref a64, .long (gJ σ a63 7)]) (by rw [ea64]; rfl) ?_
  refine f_getl B hH ka64 (by decide) rfl wu_X0 7 (by decide) wf_X1_48 rfl rfl dX1_compare_93 ?_
  refine c_S B hH hl hc K.2.2.1 (As := [.long (gJ σ a63 7), .long (gJ σ a64 7)]) (okC_J13_compare_74951 hl9 K.2.1 σ (gJ σ a63 7) (gJ σ a64 7) hGσ hYσ h) wc_X1_43 2 hdC_J13_compare_74951 ⟨Nat.le_trans (Nat.le_of_ble_eq_true rfl) K.2.2.2.1, Nat.le_trans (Nat.le_of_ble_eq_true rfl) K.2.2.2.2.1⟩ rfl (rest := []) rfl (Nat.le_of_ble_eq_true rfl) dX1_compare_96 (fun σ65 w hq => ?_) (fun σ9 E9 hx9 => hX σ9 E9 _ _ _ (tb_out K.2.2.2.2.2.1 rfl) hx9.1 hx9.2.1 hx9.2.2.1 (hE.trans hx9.2.2.2))
  obtain ⟨r66, rfl, gr66, h, hGσ65, hYσ65, xσ65⟩ := hq
  have h := h xσ65
  intro H locs ls hH hl hc
  refine W.eq (g2 := F0 m 99 ls [.int (i32 r66)]) (rfl) ?_
  try dsimp only at h
  exact a_X1_compare_99 K hQ hX hTh _ _ _ _ (g0.up xσ65) (g1.up xσ65) gr66 h hGσ65 hYσ65 (hE.trans xσ65) _ _ _ hH (lv_sub (l' := [(0, va_rf v0), (1, va_rf v1)]) hl [0, 1] rfl) hc
set_option maxRecDepth 20000 in
theorem a_X1_compare_83 {Q : Sg → Int → Prop} {X : Sg → String → Prop} (K : MD l R p s m args c cX1_compare 6 RX1 D cA tys A n0 s0 1 23 []) (hQ : CQI p l e R s m args below meth c cX1_compare D cA A n0 s0 QM σi Q) (hX : CX p l e R s m args below meth c 6 D cA A n0 s0 QM σi X) (hTh : CT p l e R s m args below meth c cX1_compare 6 D cA A n0 s0 QM σi RX1 X) : ∀ (σ : Sg) (v0 : Option Nat) (v1 : Option Nat) (v4 : Int) (g0 : tyV σ 0 v0) (g1 : tyV σ 0 v1) (g4 : rng v4), w_X1_compare_83 Q X σ v0 v1 v4 → RG σ → TY σ → Ext σi σ → JJ p l e R s m args below meth c 6 D cA A n0 s0 QM σ 83 [(0, va_rf v0), (1, va_rf v1), (4, .int (i32 v4))] [] := by
  intro σ v0 v1 v4 g0 g1 g4 h hGσ hYσ hE H locs ls hH hl hc
  have B := K.1
  have hl9 := K.2.2.2.2.2.2
  unfold w_X1_compare_83 at h
  refine lv_iload B.1 B.2.1 dX1_compare_83 (lv_at hl 2 rfl) ?_
  refine lv_goto (tgt := 99) B.1 B.2.1 dX1_compare_85 (by decide) ?_
  exact a_X1_compare_99 K hQ hX hTh _ _ _ _ g0 g1 g4 h hGσ hYσ hE _ _ _ hH (lv_sub (l' := [(0, va_rf v0), (1, va_rf v1)]) hl [0, 1] rfl) hc
set_option maxRecDepth 20000 in
theorem a_X1_compare_78 {Q : Sg → Int → Prop} {X : Sg → String → Prop} (K : MD l R p s m args c cX1_compare 6 RX1 D cA tys A n0 s0 1 23 []) (hQ : CQI p l e R s m args below meth c cX1_compare D cA A n0 s0 QM σi Q) (hX : CX p l e R s m args below meth c 6 D cA A n0 s0 QM σi X) (hTh : CT p l e R s m args below meth c cX1_compare 6 D cA A n0 s0 QM σi RX1 X) : ∀ (σ : Sg) (v0 : Option Nat) (v1 : Option Nat) (v4 : Int) (g0 : tyV σ 0 v0) (g1 : tyV σ 0 v1) (g4 : rng v4), w_X1_compare_78 Q X σ v0 v1 v4 → RG σ → TY σ → Ext σi σ → JJ p l e R s m args below meth c 6 D cA A n0 s0 QM σ 78 [(0, va_rf v0), (1, va_rf v1), (4, .int (i32 v4))] [] := by
  intro σ v0 v1 v4 g0 g1 g4 h hGσ hYσ hE H locs ls hH hl hc
  have B := K.1
  have hl9 := K.2.2.2.2.2.2
  unfold w_X1_compare_78 at h
  refine lv_iload B.1 B.2.1 dX1_compare_78 (lv_at hl 2 rfl) ?_
  refine lv_if_eq (tgt := 88) B.1 B.2.1 dX1_compare_80 (by decide) (fun h9 => ?_) (fun h9 => ?_)
  · rw [if_pos ((z_eq g4).mp h9)] at h
    exact a_X1_compare_88 K hQ hX hTh _ _ _ g0 g1 h hGσ hYσ hE _ _ _ hH (lv_sub (l' := [(0, va_rf v0), (1, va_rf v1)]) hl [0, 1] rfl) hc
  · rw [if_neg (fun q => h9 ((z_eq g4).mpr q))] at h
    exact a_X1_compare_83 K hQ hX hTh _ _ _ _ g0 g1 g4 h hGσ hYσ hE _ _ _ hH (lv_sub (l' := [(0, va_rf v0), (1, va_rf v1), (4, .int (i32 v4))]) hl [0, 1, 2] rfl) hc
set_option maxRecDepth 20000 in
theorem a_X1_compare_71 {Q : Sg → Int → Prop} {X : Sg → String → Prop} (K : MD l R p s m args c cX1_compare 6 RX1 D cA tys A n0 s0 1 23 []) (hQ : CQI p l e R s m args below meth c cX1_compare D cA A n0 s0 QM σi Q) (hX : CX p l e R s m args below meth c 6 D cA A n0 s0 QM σi X) (hTh : CT p l e R s m args below meth c cX1_compare 6 D cA A n0 s0 QM σi RX1 X) : ∀ (σ : Sg) (v0 : Option Nat) (v1 : Option Nat) (v2 : Int) (v3 : Int) (u0 : Int) (g0 : tyV σ 0 v0) (g1 : tyV σ 0 v1) (g2 : rng v2) (g3 : rng v3) (gu0 : rng u0), w_X1_compare_71 Q X σ v0 v1 v2 v3 u0 → RG σ → TY σ → Ext σi σ → JJ p l e R s m args below meth c 6 D cA A n0 s0 QM σ 71 [(0, va_rf v0), (1, va_rf v1), (2, .int (i32 v2)), (3, .int (i32 v3))] [.int (i32 u0)] := by
  intro σ v0 v1 v2 v3 u0 g0 g1 g2 g3 gu0 h hGσ hYσ hE H locs ls hH hl hc
  have B := K.1
  have hl9 := K.2.2.2.2.2.2
  unfold w_X1_compare_71 at h
  refine lv_istore (lv' := [(4, .int (i32 u0)), (0, va_rf v0), (1, va_rf v1), (2, .int (i32 v2)), (3, .int (i32 v3))]) B.1 B.2.1 dX1_compare_71 hl (by decide) rfl (fun ls hl => ?_)
  refine lv_iload_n B.1 B.2.1 dX1_compare_73 rfl (lv_at hl 3 rfl) ?_
  refine lv_iconst (v := i32 2) B.1 B.2.1 dX1_compare_74 (by decide) ?_
  refine lv_icmp_ne (tgt := 123) B.1 B.2.1 dX1_compare_75 (by decide) (fun h9 => ?_) (fun h9 => ?_)
  · rw [if_pos (fun q => h9 ((i32_eq g2 (by unfold rng; omega)).mpr q))] at h
    exact a_X1_compare_123 K hQ hX hTh _ _ _ _ _ g0 g1 g3 gu0 h hGσ hYσ hE _ _ _ hH (lv_sub (l' := [(0, va_rf v0), (1, va_rf v1), (3, .int (i32 v3)), (4, .int (i32 u0))]) hl [1, 2, 4, 0] rfl) hc
  · rw [if_neg (fun q => q ((i32_eq g2 (by unfold rng; omega)).mp h9))] at h
    exact a_X1_compare_78 K hQ hX hTh _ _ _ _ g0 g1 gu0 h hGσ hYσ hE _ _ _ hH (lv_sub (l' := [(0, va_rf v0), (1, va_rf v1), (4, .int (i32 u0))]) hl [1, 2, 0] rfl) hc
set_option maxRecDepth 20000 in
theorem a_X1_compare_60 {Q : Sg → Int → Prop} {X : Sg → String → Prop} (K : MD l R p s m args c cX1_compare 6 RX1 D cA tys A n0 s0 1 23 []) (hQ : CQI p l e R s m args below meth c cX1_compare D cA A n0 s0 QM σi Q) (hX : CX p l e R s m args below meth c 6 D cA A n0 s0 QM σi X) (hTh : CT p l e R s m args below meth c cX1_compare 6 D cA A n0 s0 QM σi RX1 X) : ∀ (σ : Sg) (v0 : Option Nat) (v1 : Option Nat) (v2 : Int) (v3 : Int) (g0 : tyV σ 0 v0) (g1 : tyV σ 0 v1) (g2 : rng v2) (g3 : rng v3), w_X1_compare_60 Q X σ v0 v1 v2 v3 → RG σ → TY σ → Ext σi σ → JJ p l e R s m args below meth c 6 D cA A n0 s0 QM σ 60 [(0, va_rf v0), (1, va_rf v1), (2, .int (i32 v2)), (3, .int (i32 v3))] [] := by
  intro σ v0 v1 v2 v3 g0 g1 g2 g3 h hGσ hYσ hE H locs ls hH hl hc
  have B := K.1
  have hl9 := K.2.2.2.2.2.2
  unfold w_X1_compare_60 at h
  refine lv_aload_nQ B.1 B.2.1 dX1_compare_60 rfl (lv_at hl 0 rfl) ?_
  obtain ⟨a67, ea67, h⟩ := h
  have ka67 : kO σ a67 0 := g0 a67 ea67
  have h := h ka67
  refine W.eq (g2 := F0 m 61 ls [.ref a67]) (by rw [ea67]; rfl) ?_
  refine f_getl B hH ka67 (by decide) rfl wu_X0 5 (by decide) wf_X1_51 rfl rfl dX1_compare_61 ?_
  refine lv_aload_nQ B.1 B.2.1 dX1_compare_64 rfl (lv_at hl 1 rfl) ?_
  obtain ⟨a68, ea68, h⟩ := h
  have ka68 : kO σ a68 0 := g1 a68 ea68
  have h := h ka68
  refine W.eq (g2 := F0 m 65 ls [.ref a68, .long (gJ σ a67 5)]) (by rw [ea68]; rfl) ?_
  refine f_getl B hH ka68 (by decide) rfl wu_X0 5 (by decide) wf_X1_51 rfl rfl dX1_compare_65 ?_
  refine c_S B hH hl hc K.2.2.1 (As := [.long (gJ σ a67 5), .long (gJ σ a68 5)]) (okC_J13_compare_74951 hl9 K.2.1 σ (gJ σ a67 5) (gJ σ a68 5) hGσ hYσ h) wc_X1_43 2 hdC_J13_compare_74951 ⟨Nat.le_trans (Nat.le_of_ble_eq_true rfl) K.2.2.2.1, Nat.le_trans (Nat.le_of_ble_eq_true rfl) K.2.2.2.2.1⟩ rfl (rest := []) rfl (Nat.le_of_ble_eq_true rfl) dX1_compare_68 (fun σ69 w hq => ?_) (fun σ9 E9 hx9 => hX σ9 E9 _ _ _ (tb_out K.2.2.2.2.2.1 rfl) hx9.1 hx9.2.1 hx9.2.2.1 (hE.trans hx9.2.2.2))
  obtain ⟨r70, rfl, gr70, h, hGσ69, hYσ69, xσ69⟩ := hq
  have h := h xσ69
  intro H locs ls hH hl hc
  refine W.eq (g2 := F0 m 71 ls [.int (i32 r70)]) (rfl) ?_
  try dsimp only at h
  exact a_X1_compare_71 K hQ hX hTh _ _ _ _ _ _ (g0.up xσ69) (g1.up xσ69) g2 g3 gr70 h hGσ69 hYσ69 (hE.trans xσ69) _ _ _ hH (lv_sub (l' := [(0, va_rf v0), (1, va_rf v1), (2, .int (i32 v2)), (3, .int (i32 v3))]) hl [0, 1, 2, 3] rfl) hc
set_option maxRecDepth 20000 in
theorem a_X1_compare_55 {Q : Sg → Int → Prop} {X : Sg → String → Prop} (K : MD l R p s m args c cX1_compare 6 RX1 D cA tys A n0 s0 1 23 []) (hQ : CQI p l e R s m args below meth c cX1_compare D cA A n0 s0 QM σi Q) (hX : CX p l e R s m args below meth c 6 D cA A n0 s0 QM σi X) (hTh : CT p l e R s m args below meth c cX1_compare 6 D cA A n0 s0 QM σi RX1 X) : ∀ (σ : Sg) (v0 : Option Nat) (v1 : Option Nat) (v2 : Int) (v3 : Int) (v4 : Int) (g0 : tyV σ 0 v0) (g1 : tyV σ 0 v1) (g2 : rng v2) (g3 : rng v3) (g4 : rng v4), w_X1_compare_55 Q X σ v0 v1 v2 v3 v4 → RG σ → TY σ → Ext σi σ → JJ p l e R s m args below meth c 6 D cA A n0 s0 QM σ 55 [(0, va_rf v0), (1, va_rf v1), (2, .int (i32 v2)), (3, .int (i32 v3)), (4, .int (i32 v4))] [] := by
  intro σ v0 v1 v2 v3 v4 g0 g1 g2 g3 g4 h hGσ hYσ hE H locs ls hH hl hc
  have B := K.1
  have hl9 := K.2.2.2.2.2.2
  unfold w_X1_compare_55 at h
  refine lv_iload B.1 B.2.1 dX1_compare_55 (lv_at hl 4 rfl) ?_
  refine lv_goto (tgt := 71) B.1 B.2.1 dX1_compare_57 (by decide) ?_
  exact a_X1_compare_71 K hQ hX hTh _ _ _ _ _ _ g0 g1 g2 g3 g4 h hGσ hYσ hE _ _ _ hH (lv_sub (l' := [(0, va_rf v0), (1, va_rf v1), (2, .int (i32 v2)), (3, .int (i32 v3))]) hl [0, 1, 2, 3] rfl) hc
set_option maxRecDepth 20000 in
theorem a_X1_compare_50 {Q : Sg → Int → Prop} {X : Sg → String → Prop} (K : MD l R p s m args c cX1_compare 6 RX1 D cA tys A n0 s0 1 23 []) (hQ : CQI p l e R s m args below meth c cX1_compare D cA A n0 s0 QM σi Q) (hX : CX p l e R s m args below meth c 6 D cA A n0 s0 QM σi X) (hTh : CT p l e R s m args below meth c cX1_compare 6 D cA A n0 s0 QM σi RX1 X) : ∀ (σ : Sg) (v0 : Option Nat) (v1 : Option Nat) (v2 : Int) (v3 : Int) (v4 : Int) (g0 : tyV σ 0 v0) (g1 : tyV σ 0 v1) (g2 : rng v2) (g3 : rng v3) (g4 : rng v4), w_X1_compare_50 Q X σ v0 v1 v2 v3 v4 → RG σ → TY σ → Ext σi σ → JJ p l e R s m args below meth c 6 D cA A n0 s0 QM σ 50 [(0, va_rf v0), (1, va_rf v1), (2, .int (i32 v2)), (3, .int (i32 v3)), (4, .int (i32 v4))] [] := by
  intro σ v0 v1 v2 v3 v4 g0 g1 g2 g3 g4 h hGσ hYσ hE H locs ls hH hl hc
  have B := K.1
  have hl9 := K.2.2.2.2.2.2
  unfold w_X1_compare_50 at h
  refine lv_iload B.1 B.2.1 dX1_compare_50 (lv_at hl 4 rfl) ?_
  refine lv_if_eq (tgt := 60) B.1 B.2.1 dX1_compare_52 (by decide) (fun h9 => ?_) (fun h9 => ?_)
  · rw [if_pos ((z_eq g4).mp h9)] at h
    exact a_X1_compare_60 K hQ hX hTh _ _ _ _ _ g0 g1 g2 g3 h hGσ hYσ hE _ _ _ hH (lv_sub (l' := [(0, va_rf v0), (1, va_rf v1), (2, .int (i32 v2)), (3, .int (i32 v3))]) hl [0, 1, 2, 3] rfl) hc
  · rw [if_neg (fun q => h9 ((z_eq g4).mpr q))] at h
    exact a_X1_compare_55 K hQ hX hTh _ _ _ _ _ _ g0 g1 g2 g3 g4 h hGσ hYσ hE _ _ _ hH (lv_sub (l' := [(0, va_rf v0), (1, va_rf v1), (2, .int (i32 v2)), (3, .int (i32 v3)), (4, .int (i32 v4))]) hl [0, 1, 2, 3, 4] rfl) hc
set_option maxRecDepth 20000 in
theorem a_X1_compare_48 {Q : Sg → Int → Prop} {X : Sg → String → Prop} (K : MD l R p s m args c cX1_compare 6 RX1 D cA tys A n0 s0 1 23 []) (hQ : CQI p l e R s m args below meth c cX1_compare D cA A n0 s0 QM σi Q) (hX : CX p l e R s m args below meth c 6 D cA A n0 s0 QM σi X) (hTh : CT p l e R s m args below meth c cX1_compare 6 D cA A n0 s0 QM σi RX1 X) : ∀ (σ : Sg) (v0 : Option Nat) (v1 : Option Nat) (v2 : Int) (v3 : Int) (u0 : Int) (g0 : tyV σ 0 v0) (g1 : tyV σ 0 v1) (g2 : rng v2) (g3 : rng v3) (gu0 : rng u0), w_X1_compare_48 Q X σ v0 v1 v2 v3 u0 → RG σ → TY σ → Ext σi σ → JJ p l e R s m args below meth c 6 D cA A n0 s0 QM σ 48 [(0, va_rf v0), (1, va_rf v1), (2, .int (i32 v2)), (3, .int (i32 v3))] [.int (i32 u0)] := by
  intro σ v0 v1 v2 v3 u0 g0 g1 g2 g3 gu0 h hGσ hYσ hE H locs ls hH hl hc
  have B := K.1
  have hl9 := K.2.2.2.2.2.2
  unfold w_X1_compare_48 at h
  refine lv_istore (lv' := [(4, .int (i32 u0)), (0, va_rf v0), (1, va_rf v1), (2, .int (i32 v2)), (3, .int (i32 v3))]) B.1 B.2.1 dX1_compare_48 hl (by decide) rfl (fun ls hl => ?_)
  exact a_X1_compare_50 K hQ hX hTh _ _ _ _ _ _ g0 g1 g2 g3 gu0 h hGσ hYσ hE _ _ _ hH (lv_sub (l' := [(0, va_rf v0), (1, va_rf v1), (2, .int (i32 v2)), (3, .int (i32 v3)), (4, .int (i32 u0))]) hl [1, 2, 3, 4, 0] rfl) hc
set_option maxRecDepth 20000 in
theorem a_X1_compare_37 {Q : Sg → Int → Prop} {X : Sg → String → Prop} (K : MD l R p s m args c cX1_compare 6 RX1 D cA tys A n0 s0 1 23 []) (hQ : CQI p l e R s m args below meth c cX1_compare D cA A n0 s0 QM σi Q) (hX : CX p l e R s m args below meth c 6 D cA A n0 s0 QM σi X) (hTh : CT p l e R s m args below meth c cX1_compare 6 D cA A n0 s0 QM σi RX1 X) : ∀ (σ : Sg) (v0 : Option Nat) (v1 : Option Nat) (v2 : Int) (v3 : Int) (g0 : tyV σ 0 v0) (g1 : tyV σ 0 v1) (g2 : rng v2) (g3 : rng v3), w_X1_compare_37 Q X σ v0 v1 v2 v3 → RG σ → TY σ → Ext σi σ → JJ p l e R s m args below meth c 6 D cA A n0 s0 QM σ 37 [(0, va_rf v0), (1, va_rf v1), (2, .int (i32 v2)), (3, .int (i32 v3))] [] := by
  intro σ v0 v1 v2 v3 g0 g1 g2 g3 h hGσ hYσ hE H locs ls hH hl hc
  have B := K.1
  have hl9 := K.2.2.2.2.2.2
  unfold w_X1_compare_37 at h
  refine lv_aload_nQ B.1 B.2.1 dX1_compare_37 rfl (lv_at hl 1 rfl) ?_
  obtain ⟨a71, ea71, h⟩ := h
  have ka71 : kO σ a71 0 := g1 a71 ea71
  have h := h ka71
  refine W.eq (g2 := F0 m 38 ls [.ref a71]) (by rw [ea71]; rfl) ?_
  refine f_getl B hH ka71 (by decide) rfl wu_X0 7 (by decide) wf_X1_48 rfl rfl dX1_compare_38 ?_
  refine lv_aload_nQ B.1 B.2.1 dX1_compare_41 rfl (lv_at hl 0 rfl) ?_
  obtain ⟨a72, ea72, h⟩ := h
  have ka72 : kO σ a72 0 := g0 a72 ea72
  have h := h ka72
  refine W.eq (g2 := F0 m 42 ls [.ref a72, .long (gJ σ a71 7)]) (by rw [ea72]; rfl) ?_
  refine f_getl B hH ka72 (by decide) rfl wu_X0 7 (by decide) wf_X1_48 rfl rfl dX1_compare_42 ?_
  refine c_S B hH hl hc K.2.2.1 (As := [.long (gJ σ a71 7), .long (gJ σ a72 7)]) (okC_J13_compare_74951 hl9 K.2.1 σ (gJ σ a71 7) (gJ σ a72 7) hGσ hYσ h) wc_X1_43 2 hdC_J13_compare_74951 ⟨Nat.le_trans (Nat.le_of_ble_eq_true rfl) K.2.2.2.1, Nat.le_trans (Nat.le_of_ble_eq_true rfl) K.2.2.2.2.1⟩ rfl (rest := []) rfl (Nat.le_of_ble_eq_true rfl) dX1_compare_45 (fun σ73 w hq => ?_) (fun σ9 E9 hx9 => hX σ9 E9 _ _ _ (tb_out K.2.2.2.2.2.1 rfl) hx9.1 hx9.2.1 hx9.2.2.1 (hE.trans hx9.2.2.2))
  obtain ⟨r74, rfl, gr74, h, hGσ73, hYσ73, xσ73⟩ := hq
  have h := h xσ73
  intro H locs ls hH hl hc
  refine W.eq (g2 := F0 m 48 ls [.int (i32 r74)]) (rfl) ?_
  try dsimp only at h
  exact a_X1_compare_48 K hQ hX hTh _ _ _ _ _ _ (g0.up xσ73) (g1.up xσ73) g2 g3 gr74 h hGσ73 hYσ73 (hE.trans xσ73) _ _ _ hH (lv_sub (l' := [(0, va_rf v0), (1, va_rf v1), (2, .int (i32 v2)), (3, .int (i32 v3))]) hl [0, 1, 2, 3] rfl) hc
set_option maxRecDepth 20000 in
theorem a_X1_compare_32 {Q : Sg → Int → Prop} {X : Sg → String → Prop} (K : MD l R p s m args c cX1_compare 6 RX1 D cA tys A n0 s0 1 23 []) (hQ : CQI p l e R s m args below meth c cX1_compare D cA A n0 s0 QM σi Q) (hX : CX p l e R s m args below meth c 6 D cA A n0 s0 QM σi X) (hTh : CT p l e R s m args below meth c cX1_compare 6 D cA A n0 s0 QM σi RX1 X) : ∀ (σ : Sg) (v0 : Option Nat) (v1 : Option Nat) (v2 : Int) (v3 : Int) (v4 : Int) (g0 : tyV σ 0 v0) (g1 : tyV σ 0 v1) (g2 : rng v2) (g3 : rng v3) (g4 : rng v4), w_X1_compare_32 Q X σ v0 v1 v2 v3 v4 → RG σ → TY σ → Ext σi σ → JJ p l e R s m args below meth c 6 D cA A n0 s0 QM σ 32 [(0, va_rf v0), (1, va_rf v1), (2, .int (i32 v2)), (3, .int (i32 v3)), (4, .int (i32 v4))] [] := by
  intro σ v0 v1 v2 v3 v4 g0 g1 g2 g3 g4 h hGσ hYσ hE H locs ls hH hl hc
  have B := K.1
  have hl9 := K.2.2.2.2.2.2
  unfold w_X1_compare_32 at h
  refine lv_iload B.1 B.2.1 dX1_compare_32 (lv_at hl 4 rfl) ?_
  refine lv_goto (tgt := 48) B.1 B.2.1 dX1_compare_34 (by decide) ?_
  exact a_X1_compare_48 K hQ hX hTh _ _ _ _ _ _ g0 g1 g2 g3 g4 h hGσ hYσ hE _ _ _ hH (lv_sub (l' := [(0, va_rf v0), (1, va_rf v1), (2, .int (i32 v2)), (3, .int (i32 v3))]) hl [0, 1, 2, 3] rfl) hc
set_option maxRecDepth 20000 in
theorem a_X1_compare_14 {Q : Sg → Int → Prop} {X : Sg → String → Prop} (K : MD l R p s m args c cX1_compare 6 RX1 D cA tys A n0 s0 1 23 []) (hQ : CQI p l e R s m args below meth c cX1_compare D cA A n0 s0 QM σi Q) (hX : CX p l e R s m args below meth c 6 D cA A n0 s0 QM σi X) (hTh : CT p l e R s m args below meth c cX1_compare 6 D cA A n0 s0 QM σi RX1 X) : ∀ (σ : Sg) (v0 : Option Nat) (v1 : Option Nat) (v2 : Int) (v3 : Int) (g0 : tyV σ 0 v0) (g1 : tyV σ 0 v1) (g2 : rng v2) (g3 : rng v3), w_X1_compare_14 Q X σ v0 v1 v2 v3 → RG σ → TY σ → Ext σi σ → JJ p l e R s m args below meth c 6 D cA A n0 s0 QM σ 14 [(0, va_rf v0), (1, va_rf v1), (2, .int (i32 v2)), (3, .int (i32 v3))] [] := by
  intro σ v0 v1 v2 v3 g0 g1 g2 g3 h hGσ hYσ hE H locs ls hH hl hc
  have B := K.1
  have hl9 := K.2.2.2.2.2.2
  unfold w_X1_compare_14 at h
  refine lv_aload_nQ B.1 B.2.1 dX1_compare_14 rfl (lv_at hl 0 rfl) ?_
  obtain ⟨a75, ea75, h⟩ := h
  have ka75 : kO σ a75 0 := g0 a75 ea75
  have h := h ka75
  refine W.eq (g2 := F0 m 15 ls [.ref a75]) (by rw [ea75]; rfl) ?_
  refine f_getl B hH ka75 (by decide) rfl wu_X0 6 (by decide) wf_X1_39 rfl rfl dX1_compare_15 ?_
  refine lv_aload_nQ B.1 B.2.1 dX1_compare_18 rfl (lv_at hl 1 rfl) ?_
  obtain ⟨a76, ea76, h⟩ := h
  have ka76 : kO σ a76 0 := g1 a76 ea76
  have h := h ka76
  refine W.eq (g2 := F0 m 19 ls [.ref a76, .long (gJ σ a75 6)]) (by rw [ea76]; rfl) ?_
  refine f_getl B hH ka76 (by decide) rfl wu_X0 6 (by decide) wf_X1_39 rfl rfl dX1_compare_19 ?_
  refine c_S B hH hl hc K.2.2.1 (As := [.long (gJ σ a75 6), .long (gJ σ a76 6)]) (okC_J13_compare_74951 hl9 K.2.1 σ (gJ σ a75 6) (gJ σ a76 6) hGσ hYσ h) wc_X1_43 2 hdC_J13_compare_74951 ⟨Nat.le_trans (Nat.le_of_ble_eq_true rfl) K.2.2.2.1, Nat.le_trans (Nat.le_of_ble_eq_true rfl) K.2.2.2.2.1⟩ rfl (rest := []) rfl (Nat.le_of_ble_eq_true rfl) dX1_compare_22 (fun σ77 w hq => ?_) (fun σ9 E9 hx9 => hX σ9 E9 _ _ _ (tb_out K.2.2.2.2.2.1 rfl) hx9.1 hx9.2.1 hx9.2.2.1 (hE.trans hx9.2.2.2))
  obtain ⟨r78, rfl, gr78, h, hGσ77, hYσ77, xσ77⟩ := hq
  have h := h xσ77
  intro H locs ls hH hl hc
  refine W.eq (g2 := F0 m 25 ls [.int (i32 r78)]) (rfl) ?_
  try dsimp only at h
  refine lv_istore (lv' := [(4, .int (i32 r78)), (0, va_rf v0), (1, va_rf v1), (2, .int (i32 v2)), (3, .int (i32 v3))]) B.1 B.2.1 dX1_compare_25 hl (by decide) rfl (fun ls hl => ?_)
  refine lv_iload B.1 B.2.1 dX1_compare_27 (lv_at hl 0 rfl) ?_
  refine lv_if_eq (tgt := 37) B.1 B.2.1 dX1_compare_29 (by decide) (fun h9 => ?_) (fun h9 => ?_)
  · rw [if_pos ((z_eq gr78).mp h9)] at h
    exact a_X1_compare_37 K hQ hX hTh _ _ _ _ _ (g0.up xσ77) (g1.up xσ77) g2 g3 h hGσ77 hYσ77 (hE.trans xσ77) _ _ _ hH (lv_sub (l' := [(0, va_rf v0), (1, va_rf v1), (2, .int (i32 v2)), (3, .int (i32 v3))]) hl [1, 2, 3, 4] rfl) hc
  · rw [if_neg (fun q => h9 ((z_eq gr78).mpr q))] at h
    exact a_X1_compare_32 K hQ hX hTh _ _ _ _ _ _ (g0.up xσ77) (g1.up xσ77) g2 g3 gr78 h hGσ77 hYσ77 (hE.trans xσ77) _ _ _ hH (lv_sub (l' := [(0, va_rf v0), (1, va_rf v1), (2, .int (i32 v2)), (3, .int (i32 v3)), (4, .int (i32 r78))]) hl [1, 2, 3, 4, 0] rfl) hc
set_option maxRecDepth 20000 in
theorem a_X1_compare_9 {Q : Sg → Int → Prop} {X : Sg → String → Prop} (K : MD l R p s m args c cX1_compare 6 RX1 D cA tys A n0 s0 1 23 []) (hQ : CQI p l e R s m args below meth c cX1_compare D cA A n0 s0 QM σi Q) (hX : CX p l e R s m args below meth c 6 D cA A n0 s0 QM σi X) (hTh : CT p l e R s m args below meth c cX1_compare 6 D cA A n0 s0 QM σi RX1 X) : ∀ (σ : Sg) (v0 : Option Nat) (v1 : Option Nat) (v2 : Int) (v3 : Int) (v4 : Int) (g0 : tyV σ 0 v0) (g1 : tyV σ 0 v1) (g2 : rng v2) (g3 : rng v3) (g4 : rng v4), w_X1_compare_9 Q X σ v0 v1 v2 v3 v4 → RG σ → TY σ → Ext σi σ → JJ p l e R s m args below meth c 6 D cA A n0 s0 QM σ 9 [(0, va_rf v0), (1, va_rf v1), (2, .int (i32 v2)), (3, .int (i32 v3)), (4, .int (i32 v4))] [] := by
  intro σ v0 v1 v2 v3 v4 g0 g1 g2 g3 g4 h hGσ hYσ hE H locs ls hH hl hc
  have B := K.1
  have hl9 := K.2.2.2.2.2.2
  unfold w_X1_compare_9 at h
  refine lv_iload_n B.1 B.2.1 dX1_compare_9 rfl (lv_at hl 2 rfl) ?_
  refine lv_iconst (v := i32 3) B.1 B.2.1 dX1_compare_10 (by decide) ?_
  refine lv_icmp_ne (tgt := 50) B.1 B.2.1 dX1_compare_11 (by decide) (fun h9 => ?_) (fun h9 => ?_)
  · rw [if_pos (fun q => h9 ((i32_eq g2 (by unfold rng; omega)).mpr q))] at h
    exact a_X1_compare_50 K hQ hX hTh _ _ _ _ _ _ g0 g1 g2 g3 g4 h hGσ hYσ hE _ _ _ hH (lv_sub (l' := [(0, va_rf v0), (1, va_rf v1), (2, .int (i32 v2)), (3, .int (i32 v3)), (4, .int (i32 v4))]) hl [0, 1, 2, 3, 4] rfl) hc
  · rw [if_neg (fun q => q ((i32_eq g2 (by unfold rng; omega)).mp h9))] at h
    exact a_X1_compare_14 K hQ hX hTh _ _ _ _ _ g0 g1 g2 g3 h hGσ hYσ hE _ _ _ hH (lv_sub (l' := [(0, va_rf v0), (1, va_rf v1), (2, .int (i32 v2)), (3, .int (i32 v3))]) hl [0, 1, 2, 3] rfl) hc
set_option maxRecDepth 20000 in
theorem a_X1_compare_7 {Q : Sg → Int → Prop} {X : Sg → String → Prop} (K : MD l R p s m args c cX1_compare 6 RX1 D cA tys A n0 s0 1 23 []) (hQ : CQI p l e R s m args below meth c cX1_compare D cA A n0 s0 QM σi Q) (hX : CX p l e R s m args below meth c 6 D cA A n0 s0 QM σi X) (hTh : CT p l e R s m args below meth c cX1_compare 6 D cA A n0 s0 QM σi RX1 X) : ∀ (σ : Sg), w_X1_compare_7 Q X σ → RG σ → TY σ → Ext σi σ → JJ p l e R s m args below meth c 6 D cA A n0 s0 QM σ 7 [] [] := by
  intro σ h hGσ hYσ hE H locs ls hH hl hc
  have B := K.1
  have hl9 := K.2.2.2.2.2.2
  unfold w_X1_compare_7 at h
  refine lv_iconst (v := i32 0) B.1 B.2.1 dX1_compare_7 (by decide) ?_
  exact hQ _ _ _ _ _ _ (by unfold rng; omega) dX1_compare_8 hH hc h hGσ hYσ hE
set_option maxRecDepth 20000 in
theorem a_X1_compare_0 {Q : Sg → Int → Prop} {X : Sg → String → Prop} (K : MD l R p s m args c cX1_compare 6 RX1 D cA tys A n0 s0 1 23 []) (hQ : CQI p l e R s m args below meth c cX1_compare D cA A n0 s0 QM σi Q) (hX : CX p l e R s m args below meth c 6 D cA A n0 s0 QM σi X) (hTh : CT p l e R s m args below meth c cX1_compare 6 D cA A n0 s0 QM σi RX1 X) : ∀ (σ : Sg) (v0 : Option Nat) (v1 : Option Nat) (v2 : Int) (v3 : Int) (g0 : tyV σ 0 v0) (g1 : tyV σ 0 v1) (g2 : rng v2) (g3 : rng v3), w_X1_compare_0 Q X σ v0 v1 v2 v3 → RG σ → TY σ → Ext σi σ → JJ p l e R s m args below meth c 6 D cA A n0 s0 QM σ 0 [(0, va_rf v0), (1, va_rf v1), (2, .int (i32 v2)), (3, .int (i32 v3))] [] := by
  intro σ v0 v1 v2 v3 g0 g1 g2 g3 h hGσ hYσ hE H locs ls hH hl hc
  have B := K.1
  have hl9 := K.2.2.2.2.2.2
  unfold w_X1_compare_0 at h
  refine lv_iconst (v := i32 0) B.1 B.2.1 dX1_compare_0 (by decide) ?_
  refine lv_istore (lv' := [(4, .int (i32 0)), (0, va_rf v0), (1, va_rf v1), (2, .int (i32 v2)), (3, .int (i32 v3))]) B.1 B.2.1 dX1_compare_1 hl (by decide) rfl (fun ls hl => ?_)
  refine lv_iload_n B.1 B.2.1 dX1_compare_3 rfl (lv_at hl 3 rfl) ?_
  refine lv_if_ne (tgt := 9) B.1 B.2.1 dX1_compare_4 (by decide) (fun h9 => ?_) (fun h9 => ?_)
  · rw [if_pos (fun q => h9 ((z_eq g2).mpr q))] at h
    exact a_X1_compare_9 K hQ hX hTh _ _ _ _ _ _ g0 g1 g2 g3 (by unfold rng; omega) h hGσ hYσ hE _ _ _ hH (lv_sub (l' := [(0, va_rf v0), (1, va_rf v1), (2, .int (i32 v2)), (3, .int (i32 v3)), (4, .int (i32 0))]) hl [1, 2, 3, 4, 0] rfl) hc
  · rw [if_neg (fun q => q ((z_eq g2).mp h9))] at h
    exact a_X1_compare_7 K hQ hX hTh _ h hGσ hYσ hE _ _ _ hH (lv_sub (l' := []) hl [] rfl) hc
theorem ok_X1_compare (hl0 : l.stackTraces = false) (hT : TyC cA tys) {Q : Sg → Int → Prop} {X : Sg → String → Prop} (σ : Sg) (v0 : Option Nat) (v1 : Option Nat) (v2 : Int) (v3 : Int) (g0 : tyV σ 0 v0) (g1 : tyV σ 0 v1) (g2 : rng v2) (g3 : rng v3) (hG : RG σ) (hY : TY σ) (h : wp_X1_compare v0 v1 v2 v3 σ Q X) : Ok l D cA tys A yX1_compare (.code yX1_compare cX1_compare 6 (some .int)) 1 23 [va_rf v0, va_rf v1, .int (i32 v2), .int (i32 v3)] σ (QcI σ Q) (QxC σ X) := by
  unfold wp_X1_compare at h
  exact oc_I hl0 (by decide) (by cases v0 <;> cases v1 <;> exact Nat.le_of_ble_eq_true rfl) hT (fun p e R s m args below meth c K hQ hX hTh H locs ls hH hl hc => a_X1_compare_0 K hQ hX hTh σ v0 v1 v2 v3 g0 g1 g2 g3 h hG hY (Ext.rfl' σ) H locs ls hH (lv_sub (l' := [(0, va_rf v0), (1, va_rf v1), (2, .int (i32 v2)), (3, .int (i32 v3))]) hl [0, 1, 2, 3] (by cases v0 <;> cases v1 <;> rfl)) hc)
theorem dX1_insert_0 : decode cX1_insert 0 = .ok (.aload_n 0, 1) := by decide +kernel
theorem dX1_insert_1 : decode cX1_insert 1 = .ok (.getfield 15, 3) := by decide +kernel
theorem dX1_insert_4 : decode cX1_insert 4 = .ok (.ifnull 16, 3) := by decide +kernel
theorem dX1_insert_7 : decode cX1_insert 7 = .ok (.aload_n 0, 1) := by decide +kernel
theorem dX1_insert_8 : decode cX1_insert 8 = .ok (.getfield 15, 3) := by decide +kernel
theorem dX1_insert_11 : decode cX1_insert 11 = .ok (.aload_n 1, 1) := by decide +kernel
theorem dX1_insert_12 : decode cX1_insert 12 = .ok (.iload_n 2, 1) := by decide +kernel
theorem dX1_insert_13 : decode cX1_insert 13 = .ok (.iload_n 3, 1) := by decide +kernel
theorem dX1_insert_14 : decode cX1_insert 14 = .ok (.invokestatic 31, 3) := by decide +kernel
theorem dX1_insert_17 : decode cX1_insert 17 = .ok (.ifCond .gt 9, 3) := by decide +kernel
theorem dX1_insert_20 : decode cX1_insert 20 = .ok (.aload_n 0, 1) := by decide +kernel
theorem dX1_insert_21 : decode cX1_insert 21 = .ok (.aload_n 1, 1) := by decide +kernel
theorem dX1_insert_22 : decode cX1_insert 22 = .ok (.invokevirtual 35, 3) := by decide +kernel
theorem dX1_insert_25 : decode cX1_insert 25 = .ok (.return_, 1) := by decide +kernel
theorem dX1_insert_26 : decode cX1_insert 26 = .ok (.aconst_null, 1) := by decide +kernel
theorem dX1_insert_27 : decode cX1_insert 27 = .ok (.astore 4, 2) := by decide +kernel
theorem dX1_insert_29 : decode cX1_insert 29 = .ok (.aload_n 0, 1) := by decide +kernel
theorem dX1_insert_30 : decode cX1_insert 30 = .ok (.getfield 20, 3) := by decide +kernel
theorem dX1_insert_33 : decode cX1_insert 33 = .ok (.astore 5, 2) := by decide +kernel
theorem dX1_insert_35 : decode cX1_insert 35 = .ok (.aload 5, 2) := by decide +kernel
theorem dX1_insert_37 : decode cX1_insert 37 = .ok (.ifnull 28, 3) := by decide +kernel
theorem dX1_insert_40 : decode cX1_insert 40 = .ok (.aload 5, 2) := by decide +kernel
theorem dX1_insert_42 : decode cX1_insert 42 = .ok (.aload_n 1, 1) := by decide +kernel
theorem dX1_insert_43 : decode cX1_insert 43 = .ok (.iload_n 2, 1) := by decide +kernel
theorem dX1_insert_44 : decode cX1_insert 44 = .ok (.iload_n 3, 1) := by decide +kernel
theorem dX1_insert_45 : decode cX1_insert 45 = .ok (.invokestatic 31, 3) := by decide +kernel
theorem dX1_insert_48 : decode cX1_insert 48 = .ok (.ifCond .gt 17, 3) := by decide +kernel
theorem dX1_insert_51 : decode cX1_insert 51 = .ok (.aload 5, 2) := by decide +kernel
theorem dX1_insert_53 : decode cX1_insert 53 = .ok (.astore 4, 2) := by decide +kernel
theorem dX1_insert_55 : decode cX1_insert 55 = .ok (.aload 5, 2) := by decide +kernel
theorem dX1_insert_57 : decode cX1_insert 57 = .ok (.getfield 9, 3) := by decide +kernel
theorem dX1_insert_60 : decode cX1_insert 60 = .ok (.astore 5, 2) := by decide +kernel
theorem dX1_insert_62 : decode cX1_insert 62 = .ok (.goto (-27), 3) := by decide +kernel
theorem dX1_insert_65 : decode cX1_insert 65 = .ok (.aload 4, 2) := by decide +kernel
theorem dX1_insert_67 : decode cX1_insert 67 = .ok (.ifnonnull 19, 3) := by decide +kernel
theorem dX1_insert_70 : decode cX1_insert 70 = .ok (.aload_n 1, 1) := by decide +kernel
theorem dX1_insert_71 : decode cX1_insert 71 = .ok (.aload_n 0, 1) := by decide +kernel
theorem dX1_insert_72 : decode cX1_insert 72 = .ok (.getfield 20, 3) := by decide +kernel
theorem dX1_insert_75 : decode cX1_insert 75 = .ok (.putfield 9, 3) := by decide +kernel
theorem dX1_insert_78 : decode cX1_insert 78 = .ok (.aload_n 0, 1) := by decide +kernel
theorem dX1_insert_79 : decode cX1_insert 79 = .ok (.aload_n 1, 1) := by decide +kernel
theorem dX1_insert_80 : decode cX1_insert 80 = .ok (.putfield 20, 3) := by decide +kernel
theorem dX1_insert_83 : decode cX1_insert 83 = .ok (.goto 18, 3) := by decide +kernel
theorem dX1_insert_86 : decode cX1_insert 86 = .ok (.aload_n 1, 1) := by decide +kernel
theorem dX1_insert_87 : decode cX1_insert 87 = .ok (.aload 4, 2) := by decide +kernel
theorem dX1_insert_89 : decode cX1_insert 89 = .ok (.getfield 9, 3) := by decide +kernel
theorem dX1_insert_92 : decode cX1_insert 92 = .ok (.putfield 9, 3) := by decide +kernel
theorem dX1_insert_95 : decode cX1_insert 95 = .ok (.aload 4, 2) := by decide +kernel
theorem dX1_insert_97 : decode cX1_insert 97 = .ok (.aload_n 1, 1) := by decide +kernel
theorem dX1_insert_98 : decode cX1_insert 98 = .ok (.putfield 9, 3) := by decide +kernel
theorem dX1_insert_101 : decode cX1_insert 101 = .ok (.aload_n 0, 1) := by decide +kernel
theorem dX1_insert_102 : decode cX1_insert 102 = .ok (.dup, 1) := by decide +kernel
theorem dX1_insert_103 : decode cX1_insert 103 = .ok (.getfield 23, 3) := by decide +kernel
theorem dX1_insert_106 : decode cX1_insert 106 = .ok (.iconst 1, 1) := by decide +kernel
theorem dX1_insert_107 : decode cX1_insert 107 = .ok (.iadd, 1) := by decide +kernel
theorem dX1_insert_108 : decode cX1_insert 108 = .ok (.putfield 23, 3) := by decide +kernel
theorem dX1_insert_111 : decode cX1_insert 111 = .ok (.return_, 1) := by decide +kernel
set_option maxRecDepth 20000 in
theorem a_X1_insert_20 {Q : Sg → Unit → Prop} {X : Sg → String → Prop} {th : Nat} (K : MD l R p s m args c cX1_insert 6 RX1 D cA tys A n0 s0 2 48 []) (hQ : CQV p l e R s m args below meth c cX1_insert D cA A n0 s0 QM σi Q) (hX : CX p l e R s m args below meth c 6 D cA A n0 s0 QM σi X) (hTh : CT p l e R s m args below meth c cX1_insert 6 D cA A n0 s0 QM σi RX1 X) : ∀ (σ : Sg) (v1 : Option Nat) (g1 : tyV σ 0 v1), w_X1_insert_20 th Q X σ v1 → RG σ → TY σ → Ext σi σ → kO σ th 1 → JJ p l e R s m args below meth c 6 D cA A n0 s0 QM σ 20 [(0, .ref th), (1, va_rf v1)] [] := by
  intro σ v1 g1 h hGσ hYσ hE hth H locs ls hH hl hc
  have B := K.1
  have hl9 := K.2.2.2.2.2.2
  unfold w_X1_insert_20 at h
  refine lv_aload_n B.1 B.2.1 dX1_insert_20 rfl (lv_at hl 0 rfl) ?_
  refine lv_aload_nQ B.1 B.2.1 dX1_insert_21 rfl (lv_at hl 1 rfl) ?_
  refine W.eq (g2 := F0 m 22 ls [va_rf v1, .ref th]) (rfl) ?_
  refine c_V B hH hl hc K.2.2.1 (C := RX1) (T := TX1) (N := 3) (ci := 1) (As := [va_rf v1]) (ok_X1_add hl9 K.2.1 σ th v1 g1 hth hGσ hYσ h) wc_X1_35 1 hd_X1_add ⟨Nat.le_trans (Nat.le_of_ble_eq_true rfl) K.2.2.2.1, Nat.le_trans (Nat.le_of_ble_eq_true rfl) K.2.2.2.2.1⟩ hth.1 hth.2 (by decide) rfl rfl (rest := []) rfl (Nat.le_of_ble_eq_true rfl) dX1_insert_22 (fun σ32 w hq => ?_) (fun σ9 E9 hx9 => hX σ9 E9 _ _ _ (tb_out K.2.2.2.2.2.1 rfl) hx9.1 hx9.2.1 hx9.2.2.1 (hE.trans hx9.2.2.2))
  obtain ⟨rfl, h, hGσ32, hYσ32, xσ32⟩ := hq
  have h := h xσ32
  intro H locs ls hH hl hc
  refine W.eq (g2 := F0 m 25 ls []) (rfl) ?_
  try dsimp only at h
  exact hQ _ _ _ _ _ dX1_insert_25 hH hc h hGσ32 hYσ32 (hE.trans xσ32)
set_option maxRecDepth 20000 in
theorem a_X1_insert_101 {Q : Sg → Unit → Prop} {X : Sg → String → Prop} {th : Nat} (K : MD l R p s m args c cX1_insert 6 RX1 D cA tys A n0 s0 2 48 []) (hQ : CQV p l e R s m args below meth c cX1_insert D cA A n0 s0 QM σi Q) (hX : CX p l e R s m args below meth c 6 D cA A n0 s0 QM σi X) (hTh : CT p l e R s m args below meth c cX1_insert 6 D cA A n0 s0 QM σi RX1 X) : ∀ (σ : Sg), w_X1_insert_101 th Q X σ → RG σ → TY σ → Ext σi σ → kO σ th 1 → JJ p l e R s m args below meth c 6 D cA A n0 s0 QM σ 101 [(0, .ref th)] [] := by
  intro σ h hGσ hYσ hE hth H locs ls hH hl hc
  have B := K.1
  have hl9 := K.2.2.2.2.2.2
  unfold w_X1_insert_101 at h
  refine lv_aload_n B.1 B.2.1 dX1_insert_101 rfl (lv_at hl 0 rfl) ?_
  refine lv_dup B.1 B.2.1 dX1_insert_102 rfl ?_
  refine f_geti B hH hth (by decide) rfl wu_X1 2 (by decide) wf_X1_23 rfl rfl dX1_insert_103 ?_
  refine lv_iconst (v := i32 1) B.1 B.2.1 dX1_insert_106 (by decide) ?_
  obtain ⟨q1, h⟩ := h
  refine lv_iadd B.1 B.2.1 dX1_insert_107 ?_
  rw [i32_add]
  obtain ⟨σ33, eσ33⟩ : ∃ z, z = pI σ th 2 (gI σ th 2 + 1) := ⟨_, rfl⟩
  have h := h σ33 eσ33
  refine f_puti B hH hth (by decide) rfl wu_X1 tyX1 tyX1_ok nmX1 2 (by decide) wf_X1_23 rfl (ty := .int) rfl rfl rfl rfl rfl dX1_insert_108 (fun H locs hH => ?_)
  have hH : Hd D cA A s (pI σ th 2 (gI σ th 2 + 1)) H locs := hH
  rw [← eσ33] at hH
  have hGσ33 : RG σ33 := by rw [eσ33]; exact hGσ.pI q1
  have hYσ33 : TY σ33 := by rw [eσ33]; exact hYσ.pI
  have xσ33 : Ext σ σ33 := by rw [eσ33]; exact Ext.pI
  have hc : CB n0 s0 σ33 := by rw [eσ33]; exact hc
  rw [show gc σ = gc σ33 by rw [eσ33]; try rfl, show gs σ = gs σ33 by rw [eσ33]; try rfl]
  exact hQ _ _ _ _ _ dX1_insert_111 hH hc h hGσ33 hYσ33 (hE.trans xσ33)
set_option maxRecDepth 20000 in
theorem a_X1_insert_86 {Q : Sg → Unit → Prop} {X : Sg → String → Prop} {th : Nat} (K : MD l R p s m args c cX1_insert 6 RX1 D cA tys A n0 s0 2 48 []) (hQ : CQV p l e R s m args below meth c cX1_insert D cA A n0 s0 QM σi Q) (hX : CX p l e R s m args below meth c 6 D cA A n0 s0 QM σi X) (hTh : CT p l e R s m args below meth c cX1_insert 6 D cA A n0 s0 QM σi RX1 X) : ∀ (σ : Sg) (v1 : Option Nat) (v4 : Option Nat) (g1 : tyV σ 0 v1) (g4 : tyV σ 0 v4), w_X1_insert_86 th Q X σ v1 v4 → RG σ → TY σ → Ext σi σ → kO σ th 1 → JJ p l e R s m args below meth c 6 D cA A n0 s0 QM σ 86 [(0, .ref th), (1, va_rf v1), (4, va_rf v4)] [] := by
  intro σ v1 v4 g1 g4 h hGσ hYσ hE hth H locs ls hH hl hc
  have B := K.1
  have hl9 := K.2.2.2.2.2.2
  unfold w_X1_insert_86 at h
  refine lv_aload_nQ B.1 B.2.1 dX1_insert_86 rfl (lv_at hl 1 rfl) ?_
  refine lv_aloadQ B.1 B.2.1 dX1_insert_87 (lv_at hl 2 rfl) ?_
  obtain ⟨a34, ea34, h⟩ := h
  have ka34 : kO σ a34 0 := g4 a34 ea34
  have h := h ka34
  refine W.eq (g2 := F0 m 89 ls [.ref a34, va_rf v1]) (by rw [ea34]; rfl) ?_
  refine f_getp B hH ka34 (by decide) rfl wu_X0 1 (by decide) wf_X1_9 rfl rfl dX1_insert_89 ?_
  obtain ⟨a35, ea35, h⟩ := h
  have ka35 : kO σ a35 0 := g1 a35 ea35
  have h := h ka35
  obtain ⟨σ36, eσ36⟩ : ∃ z, z = pP σ a35 1 (gP σ a34 1) := ⟨_, rfl⟩
  have h := h σ36 eσ36
  refine W.eq (g2 := F0 m 92 ls [va_rf (gP σ a34 1), .ref a35]) (by rw [ea35]; rfl) ?_
  refine f_putp B hH ka35 (by decide) rfl wu_X0 tyX0 tyX0_ok nmX0 1 (by decide) wf_X1_9 rfl (r := (gP σ a34 1)) (ty := .object "StreamHouse$Cell") rfl rfl rfl (nrO _ _) (ftO _ _) dX1_insert_92 (fun H locs hH => ?_)
  have hH : Hd D cA A s (pP σ a35 1 (gP σ a34 1)) H locs := hH
  rw [← eσ36] at hH
  have hGσ36 : RG σ36 := by rw [eσ36]; exact hGσ.pP
  have hYσ36 : TY σ36 := by rw [eσ36]; exact hYσ.pP ka35 (d := 0) (by decide) (hYσ.get ka34 (by decide))
  have xσ36 : Ext σ σ36 := by rw [eσ36]; exact Ext.pP
  have hc : CB n0 s0 σ36 := by rw [eσ36]; exact hc
  rw [show gc σ = gc σ36 by rw [eσ36]; try rfl, show gs σ = gs σ36 by rw [eσ36]; try rfl]
  refine lv_aloadQ B.1 B.2.1 dX1_insert_95 (lv_at hl 2 rfl) ?_
  refine lv_aload_nQ B.1 B.2.1 dX1_insert_97 rfl (lv_at hl 1 rfl) ?_
  obtain ⟨σ37, eσ37⟩ : ∃ z, z = pP σ36 a34 1 v1 := ⟨_, rfl⟩
  have h := h σ37 eσ37
  refine W.eq (g2 := F0 m 98 ls [va_rf v1, .ref a34]) (by rw [ea34]; rfl) ?_
  refine f_putp B hH (ka34.up xσ36) (by decide) rfl wu_X0 tyX0 tyX0_ok nmX0 1 (by decide) wf_X1_9 rfl (r := v1) (ty := .object "StreamHouse$Cell") rfl rfl rfl (nrO _ _) (ftO _ _) dX1_insert_98 (fun H locs hH => ?_)
  have hH : Hd D cA A s (pP σ36 a34 1 v1) H locs := hH
  rw [← eσ37] at hH
  have hGσ37 : RG σ37 := by rw [eσ37]; exact hGσ36.pP
  have hYσ37 : TY σ37 := by rw [eσ37]; exact hYσ36.pP (ka34.up xσ36) (d := 0) (by decide) (g1.up xσ36)
  have xσ37 : Ext σ36 σ37 := by rw [eσ37]; exact Ext.pP
  have hc : CB n0 s0 σ37 := by rw [eσ37]; exact hc
  rw [show gc σ36 = gc σ37 by rw [eσ37]; try rfl, show gs σ36 = gs σ37 by rw [eσ37]; try rfl]
  exact a_X1_insert_101 K hQ hX hTh _ h hGσ37 hYσ37 ((hE.trans xσ36).trans xσ37) (hth.up (xσ36.trans xσ37)) _ _ _ hH (lv_sub (l' := [(0, .ref th)]) hl [0] rfl) hc
set_option maxRecDepth 20000 in
theorem a_X1_insert_70 {Q : Sg → Unit → Prop} {X : Sg → String → Prop} {th : Nat} (K : MD l R p s m args c cX1_insert 6 RX1 D cA tys A n0 s0 2 48 []) (hQ : CQV p l e R s m args below meth c cX1_insert D cA A n0 s0 QM σi Q) (hX : CX p l e R s m args below meth c 6 D cA A n0 s0 QM σi X) (hTh : CT p l e R s m args below meth c cX1_insert 6 D cA A n0 s0 QM σi RX1 X) : ∀ (σ : Sg) (v1 : Option Nat) (g1 : tyV σ 0 v1), w_X1_insert_70 th Q X σ v1 → RG σ → TY σ → Ext σi σ → kO σ th 1 → JJ p l e R s m args below meth c 6 D cA A n0 s0 QM σ 70 [(0, .ref th), (1, va_rf v1)] [] := by
  intro σ v1 g1 h hGσ hYσ hE hth H locs ls hH hl hc
  have B := K.1
  have hl9 := K.2.2.2.2.2.2
  unfold w_X1_insert_70 at h
  refine lv_aload_nQ B.1 B.2.1 dX1_insert_70 rfl (lv_at hl 1 rfl) ?_
  refine lv_aload_n B.1 B.2.1 dX1_insert_71 rfl (lv_at hl 0 rfl) ?_
  refine f_getp B hH hth (by decide) rfl wu_X1 0 (by decide) wf_X1_20 rfl rfl dX1_insert_72 ?_
  obtain ⟨a38, ea38, h⟩ := h
  have ka38 : kO σ a38 0 := g1 a38 ea38
  have h := h ka38
  obtain ⟨σ39, eσ39⟩ : ∃ z, z = pP σ a38 1 (gP σ th 0) := ⟨_, rfl⟩
  have h := h σ39 eσ39
  refine W.eq (g2 := F0 m 75 ls [va_rf (gP σ th 0), .ref a38]) (by rw [ea38]; rfl) ?_
  refine f_putp B hH ka38 (by decide) rfl wu_X0 tyX0 tyX0_ok nmX0 1 (by decide) wf_X1_9 rfl (r := (gP σ th 0)) (ty := .object "StreamHouse$Cell") rfl rfl rfl (nrO _ _) (ftO _ _) dX1_insert_75 (fun H locs hH => ?_)
  have hH : Hd D cA A s (pP σ a38 1 (gP σ th 0)) H locs := hH
  rw [← eσ39] at hH
  have hGσ39 : RG σ39 := by rw [eσ39]; exact hGσ.pP
  have hYσ39 : TY σ39 := by rw [eσ39]; exact hYσ.pP ka38 (d := 0) (by decide) (hYσ.get hth (by decide))
  have xσ39 : Ext σ σ39 := by rw [eσ39]; exact Ext.pP
  have hc : CB n0 s0 σ39 := by rw [eσ39]; exact hc
  rw [show gc σ = gc σ39 by rw [eσ39]; try rfl, show gs σ = gs σ39 by rw [eσ39]; try rfl]
  refine lv_aload_n B.1 B.2.1 dX1_insert_78 rfl (lv_at hl 0 rfl) ?_
  refine lv_aload_nQ B.1 B.2.1 dX1_insert_79 rfl (lv_at hl 1 rfl) ?_
  obtain ⟨σ40, eσ40⟩ : ∃ z, z = pP σ39 th 0 v1 := ⟨_, rfl⟩
  have h := h σ40 eσ40
  refine W.eq (g2 := F0 m 80 ls [va_rf v1, .ref th]) (rfl) ?_
  refine f_putp B hH (hth.up xσ39) (by decide) rfl wu_X1 tyX1 tyX1_ok nmX1 0 (by decide) wf_X1_20 rfl (r := v1) (ty := .object "StreamHouse$Cell") rfl rfl rfl (nrO _ _) (ftO _ _) dX1_insert_80 (fun H locs hH => ?_)
  have hH : Hd D cA A s (pP σ39 th 0 v1) H locs := hH
  rw [← eσ40] at hH
  have hGσ40 : RG σ40 := by rw [eσ40]; exact hGσ39.pP
  have hYσ40 : TY σ40 := by rw [eσ40]; exact hYσ39.pP (hth.up xσ39) (d := 0) (by decide) (g1.up xσ39)
  have xσ40 : Ext σ39 σ40 := by rw [eσ40]; exact Ext.pP
  have hc : CB n0 s0 σ40 := by rw [eσ40]; exact hc
  rw [show gc σ39 = gc σ40 by rw [eσ40]; try rfl, show gs σ39 = gs σ40 by rw [eσ40]; try rfl]
  refine lv_goto (tgt := 101) B.1 B.2.1 dX1_insert_83 (by decide) ?_
  exact a_X1_insert_101 K hQ hX hTh _ h hGσ40 hYσ40 ((hE.trans xσ39).trans xσ40) (hth.up (xσ39.trans xσ40)) _ _ _ hH (lv_sub (l' := [(0, .ref th)]) hl [0] rfl) hc
set_option maxRecDepth 20000 in
theorem a_X1_insert_65 {Q : Sg → Unit → Prop} {X : Sg → String → Prop} {th : Nat} (K : MD l R p s m args c cX1_insert 6 RX1 D cA tys A n0 s0 2 48 []) (hQ : CQV p l e R s m args below meth c cX1_insert D cA A n0 s0 QM σi Q) (hX : CX p l e R s m args below meth c 6 D cA A n0 s0 QM σi X) (hTh : CT p l e R s m args below meth c cX1_insert 6 D cA A n0 s0 QM σi RX1 X) : ∀ (σ : Sg) (v1 : Option Nat) (v4 : Option Nat) (g1 : tyV σ 0 v1) (g4 : tyV σ 0 v4), w_X1_insert_65 th Q X σ v1 v4 → RG σ → TY σ → Ext σi σ → kO σ th 1 → JJ p l e R s m args below meth c 6 D cA A n0 s0 QM σ 65 [(0, .ref th), (1, va_rf v1), (4, va_rf v4)] [] := by
  intro σ v1 v4 g1 g4 h hGσ hYσ hE hth H locs ls hH hl hc
  have B := K.1
  have hl9 := K.2.2.2.2.2.2
  unfold w_X1_insert_65 at h
  refine lv_aloadQ B.1 B.2.1 dX1_insert_65 (lv_at hl 2 rfl) ?_
  refine lv_ifnonnullQ (tgt := 86) B.1 B.2.1 dX1_insert_67 (by decide) (fun h9 => ?_) (fun h9 => ?_)
  · rw [if_pos (h9)] at h
    exact a_X1_insert_86 K hQ hX hTh _ _ _ g1 g4 h hGσ hYσ hE hth _ _ _ hH (lv_sub (l' := [(0, .ref th), (1, va_rf v1), (4, va_rf v4)]) hl [0, 1, 2] rfl) hc
  · rw [if_neg (h9)] at h
    exact a_X1_insert_70 K hQ hX hTh _ _ g1 h hGσ hYσ hE hth _ _ _ hH (lv_sub (l' := [(0, .ref th), (1, va_rf v1)]) hl [0, 1] rfl) hc
set_option maxRecDepth 20000 in
theorem a_X1_insert_51 {Q : Sg → Unit → Prop} {X : Sg → String → Prop} {th : Nat} (K : MD l R p s m args c cX1_insert 6 RX1 D cA tys A n0 s0 2 48 []) (hQ : CQV p l e R s m args below meth c cX1_insert D cA A n0 s0 QM σi Q) (hX : CX p l e R s m args below meth c 6 D cA A n0 s0 QM σi X) (hTh : CT p l e R s m args below meth c cX1_insert 6 D cA A n0 s0 QM σi RX1 X) {K35 : Sg → Option Nat → Int → Int → Option Nat → Option Nat → Prop} (hK35 : ∀ (σ : Sg) (v1 : Option Nat) (v2 : Int) (v3 : Int) (v4 : Option Nat) (v5 : Option Nat) (g1 : tyV σ 0 v1) (g2 : rng v2) (g3 : rng v3) (g4 : tyV σ 0 v4) (g5 : tyV σ 0 v5), K35 σ v1 v2 v3 v4 v5 → RG σ → TY σ → Ext σi σ → kO σ th 1 → JJ p l e R s m args below meth c 6 D cA A n0 s0 QM σ 35 [(0, .ref th), (1, va_rf v1), (2, .int (i32 v2)), (3, .int (i32 v3)), (4, va_rf v4), (5, va_rf v5)] []) : ∀ (σ : Sg) (v1 : Option Nat) (v2 : Int) (v3 : Int) (v5 : Option Nat) (g1 : tyV σ 0 v1) (g2 : rng v2) (g3 : rng v3) (g5 : tyV σ 0 v5), w_X1_insert_51 th K35 Q X σ v1 v2 v3 v5 → RG σ → TY σ → Ext σi σ → kO σ th 1 → JJ p l e R s m args below meth c 6 D cA A n0 s0 QM σ 51 [(0, .ref th), (1, va_rf v1), (2, .int (i32 v2)), (3, .int (i32 v3)), (5, va_rf v5)] [] := by
  intro σ v1 v2 v3 v5 g1 g2 g3 g5 h hGσ hYσ hE hth H locs ls hH hl hc
  have B := K.1
  have hl9 := K.2.2.2.2.2.2
  unfold w_X1_insert_51 at h
  refine lv_aloadQ B.1 B.2.1 dX1_insert_51 (lv_at hl 4 rfl) ?_
  refine lv_astoreQ (lv' := [(4, va_rf v5), (0, .ref th), (1, va_rf v1), (2, .int (i32 v2)), (3, .int (i32 v3)), (5, va_rf v5)]) B.1 B.2.1 dX1_insert_53 hl (by decide) rfl (fun ls hl => ?_)
  refine lv_aloadQ B.1 B.2.1 dX1_insert_55 (lv_at hl 5 rfl) ?_
  obtain ⟨a41, ea41, h⟩ := h
  have ka41 : kO σ a41 0 := g5 a41 ea41
  have h := h ka41
  refine W.eq (g2 := F0 m 57 ls [.ref a41]) (by rw [ea41]; rfl) ?_
  refine f_getp B hH ka41 (by decide) rfl wu_X0 1 (by decide) wf_X1_9 rfl rfl dX1_insert_57 ?_
  refine lv_astoreQ (lv' := [(5, va_rf (gP σ a41 1)), (4, va_rf v5), (0, .ref th), (1, va_rf v1), (2, .int (i32 v2)), (3, .int (i32 v3))]) B.1 B.2.1 dX1_insert_60 hl (by decide) (by generalize v5 = w9; cases w9 <;> rfl) (fun ls hl => ?_)
  refine lv_goto (tgt := 35) B.1 B.2.1 dX1_insert_62 (by decide) ?_
  exact hK35 _ _ _ _ _ _ g1 g2 g3 g5 (hYσ.get ka41 (by decide)) h hGσ hYσ hE hth _ _ _ hH (lv_sub (l' := [(0, .ref th), (1, va_rf v1), (2, .int (i32 v2)), (3, .int (i32 v3)), (4, va_rf v5), (5, va_rf (gP σ a41 1))]) hl [2, 3, 4, 5, 1, 0] rfl) hc
set_option maxRecDepth 20000 in
theorem a_X1_insert_40 {Q : Sg → Unit → Prop} {X : Sg → String → Prop} {th : Nat} (K : MD l R p s m args c cX1_insert 6 RX1 D cA tys A n0 s0 2 48 []) (hQ : CQV p l e R s m args below meth c cX1_insert D cA A n0 s0 QM σi Q) (hX : CX p l e R s m args below meth c 6 D cA A n0 s0 QM σi X) (hTh : CT p l e R s m args below meth c cX1_insert 6 D cA A n0 s0 QM σi RX1 X) {K35 : Sg → Option Nat → Int → Int → Option Nat → Option Nat → Prop} (hK35 : ∀ (σ : Sg) (v1 : Option Nat) (v2 : Int) (v3 : Int) (v4 : Option Nat) (v5 : Option Nat) (g1 : tyV σ 0 v1) (g2 : rng v2) (g3 : rng v3) (g4 : tyV σ 0 v4) (g5 : tyV σ 0 v5), K35 σ v1 v2 v3 v4 v5 → RG σ → TY σ → Ext σi σ → kO σ th 1 → JJ p l e R s m args below meth c 6 D cA A n0 s0 QM σ 35 [(0, .ref th), (1, va_rf v1), (2, .int (i32 v2)), (3, .int (i32 v3)), (4, va_rf v4), (5, va_rf v5)] []) : ∀ (σ : Sg) (v1 : Option Nat) (v2 : Int) (v3 : Int) (v4 : Option Nat) (v5 : Option Nat) (g1 : tyV σ 0 v1) (g2 : rng v2) (g3 : rng v3) (g4 : tyV σ 0 v4) (g5 : tyV σ 0 v5), w_X1_insert_40 th K35 Q X σ v1 v2 v3 v4 v5 → RG σ → TY σ → Ext σi σ → kO σ th 1 → JJ p l e R s m args below meth c 6 D cA A n0 s0 QM σ 40 [(0, .ref th), (1, va_rf v1), (2, .int (i32 v2)), (3, .int (i32 v3)), (4, va_rf v4), (5, va_rf v5)] [] := by
  intro σ v1 v2 v3 v4 v5 g1 g2 g3 g4 g5 h hGσ hYσ hE hth H locs ls hH hl hc
  have B := K.1
  have hl9 := K.2.2.2.2.2.2
  unfold w_X1_insert_40 at h
  refine lv_aloadQ B.1 B.2.1 dX1_insert_40 (lv_at hl 5 rfl) ?_
  refine lv_aload_nQ B.1 B.2.1 dX1_insert_42 rfl (lv_at hl 1 rfl) ?_
  refine lv_iload_n B.1 B.2.1 dX1_insert_43 rfl (lv_at hl 2 rfl) ?_
  refine lv_iload_n B.1 B.2.1 dX1_insert_44 rfl (lv_at hl 3 rfl) ?_
  refine W.eq (g2 := F0 m 45 ls [.int (i32 v3), .int (i32 v2), va_rf v1, va_rf v5]) (rfl) ?_
  refine c_S B hH hl hc K.2.2.1 (As := [va_rf v5, va_rf v1, .int (i32 v2), .int (i32 v3)]) (ok_X1_compare hl9 K.2.1 σ v5 v1 v2 v3 g5 g1 g2 g3 hGσ hYσ h) wc_X1_31 4 hd_X1_compare ⟨Nat.le_trans (Nat.le_of_ble_eq_true rfl) K.2.2.2.1, Nat.le_trans (Nat.le_of_ble_eq_true rfl) K.2.2.2.2.1⟩ rfl (rest := []) rfl (Nat.le_of_ble_eq_true rfl) dX1_insert_45 (fun σ42 w hq => ?_) (fun σ9 E9 hx9 => hX σ9 E9 _ _ _ (tb_out K.2.2.2.2.2.1 rfl) hx9.1 hx9.2.1 hx9.2.2.1 (hE.trans hx9.2.2.2))
  obtain ⟨r43, rfl, gr43, h, hGσ42, hYσ42, xσ42⟩ := hq
  have h := h xσ42
  intro H locs ls hH hl hc
  refine W.eq (g2 := F0 m 48 ls [.int (i32 r43)]) (rfl) ?_
  try dsimp only at h
  refine lv_if_gt (tgt := 65) B.1 B.2.1 dX1_insert_48 (by decide) (fun h9 => ?_) (fun h9 => ?_)
  · rw [if_pos ((z_gt gr43).mp h9)] at h
    exact a_X1_insert_65 K hQ hX hTh _ _ _ (g1.up xσ42) (g4.up xσ42) h hGσ42 hYσ42 (hE.trans xσ42) (hth.up xσ42) _ _ _ hH (lv_sub (l' := [(0, .ref th), (1, va_rf v1), (4, va_rf v4)]) hl [0, 1, 4] rfl) hc
  · rw [if_neg (fun q => h9 ((z_gt gr43).mpr q))] at h
    exact a_X1_insert_51 K hQ hX hTh hK35 _ _ _ _ _ (g1.up xσ42) g2 g3 (g5.up xσ42) h hGσ42 hYσ42 (hE.trans xσ42) (hth.up xσ42) _ _ _ hH (lv_sub (l' := [(0, .ref th), (1, va_rf v1), (2, .int (i32 v2)), (3, .int (i32 v3)), (5, va_rf v5)]) hl [0, 1, 2, 3, 5] rfl) hc
set_option maxRecDepth 20000 in
theorem a_X1_insert_35 {Q : Sg → Unit → Prop} {X : Sg → String → Prop} {th : Nat} (K : MD l R p s m args c cX1_insert 6 RX1 D cA tys A n0 s0 2 48 []) (hQ : CQV p l e R s m args below meth c cX1_insert D cA A n0 s0 QM σi Q) (hX : CX p l e R s m args below meth c 6 D cA A n0 s0 QM σi X) (hTh : CT p l e R s m args below meth c cX1_insert 6 D cA A n0 s0 QM σi RX1 X) {K35 : Sg → Option Nat → Int → Int → Option Nat → Option Nat → Prop} (hK35 : ∀ (σ : Sg) (v1 : Option Nat) (v2 : Int) (v3 : Int) (v4 : Option Nat) (v5 : Option Nat) (g1 : tyV σ 0 v1) (g2 : rng v2) (g3 : rng v3) (g4 : tyV σ 0 v4) (g5 : tyV σ 0 v5), K35 σ v1 v2 v3 v4 v5 → RG σ → TY σ → Ext σi σ → kO σ th 1 → JJ p l e R s m args below meth c 6 D cA A n0 s0 QM σ 35 [(0, .ref th), (1, va_rf v1), (2, .int (i32 v2)), (3, .int (i32 v3)), (4, va_rf v4), (5, va_rf v5)] []) : ∀ (σ : Sg) (v1 : Option Nat) (v2 : Int) (v3 : Int) (v4 : Option Nat) (v5 : Option Nat) (g1 : tyV σ 0 v1) (g2 : rng v2) (g3 : rng v3) (g4 : tyV σ 0 v4) (g5 : tyV σ 0 v5), w_X1_insert_35 th K35 Q X σ v1 v2 v3 v4 v5 → RG σ → TY σ → Ext σi σ → kO σ th 1 → JJ p l e R s m args below meth c 6 D cA A n0 s0 QM σ 35 [(0, .ref th), (1, va_rf v1), (2, .int (i32 v2)), (3, .int (i32 v3)), (4, va_rf v4), (5, va_rf v5)] [] := by
  intro σ v1 v2 v3 v4 v5 g1 g2 g3 g4 g5 h hGσ hYσ hE hth H locs ls hH hl hc
  have B := K.1
  have hl9 := K.2.2.2.2.2.2
  unfold w_X1_insert_35 at h
  refine lv_aloadQ B.1 B.2.1 dX1_insert_35 (lv_at hl 5 rfl) ?_
  refine lv_ifnullQ (tgt := 65) B.1 B.2.1 dX1_insert_37 (by decide) (fun h9 => ?_) (fun h9 => ?_)
  · rw [if_pos (h9)] at h
    exact a_X1_insert_65 K hQ hX hTh _ _ _ g1 g4 h hGσ hYσ hE hth _ _ _ hH (lv_sub (l' := [(0, .ref th), (1, va_rf v1), (4, va_rf v4)]) hl [0, 1, 4] rfl) hc
  · rw [if_neg (h9)] at h
    exact a_X1_insert_40 K hQ hX hTh hK35 _ _ _ _ _ _ g1 g2 g3 g4 g5 h hGσ hYσ hE hth _ _ _ hH (lv_sub (l' := [(0, .ref th), (1, va_rf v1), (2, .int (i32 v2)), (3, .int (i32 v3)), (4, va_rf v4), (5, va_rf v5)]) hl [0, 1, 2, 3, 4, 5] rfl) hc
theorem al_X1_insert_35 {Q : Sg → Unit → Prop} {X : Sg → String → Prop} {th : Nat} (K : MD l R p s m args c cX1_insert 6 RX1 D cA tys A n0 s0 2 48 []) (hQ : CQV p l e R s m args below meth c cX1_insert D cA A n0 s0 QM σi Q) (hX : CX p l e R s m args below meth c 6 D cA A n0 s0 QM σi X) (hTh : CT p l e R s m args below meth c cX1_insert 6 D cA A n0 s0 QM σi RX1 X) : ∀ (n : Nat), ∀ (σ : Sg) (v1 : Option Nat) (v2 : Int) (v3 : Int) (v4 : Option Nat) (v5 : Option Nat) (g1 : tyV σ 0 v1) (g2 : rng v2) (g3 : rng v3) (g4 : tyV σ 0 v4) (g5 : tyV σ 0 v5), wl_X1_insert_35 th Q X n σ v1 v2 v3 v4 v5 → RG σ → TY σ → Ext σi σ → kO σ th 1 → JJ p l e R s m args below meth c 6 D cA A n0 s0 QM σ 35 [(0, .ref th), (1, va_rf v1), (2, .int (i32 v2)), (3, .int (i32 v3)), (4, va_rf v4), (5, va_rf v5)] [] := by
  intro n
  induction n with
  | zero => intro σ v1 v2 v3 v4 v5 g1 g2 g3 g4 g5 h; exact h.elim
  | succ n ih => exact fun σ v1 v2 v3 v4 v5 g1 g2 g3 g4 g5 h => a_X1_insert_35 K hQ hX hTh ih σ v1 v2 v3 v4 v5 g1 g2 g3 g4 g5 h
set_option maxRecDepth 20000 in
theorem a_X1_insert_26 {Q : Sg → Unit → Prop} {X : Sg → String → Prop} {th : Nat} (K : MD l R p s m args c cX1_insert 6 RX1 D cA tys A n0 s0 2 48 []) (hQ : CQV p l e R s m args below meth c cX1_insert D cA A n0 s0 QM σi Q) (hX : CX p l e R s m args below meth c 6 D cA A n0 s0 QM σi X) (hTh : CT p l e R s m args below meth c cX1_insert 6 D cA A n0 s0 QM σi RX1 X) : ∀ (σ : Sg) (v1 : Option Nat) (v2 : Int) (v3 : Int) (g1 : tyV σ 0 v1) (g2 : rng v2) (g3 : rng v3), w_X1_insert_26 th Q X σ v1 v2 v3 → RG σ → TY σ → Ext σi σ → kO σ th 1 → JJ p l e R s m args below meth c 6 D cA A n0 s0 QM σ 26 [(0, .ref th), (1, va_rf v1), (2, .int (i32 v2)), (3, .int (i32 v3))] [] := by
  intro σ v1 v2 v3 g1 g2 g3 h hGσ hYσ hE hth H locs ls hH hl hc
  have B := K.1
  have hl9 := K.2.2.2.2.2.2
  unfold w_X1_insert_26 at h
  refine lv_null B.1 B.2.1 dX1_insert_26 ?_
  refine W.eq (g2 := F0 m 27 ls [va_rf none]) (rfl) ?_
  refine lv_astoreQ (lv' := [(4, va_rf none), (0, .ref th), (1, va_rf v1), (2, .int (i32 v2)), (3, .int (i32 v3))]) B.1 B.2.1 dX1_insert_27 hl (by decide) rfl (fun ls hl => ?_)
  refine lv_aload_n B.1 B.2.1 dX1_insert_29 rfl (lv_at hl 1 rfl) ?_
  refine f_getp B hH hth (by decide) rfl wu_X1 0 (by decide) wf_X1_20 rfl rfl dX1_insert_30 ?_
  refine lv_astoreQ (lv' := [(5, va_rf (gP σ th 0)), (4, va_rf none), (0, .ref th), (1, va_rf v1), (2, .int (i32 v2)), (3, .int (i32 v3))]) B.1 B.2.1 dX1_insert_33 hl (by decide) rfl (fun ls hl => ?_)
  obtain ⟨n9, h⟩ := h
  exact al_X1_insert_35 K hQ hX hTh n9 _ _ _ _ _ _ g1 g2 g3 (tyn _ _) (hYσ.get hth (by decide)) h hGσ hYσ hE hth _ _ _ hH (lv_sub (l' := [(0, .ref th), (1, va_rf v1), (2, .int (i32 v2)), (3, .int (i32 v3)), (4, va_rf none), (5, va_rf (gP σ th 0))]) hl [2, 3, 4, 5, 1, 0] rfl) hc
set_option maxRecDepth 20000 in
theorem a_X1_insert_7 {Q : Sg → Unit → Prop} {X : Sg → String → Prop} {th : Nat} (K : MD l R p s m args c cX1_insert 6 RX1 D cA tys A n0 s0 2 48 []) (hQ : CQV p l e R s m args below meth c cX1_insert D cA A n0 s0 QM σi Q) (hX : CX p l e R s m args below meth c 6 D cA A n0 s0 QM σi X) (hTh : CT p l e R s m args below meth c cX1_insert 6 D cA A n0 s0 QM σi RX1 X) : ∀ (σ : Sg) (v1 : Option Nat) (v2 : Int) (v3 : Int) (g1 : tyV σ 0 v1) (g2 : rng v2) (g3 : rng v3), w_X1_insert_7 th Q X σ v1 v2 v3 → RG σ → TY σ → Ext σi σ → kO σ th 1 → JJ p l e R s m args below meth c 6 D cA A n0 s0 QM σ 7 [(0, .ref th), (1, va_rf v1), (2, .int (i32 v2)), (3, .int (i32 v3))] [] := by
  intro σ v1 v2 v3 g1 g2 g3 h hGσ hYσ hE hth H locs ls hH hl hc
  have B := K.1
  have hl9 := K.2.2.2.2.2.2
  unfold w_X1_insert_7 at h
  refine lv_aload_n B.1 B.2.1 dX1_insert_7 rfl (lv_at hl 0 rfl) ?_
  refine f_getp B hH hth (by decide) rfl wu_X1 1 (by decide) wf_X1_15 rfl rfl dX1_insert_8 ?_
  refine lv_aload_nQ B.1 B.2.1 dX1_insert_11 rfl (lv_at hl 1 rfl) ?_
  refine lv_iload_n B.1 B.2.1 dX1_insert_12 rfl (lv_at hl 2 rfl) ?_
  refine lv_iload_n B.1 B.2.1 dX1_insert_13 rfl (lv_at hl 3 rfl) ?_
  refine W.eq (g2 := F0 m 14 ls [.int (i32 v3), .int (i32 v2), va_rf v1, va_rf (gP σ th 1)]) (rfl) ?_
  refine c_S B hH hl hc K.2.2.1 (As := [va_rf (gP σ th 1), va_rf v1, .int (i32 v2), .int (i32 v3)]) (ok_X1_compare hl9 K.2.1 σ (gP σ th 1) v1 v2 v3 (hYσ.get hth (by decide)) g1 g2 g3 hGσ hYσ h) wc_X1_31 4 hd_X1_compare ⟨Nat.le_trans (Nat.le_of_ble_eq_true rfl) K.2.2.2.1, Nat.le_trans (Nat.le_of_ble_eq_true rfl) K.2.2.2.2.1⟩ rfl (rest := []) rfl (Nat.le_of_ble_eq_true rfl) dX1_insert_14 (fun σ44 w hq => ?_) (fun σ9 E9 hx9 => hX σ9 E9 _ _ _ (tb_out K.2.2.2.2.2.1 rfl) hx9.1 hx9.2.1 hx9.2.2.1 (hE.trans hx9.2.2.2))
  obtain ⟨r45, rfl, gr45, h, hGσ44, hYσ44, xσ44⟩ := hq
  have h := h xσ44
  intro H locs ls hH hl hc
  refine W.eq (g2 := F0 m 17 ls [.int (i32 r45)]) (rfl) ?_
  try dsimp only at h
  refine lv_if_gt (tgt := 26) B.1 B.2.1 dX1_insert_17 (by decide) (fun h9 => ?_) (fun h9 => ?_)
  · rw [if_pos ((z_gt gr45).mp h9)] at h
    exact a_X1_insert_26 K hQ hX hTh _ _ _ _ (g1.up xσ44) g2 g3 h hGσ44 hYσ44 (hE.trans xσ44) (hth.up xσ44) _ _ _ hH (lv_sub (l' := [(0, .ref th), (1, va_rf v1), (2, .int (i32 v2)), (3, .int (i32 v3))]) hl [0, 1, 2, 3] rfl) hc
  · rw [if_neg (fun q => h9 ((z_gt gr45).mpr q))] at h
    exact a_X1_insert_20 K hQ hX hTh _ _ (g1.up xσ44) h hGσ44 hYσ44 (hE.trans xσ44) (hth.up xσ44) _ _ _ hH (lv_sub (l' := [(0, .ref th), (1, va_rf v1)]) hl [0, 1] rfl) hc
set_option maxRecDepth 20000 in
theorem a_X1_insert_0 {Q : Sg → Unit → Prop} {X : Sg → String → Prop} {th : Nat} (K : MD l R p s m args c cX1_insert 6 RX1 D cA tys A n0 s0 2 48 []) (hQ : CQV p l e R s m args below meth c cX1_insert D cA A n0 s0 QM σi Q) (hX : CX p l e R s m args below meth c 6 D cA A n0 s0 QM σi X) (hTh : CT p l e R s m args below meth c cX1_insert 6 D cA A n0 s0 QM σi RX1 X) : ∀ (σ : Sg) (v1 : Option Nat) (v2 : Int) (v3 : Int) (g1 : tyV σ 0 v1) (g2 : rng v2) (g3 : rng v3), w_X1_insert_0 th Q X σ v1 v2 v3 → RG σ → TY σ → Ext σi σ → kO σ th 1 → JJ p l e R s m args below meth c 6 D cA A n0 s0 QM σ 0 [(0, .ref th), (1, va_rf v1), (2, .int (i32 v2)), (3, .int (i32 v3))] [] := by
  intro σ v1 v2 v3 g1 g2 g3 h hGσ hYσ hE hth H locs ls hH hl hc
  have B := K.1
  have hl9 := K.2.2.2.2.2.2
  unfold w_X1_insert_0 at h
  refine lv_aload_n B.1 B.2.1 dX1_insert_0 rfl (lv_at hl 0 rfl) ?_
  refine f_getp B hH hth (by decide) rfl wu_X1 1 (by decide) wf_X1_15 rfl rfl dX1_insert_1 ?_
  refine lv_ifnullQ (tgt := 20) B.1 B.2.1 dX1_insert_4 (by decide) (fun h9 => ?_) (fun h9 => ?_)
  · rw [if_pos (h9)] at h
    exact a_X1_insert_20 K hQ hX hTh _ _ g1 h hGσ hYσ hE hth _ _ _ hH (lv_sub (l' := [(0, .ref th), (1, va_rf v1)]) hl [0, 1] rfl) hc
  · rw [if_neg (h9)] at h
    exact a_X1_insert_7 K hQ hX hTh _ _ _ _ g1 g2 g3 h hGσ hYσ hE hth _ _ _ hH (lv_sub (l' := [(0, .ref th), (1, va_rf v1), (2, .int (i32 v2)), (3, .int (i32 v3))]) hl [0, 1, 2, 3] rfl) hc
theorem ok_X1_insert (hl0 : l.stackTraces = false) (hT : TyC cA tys) {Q : Sg → Unit → Prop} {X : Sg → String → Prop} (σ : Sg) (th : Nat) (v1 : Option Nat) (v2 : Int) (v3 : Int) (g1 : tyV σ 0 v1) (g2 : rng v2) (g3 : rng v3) (hth : kO σ th 1) (hG : RG σ) (hY : TY σ) (h : wp_X1_insert th v1 v2 v3 σ Q X) : Ok l D cA tys A yX1_insert (.code yX1_insert cX1_insert 6 none) 2 48 [.ref th, va_rf v1, .int (i32 v2), .int (i32 v3)] σ (QcV σ Q) (QxC σ X) := by
  unfold wp_X1_insert at h
  exact oc_V hl0 (by decide) (by cases v1 <;> exact Nat.le_of_ble_eq_true rfl) hT (fun p e R s m args below meth c K hQ hX hTh hin9 H locs ls hH hl hc => a_X1_insert_0 K hQ hX hTh σ v1 v2 v3 g1 g2 g3 h hG hY (Ext.rfl' σ) hth H locs ls hH (lv_sub (l' := [(0, .ref th), (1, va_rf v1), (2, .int (i32 v2)), (3, .int (i32 v3))]) hl [0, 1, 2, 3] (by cases v1 <;> rfl)) hc)
theorem dX11_keep_0 : decode cX11_keep 0 = .ok (.aload_n 0, 1) := by decide +kernel
theorem dX11_keep_1 : decode cX11_keep 1 = .ok (.getfield 136, 3) := by decide +kernel
theorem dX11_keep_4 : decode cX11_keep 4 = .ok (.getfield 140, 3) := by decide +kernel
theorem dX11_keep_7 : decode cX11_keep 7 = .ok (.iload_n 3, 1) := by decide +kernel
theorem dX11_keep_8 : decode cX11_keep 8 = .ok (.ifCond .eq 11, 3) := by decide +kernel
theorem dX11_keep_11 : decode cX11_keep 11 = .ok (.aload_n 1, 1) := by decide +kernel
theorem dX11_keep_12 : decode cX11_keep 12 = .ok (.getfield 146, 3) := by decide +kernel
theorem dX11_keep_15 : decode cX11_keep 15 = .ok (.iconst (-1), 1) := by decide +kernel
theorem dX11_keep_16 : decode cX11_keep 16 = .ok (.if_icmp .ne 10, 3) := by decide +kernel
theorem dX11_keep_19 : decode cX11_keep 19 = .ok (.aload_n 1, 1) := by decide +kernel
theorem dX11_keep_20 : decode cX11_keep 20 = .ok (.getfield 149, 3) := by decide +kernel
theorem dX11_keep_23 : decode cX11_keep 23 = .ok (.goto 7, 3) := by decide +kernel
theorem dX11_keep_26 : decode cX11_keep 26 = .ok (.aload_n 1, 1) := by decide +kernel
theorem dX11_keep_27 : decode cX11_keep 27 = .ok (.getfield 146, 3) := by decide +kernel
theorem dX11_keep_30 : decode cX11_keep 30 = .ok (.aaload, 1) := by decide +kernel
theorem dX11_keep_31 : decode cX11_keep 31 = .ok (.getfield 152, 3) := by decide +kernel
theorem dX11_keep_34 : decode cX11_keep 34 = .ok (.istore 5, 2) := by decide +kernel
theorem dX11_keep_36 : decode cX11_keep 36 = .ok (.aload_n 0, 1) := by decide +kernel
theorem dX11_keep_37 : decode cX11_keep 37 = .ok (.invokevirtual 155, 3) := by decide +kernel
theorem dX11_keep_40 : decode cX11_keep 40 = .ok (.iload_n 3, 1) := by decide +kernel
theorem dX11_keep_41 : decode cX11_keep 41 = .ok (.ifCond .ne 10, 3) := by decide +kernel
theorem dX11_keep_44 : decode cX11_keep 44 = .ok (.aload_n 2, 1) := by decide +kernel
theorem dX11_keep_45 : decode cX11_keep 45 = .ok (.getfield 105, 3) := by decide +kernel
theorem dX11_keep_48 : decode cX11_keep 48 = .ok (.goto 7, 3) := by decide +kernel
theorem dX11_keep_51 : decode cX11_keep 51 = .ok (.aload_n 2, 1) := by decide +kernel
theorem dX11_keep_52 : decode cX11_keep 52 = .ok (.getfield 117, 3) := by decide +kernel
theorem dX11_keep_55 : decode cX11_keep 55 = .ok (.aload 4, 2) := by decide +kernel
theorem dX11_keep_57 : decode cX11_keep 57 = .ok (.aload_n 1, 1) := by decide +kernel
theorem dX11_keep_58 : decode cX11_keep 58 = .ok (.getfield 30, 3) := by decide +kernel
theorem dX11_keep_61 : decode cX11_keep 61 = .ok (.iload_n 3, 1) := by decide +kernel
theorem dX11_keep_62 : decode cX11_keep 62 = .ok (.invokestatic 158, 3) := by decide +kernel
theorem dX11_keep_65 : decode cX11_keep 65 = .ok (.iload 5, 2) := by decide +kernel
theorem dX11_keep_67 : decode cX11_keep 67 = .ok (.invokevirtual 161, 3) := by decide +kernel
theorem dX11_keep_70 : decode cX11_keep 70 = .ok (.return_, 1) := by decide +kernel
set_option maxRecDepth 20000 in
theorem a_X11_keep_55 {Q : Sg → Unit → Prop} {X : Sg → String → Prop} {th : Nat} (K : MD l R p s m args c cX11_keep 6 RX11 D cA tys A n0 s0 7 110 []) (hQ : CQV p l e R s m args below meth c cX11_keep D cA A n0 s0 QM σi Q) (hX : CX p l e R s m args below meth c 6 D cA A n0 s0 QM σi X) (hTh : CT p l e R s m args below meth c cX11_keep 6 D cA A n0 s0 QM σi RX11 X) : ∀ (σ : Sg) (v1 : Option Nat) (v3 : Int) (v4 : Option Nat) (v5 : Int) (u0 : Option Nat) (g1 : tyV σ 5 v1) (g3 : rng v3) (g4 : tyV σ 0 v4) (g5 : rng v5) (gu0 : tyV σ 1 u0), w_X11_keep_55 th Q X σ v1 v3 v4 v5 u0 → RG σ → TY σ → Ext σi σ → kO σ th 11 → JJ p l e R s m args below meth c 6 D cA A n0 s0 QM σ 55 [(0, .ref th), (1, va_rf v1), (3, .int (i32 v3)), (4, va_rf v4), (5, .int (i32 v5))] [va_rf u0] := by
  intro σ v1 v3 v4 v5 u0 g1 g3 g4 g5 gu0 h hGσ hYσ hE hth H locs ls hH hl hc
  have B := K.1
  have hl9 := K.2.2.2.2.2.2
  unfold w_X11_keep_55 at h
  refine lv_aloadQ B.1 B.2.1 dX11_keep_55 (lv_at hl 3 rfl) ?_
  refine lv_aload_nQ B.1 B.2.1 dX11_keep_57 rfl (lv_at hl 1 rfl) ?_
  obtain ⟨a29, ea29, h⟩ := h
  have ka29 : kO σ a29 5 := g1 a29 ea29
  have h := h ka29
  refine W.eq (g2 := F0 m 58 ls [.ref a29, va_rf v4, va_rf u0]) (by rw [ea29]; rfl) ?_
  refine f_geti B hH ka29 (by decide) rfl wu_X5 6 (by decide) wf_X11_30 rfl rfl dX11_keep_58 ?_
  refine lv_iload_n B.1 B.2.1 dX11_keep_61 rfl (lv_at hl 2 rfl) ?_
  refine c_S B hH hl hc K.2.2.1 (As := [.int (i32 (gI σ a29 6)), .int (i32 v3)]) (ok_X11_orderOf hl9 K.2.1 σ (gI σ a29 6) v3 (hGσ _ _) g3 hGσ hYσ h) wc_X11_158 2 hd_X11_orderOf ⟨Nat.le_trans (Nat.le_of_ble_eq_true rfl) K.2.2.2.1, Nat.le_trans (Nat.le_of_ble_eq_true rfl) K.2.2.2.2.1⟩ rfl (rest := [va_rf v4, va_rf u0]) rfl (by simp only [List.map_cons, List.map_nil, rf_cat]; exact Nat.le_of_ble_eq_true rfl) dX11_keep_62 (fun σ30 w hq => ?_) (fun σ9 E9 hx9 => hX σ9 E9 _ _ _ (tb_out K.2.2.2.2.2.1 rfl) hx9.1 hx9.2.1 hx9.2.2.1 (hE.trans hx9.2.2.2))
  obtain ⟨r31, rfl, gr31, h, hGσ30, hYσ30, xσ30⟩ := hq
  have h := h xσ30
  intro H locs ls hH hl hc
  refine W.eq (g2 := F0 m 65 ls [.int (i32 r31), va_rf v4, va_rf u0]) (rfl) ?_
  try dsimp only at h
  refine lv_iload B.1 B.2.1 dX11_keep_65 (lv_at hl 4 rfl) ?_
  obtain ⟨a33, ea33, h⟩ := h
  have ka33 : kO σ30 a33 1 := (gu0.up xσ30) a33 ea33
  have h := h ka33
  refine W.eq (g2 := F0 m 67 ls [.int (i32 v5), .int (i32 r31), va_rf v4, .ref a33]) (by rw [ea33]; rfl) ?_
  refine c_V B hH hl hc K.2.2.1 (C := RX1) (T := TX1) (N := 3) (ci := 1) (As := [va_rf v4, .int (i32 r31), .int (i32 v5)]) (ok_X1_insert hl9 K.2.1 σ30 a33 v4 r31 v5 (g4.up xσ30) gr31 g5 ka33 hGσ30 hYσ30 h) wc_X11_161 3 hd_X1_insert ⟨Nat.le_trans (Nat.le_of_ble_eq_true rfl) K.2.2.2.1, Nat.le_trans (Nat.le_of_ble_eq_true rfl) K.2.2.2.2.1⟩ ka33.1 ka33.2 (by decide) rfl rfl (rest := []) rfl (Nat.le_of_ble_eq_true rfl) dX11_keep_67 (fun σ32 w hq => ?_) (fun σ9 E9 hx9 => hX σ9 E9 _ _ _ (tb_out K.2.2.2.2.2.1 rfl) hx9.1 hx9.2.1 hx9.2.2.1 ((hE.trans xσ30).trans hx9.2.2.2))
  obtain ⟨rfl, h, hGσ32, hYσ32, xσ32⟩ := hq
  have h := h xσ32
  intro H locs ls hH hl hc
  refine W.eq (g2 := F0 m 70 ls []) (rfl) ?_
  try dsimp only at h
  exact hQ _ _ _ _ _ dX11_keep_70 hH hc h hGσ32 hYσ32 ((hE.trans xσ30).trans xσ32)
set_option maxRecDepth 20000 in
theorem a_X11_keep_51 {Q : Sg → Unit → Prop} {X : Sg → String → Prop} {th : Nat} (K : MD l R p s m args c cX11_keep 6 RX11 D cA tys A n0 s0 7 110 []) (hQ : CQV p l e R s m args below meth c cX11_keep D cA A n0 s0 QM σi Q) (hX : CX p l e R s m args below meth c 6 D cA A n0 s0 QM σi X) (hTh : CT p l e R s m args below meth c cX11_keep 6 D cA A n0 s0 QM σi RX11 X) : ∀ (σ : Sg) (v1 : Option Nat) (v2 : Option Nat) (v3 : Int) (v4 : Option Nat) (v5 : Int) (g1 : tyV σ 5 v1) (g2 : tyV σ 10 v2) (g3 : rng v3) (g4 : tyV σ 0 v4) (g5 : rng v5), w_X11_keep_51 th Q X σ v1 v2 v3 v4 v5 → RG σ → TY σ → Ext σi σ → kO σ th 11 → JJ p l e R s m args below meth c 6 D cA A n0 s0 QM σ 51 [(0, .ref th), (1, va_rf v1), (2, va_rf v2), (3, .int (i32 v3)), (4, va_rf v4), (5, .int (i32 v5))] [] := by
  intro σ v1 v2 v3 v4 v5 g1 g2 g3 g4 g5 h hGσ hYσ hE hth H locs ls hH hl hc
  have B := K.1
  have hl9 := K.2.2.2.2.2.2
  unfold w_X11_keep_51 at h
  refine lv_aload_nQ B.1 B.2.1 dX11_keep_51 rfl (lv_at hl 2 rfl) ?_
  obtain ⟨a34, ea34, h⟩ := h
  have ka34 : kO σ a34 10 := g2 a34 ea34
  have h := h ka34
  refine W.eq (g2 := F0 m 52 ls [.ref a34]) (by rw [ea34]; rfl) ?_
  refine f_getp B hH ka34 (by decide) rfl wu_X10 3 (by decide) wf_X11_117 rfl rfl dX11_keep_52 ?_
  exact a_X11_keep_55 K hQ hX hTh _ _ _ _ _ _ g1 g3 g4 g5 (hYσ.get ka34 (by decide)) h hGσ hYσ hE hth _ _ _ hH (lv_sub (l' := [(0, .ref th), (1, va_rf v1), (3, .int (i32 v3)), (4, va_rf v4), (5, .int (i32 v5))]) hl [0, 1, 3, 4, 5] rfl) hc
set_option maxRecDepth 20000 in
theorem a_X11_keep_44 {Q : Sg → Unit → Prop} {X : Sg → String → Prop} {th : Nat} (K : MD l R p s m args c cX11_keep 6 RX11 D cA tys A n0 s0 7 110 []) (hQ : CQV p l e R s m args below meth c cX11_keep D cA A n0 s0 QM σi Q) (hX : CX p l e R s m args below meth c 6 D cA A n0 s0 QM σi X) (hTh : CT p l e R s m args below meth c cX11_keep 6 D cA A n0 s0 QM σi RX11 X) : ∀ (σ : Sg) (v1 : Option Nat) (v2 : Option Nat) (v3 : Int) (v4 : Option Nat) (v5 : Int) (g1 : tyV σ 5 v1) (g2 : tyV σ 10 v2) (g3 : rng v3) (g4 : tyV σ 0 v4) (g5 : rng v5), w_X11_keep_44 th Q X σ v1 v2 v3 v4 v5 → RG σ → TY σ → Ext σi σ → kO σ th 11 → JJ p l e R s m args below meth c 6 D cA A n0 s0 QM σ 44 [(0, .ref th), (1, va_rf v1), (2, va_rf v2), (3, .int (i32 v3)), (4, va_rf v4), (5, .int (i32 v5))] [] := by
  intro σ v1 v2 v3 v4 v5 g1 g2 g3 g4 g5 h hGσ hYσ hE hth H locs ls hH hl hc
  have B := K.1
  have hl9 := K.2.2.2.2.2.2
  unfold w_X11_keep_44 at h
  refine lv_aload_nQ B.1 B.2.1 dX11_keep_44 rfl (lv_at hl 2 rfl) ?_
  obtain ⟨a35, ea35, h⟩ := h
  have ka35 : kO σ a35 10 := g2 a35 ea35
  have h := h ka35
  refine W.eq (g2 := F0 m 45 ls [.ref a35]) (by rw [ea35]; rfl) ?_
  refine f_getp B hH ka35 (by decide) rfl wu_X10 2 (by decide) wf_X11_105 rfl rfl dX11_keep_45 ?_
  refine lv_goto (tgt := 55) B.1 B.2.1 dX11_keep_48 (by decide) ?_
  exact a_X11_keep_55 K hQ hX hTh _ _ _ _ _ _ g1 g3 g4 g5 (hYσ.get ka35 (by decide)) h hGσ hYσ hE hth _ _ _ hH (lv_sub (l' := [(0, .ref th), (1, va_rf v1), (3, .int (i32 v3)), (4, va_rf v4), (5, .int (i32 v5))]) hl [0, 1, 3, 4, 5] rfl) hc
set_option maxRecDepth 20000 in
theorem a_X11_keep_30 {Q : Sg → Unit → Prop} {X : Sg → String → Prop} {th : Nat} (K : MD l R p s m args c cX11_keep 6 RX11 D cA tys A n0 s0 7 110 []) (hQ : CQV p l e R s m args below meth c cX11_keep D cA A n0 s0 QM σi Q) (hX : CX p l e R s m args below meth c 6 D cA A n0 s0 QM σi X) (hTh : CT p l e R s m args below meth c cX11_keep 6 D cA A n0 s0 QM σi RX11 X) : ∀ (σ : Sg) (v1 : Option Nat) (v2 : Option Nat) (v3 : Int) (v4 : Option Nat) (u0 : Int) (u1 : Option Nat) (g1 : tyV σ 5 v1) (g2 : tyV σ 10 v2) (g3 : rng v3) (g4 : tyV σ 0 v4) (gu0 : rng u0) (gu1 : tyV σ 115 u1), w_X11_keep_30 th Q X σ v1 v2 v3 v4 u0 u1 → RG σ → TY σ → Ext σi σ → kO σ th 11 → JJ p l e R s m args below meth c 6 D cA A n0 s0 QM σ 30 [(0, .ref th), (1, va_rf v1), (2, va_rf v2), (3, .int (i32 v3)), (4, va_rf v4)] [.int (i32 u0), va_rf u1] := by
  intro σ v1 v2 v3 v4 u0 u1 g1 g2 g3 g4 gu0 gu1 h hGσ hYσ hE hth H locs ls hH hl hc
  have B := K.1
  have hl9 := K.2.2.2.2.2.2
  unfold w_X11_keep_30 at h
  obtain ⟨a36, ea36, h⟩ := h
  have ka36 : kO σ a36 115 := gu1 a36 ea36
  have h := h ka36
  obtain ⟨q1, h⟩ := h
  refine W.eq (g2 := F0 m 30 ls [.int (i32 u0), .ref a36]) (by rw [ea36]; rfl) ?_
  refine y_aald B hH (t0 := 6) ka36 (by decide) K.2.1.2.2.2.1 q1 (hYσ.2 _) dX11_keep_30 ?_
  obtain ⟨a37, ea37, h⟩ := h
  have ka37 : kO σ a37 5 := (hYσ.get ka36 rfl) a37 ea37
  have h := h ka37
  refine W.eq (g2 := F0 m 31 ls [.ref a37]) (by rw [ea37]; rfl) ?_
  refine f_geti B hH ka37 (by decide) rfl wu_X5 3 (by decide) wf_X11_152 rfl rfl dX11_keep_31 ?_
  refine lv_istore (lv' := [(5, .int (i32 (gI σ a37 3))), (0, .ref th), (1, va_rf v1), (2, va_rf v2), (3, .int (i32 v3)), (4, va_rf v4)]) B.1 B.2.1 dX11_keep_34 hl (by decide) (by generalize v4 = w9; cases w9 <;> rfl) (fun ls hl => ?_)
  refine lv_aload_n B.1 B.2.1 dX11_keep_36 rfl (lv_at hl 1 rfl) ?_
  refine W.eq (g2 := F0 m 37 ls [.ref th]) (rfl) ?_
  refine c_V B hH hl hc K.2.2.1 (C := RX11) (T := TX11) (N := 6) (ci := 11) (As := []) (ok_X11_countRecord hl9 K.2.1 σ th hth hGσ hYσ h) wc_X11_155 0 hd_X11_countRecord ⟨Nat.le_trans (Nat.le_of_ble_eq_true rfl) K.2.2.2.1, Nat.le_trans (Nat.le_of_ble_eq_true rfl) K.2.2.2.2.1⟩ hth.1 hth.2 (by decide) rfl rfl (rest := []) rfl (Nat.le_of_ble_eq_true rfl) dX11_keep_37 (fun σ38 w hq => ?_) (fun σ9 E9 hx9 => hX σ9 E9 _ _ _ (tb_out K.2.2.2.2.2.1 rfl) hx9.1 hx9.2.1 hx9.2.2.1 (hE.trans hx9.2.2.2))
  obtain ⟨rfl, h, hGσ38, hYσ38, xσ38⟩ := hq
  have h := h xσ38
  intro H locs ls hH hl hc
  refine W.eq (g2 := F0 m 40 ls []) (rfl) ?_
  try dsimp only at h
  refine lv_iload_n B.1 B.2.1 dX11_keep_40 rfl (lv_at hl 4 rfl) ?_
  refine lv_if_ne (tgt := 51) B.1 B.2.1 dX11_keep_41 (by decide) (fun h9 => ?_) (fun h9 => ?_)
  · rw [if_pos (fun q => h9 ((z_eq g3).mpr q))] at h
    exact a_X11_keep_51 K hQ hX hTh _ _ _ _ _ _ (g1.up xσ38) (g2.up xσ38) g3 (g4.up xσ38) (hGσ _ _) h hGσ38 hYσ38 (hE.trans xσ38) (hth.up xσ38) _ _ _ hH (lv_sub (l' := [(0, .ref th), (1, va_rf v1), (2, va_rf v2), (3, .int (i32 v3)), (4, va_rf v4), (5, .int (i32 (gI σ a37 3)))]) hl [1, 2, 3, 4, 5, 0] rfl) hc
  · rw [if_neg (fun q => q ((z_eq g3).mp h9))] at h
    exact a_X11_keep_44 K hQ hX hTh _ _ _ _ _ _ (g1.up xσ38) (g2.up xσ38) g3 (g4.up xσ38) (hGσ _ _) h hGσ38 hYσ38 (hE.trans xσ38) (hth.up xσ38) _ _ _ hH (lv_sub (l' := [(0, .ref th), (1, va_rf v1), (2, va_rf v2), (3, .int (i32 v3)), (4, va_rf v4), (5, .int (i32 (gI σ a37 3)))]) hl [1, 2, 3, 4, 5, 0] rfl) hc
set_option maxRecDepth 20000 in
theorem a_X11_keep_19 {Q : Sg → Unit → Prop} {X : Sg → String → Prop} {th : Nat} (K : MD l R p s m args c cX11_keep 6 RX11 D cA tys A n0 s0 7 110 []) (hQ : CQV p l e R s m args below meth c cX11_keep D cA A n0 s0 QM σi Q) (hX : CX p l e R s m args below meth c 6 D cA A n0 s0 QM σi X) (hTh : CT p l e R s m args below meth c cX11_keep 6 D cA A n0 s0 QM σi RX11 X) : ∀ (σ : Sg) (v1 : Option Nat) (v2 : Option Nat) (v3 : Int) (v4 : Option Nat) (u0 : Option Nat) (g1 : tyV σ 5 v1) (g2 : tyV σ 10 v2) (g3 : rng v3) (g4 : tyV σ 0 v4) (gu0 : tyV σ 115 u0), w_X11_keep_19 th Q X σ v1 v2 v3 v4 u0 → RG σ → TY σ → Ext σi σ → kO σ th 11 → JJ p l e R s m args below meth c 6 D cA A n0 s0 QM σ 19 [(0, .ref th), (1, va_rf v1), (2, va_rf v2), (3, .int (i32 v3)), (4, va_rf v4)] [va_rf u0] := by
  intro σ v1 v2 v3 v4 u0 g1 g2 g3 g4 gu0 h hGσ hYσ hE hth H locs ls hH hl hc
  have B := K.1
  have hl9 := K.2.2.2.2.2.2
  unfold w_X11_keep_19 at h
  refine lv_aload_nQ B.1 B.2.1 dX11_keep_19 rfl (lv_at hl 1 rfl) ?_
  obtain ⟨a39, ea39, h⟩ := h
  have ka39 : kO σ a39 5 := g1 a39 ea39
  have h := h ka39
  refine W.eq (g2 := F0 m 20 ls [.ref a39, va_rf u0]) (by rw [ea39]; rfl) ?_
  refine f_geti B hH ka39 (by decide) rfl wu_X5 7 (by decide) wf_X11_149 rfl rfl dX11_keep_20 ?_
  refine lv_goto (tgt := 30) B.1 B.2.1 dX11_keep_23 (by decide) ?_
  exact a_X11_keep_30 K hQ hX hTh _ _ _ _ _ _ _ g1 g2 g3 g4 (hGσ _ _) gu0 h hGσ hYσ hE hth _ _ _ hH (lv_sub (l' := [(0, .ref th), (1, va_rf v1), (2, va_rf v2), (3, .int (i32 v3)), (4, va_rf v4)]) hl [0, 1, 2, 3, 4] rfl) hc
set_option maxRecDepth 20000 in
theorem a_X11_keep_26 {Q : Sg → Unit → Prop} {X : Sg → String → Prop} {th : Nat} (K : MD l R p s m args c cX11_keep 6 RX11 D cA tys A n0 s0 7 110 []) (hQ : CQV p l e R s m args below meth c cX11_keep D cA A n0 s0 QM σi Q) (hX : CX p l e R s m args below meth c 6 D cA A n0 s0 QM σi X) (hTh : CT p l e R s m args below meth c cX11_keep 6 D cA A n0 s0 QM σi RX11 X) : ∀ (σ : Sg) (v1 : Option Nat) (v2 : Option Nat) (v3 : Int) (v4 : Option Nat) (u0 : Option Nat) (g1 : tyV σ 5 v1) (g2 : tyV σ 10 v2) (g3 : rng v3) (g4 : tyV σ 0 v4) (gu0 : tyV σ 115 u0), w_X11_keep_26 th Q X σ v1 v2 v3 v4 u0 → RG σ → TY σ → Ext σi σ → kO σ th 11 → JJ p l e R s m args below meth c 6 D cA A n0 s0 QM σ 26 [(0, .ref th), (1, va_rf v1), (2, va_rf v2), (3, .int (i32 v3)), (4, va_rf v4)] [va_rf u0] := by
  intro σ v1 v2 v3 v4 u0 g1 g2 g3 g4 gu0 h hGσ hYσ hE hth H locs ls hH hl hc
  have B := K.1
  have hl9 := K.2.2.2.2.2.2
  unfold w_X11_keep_26 at h
  refine lv_aload_nQ B.1 B.2.1 dX11_keep_26 rfl (lv_at hl 1 rfl) ?_
  obtain ⟨a40, ea40, h⟩ := h
  have ka40 : kO σ a40 5 := g1 a40 ea40
  have h := h ka40
  refine W.eq (g2 := F0 m 27 ls [.ref a40, va_rf u0]) (by rw [ea40]; rfl) ?_
  refine f_geti B hH ka40 (by decide) rfl wu_X5 8 (by decide) wf_X11_146 rfl rfl dX11_keep_27 ?_
  exact a_X11_keep_30 K hQ hX hTh _ _ _ _ _ _ _ g1 g2 g3 g4 (hGσ _ _) gu0 h hGσ hYσ hE hth _ _ _ hH (lv_sub (l' := [(0, .ref th), (1, va_rf v1), (2, va_rf v2), (3, .int (i32 v3)), (4, va_rf v4)]) hl [0, 1, 2, 3, 4] rfl) hc
set_option maxRecDepth 20000 in
theorem a_X11_keep_11 {Q : Sg → Unit → Prop} {X : Sg → String → Prop} {th : Nat} (K : MD l R p s m args c cX11_keep 6 RX11 D cA tys A n0 s0 7 110 []) (hQ : CQV p l e R s m args below meth c cX11_keep D cA A n0 s0 QM σi Q) (hX : CX p l e R s m args below meth c 6 D cA A n0 s0 QM σi X) (hTh : CT p l e R s m args below meth c cX11_keep 6 D cA A n0 s0 QM σi RX11 X) : ∀ (σ : Sg) (v1 : Option Nat) (v2 : Option Nat) (v3 : Int) (v4 : Option Nat) (u0 : Option Nat) (g1 : tyV σ 5 v1) (g2 : tyV σ 10 v2) (g3 : rng v3) (g4 : tyV σ 0 v4) (gu0 : tyV σ 115 u0), w_X11_keep_11 th Q X σ v1 v2 v3 v4 u0 → RG σ → TY σ → Ext σi σ → kO σ th 11 → JJ p l e R s m args below meth c 6 D cA A n0 s0 QM σ 11 [(0, .ref th), (1, va_rf v1), (2, va_rf v2), (3, .int (i32 v3)), (4, va_rf v4)] [va_rf u0] := by
  intro σ v1 v2 v3 v4 u0 g1 g2 g3 g4 gu0 h hGσ hYσ hE hth H locs ls hH hl hc
  have B := K.1
  have hl9 := K.2.2.2.2.2.2
  unfold w_X11_keep_11 at h
  refine lv_aload_nQ B.1 B.2.1 dX11_keep_11 rfl (lv_at hl 1 rfl) ?_
  obtain ⟨a41, ea41, h⟩ := h
  have ka41 : kO σ a41 5 := g1 a41 ea41
  have h := h ka41
  refine W.eq (g2 := F0 m 12 ls [.ref a41, va_rf u0]) (by rw [ea41]; rfl) ?_
  refine f_geti B hH ka41 (by decide) rfl wu_X5 8 (by decide) wf_X11_146 rfl rfl dX11_keep_12 ?_
  refine lv_iconst (v := i32 (-1)) B.1 B.2.1 dX11_keep_15 (by decide) ?_
  refine lv_icmp_ne (tgt := 26) B.1 B.2.1 dX11_keep_16 (by decide) (fun h9 => ?_) (fun h9 => ?_)
  · rw [if_pos (fun q => h9 ((i32_eq (hGσ _ _) (by unfold rng; omega)).mpr q))] at h
    exact a_X11_keep_26 K hQ hX hTh _ _ _ _ _ _ g1 g2 g3 g4 gu0 h hGσ hYσ hE hth _ _ _ hH (lv_sub (l' := [(0, .ref th), (1, va_rf v1), (2, va_rf v2), (3, .int (i32 v3)), (4, va_rf v4)]) hl [0, 1, 2, 3, 4] rfl) hc
  · rw [if_neg (fun q => q ((i32_eq (hGσ _ _) (by unfold rng; omega)).mp h9))] at h
    exact a_X11_keep_19 K hQ hX hTh _ _ _ _ _ _ g1 g2 g3 g4 gu0 h hGσ hYσ hE hth _ _ _ hH (lv_sub (l' := [(0, .ref th), (1, va_rf v1), (2, va_rf v2), (3, .int (i32 v3)), (4, va_rf v4)]) hl [0, 1, 2, 3, 4] rfl) hc
set_option maxRecDepth 20000 in
theorem a_X11_keep_0 {Q : Sg → Unit → Prop} {X : Sg → String → Prop} {th : Nat} (K : MD l R p s m args c cX11_keep 6 RX11 D cA tys A n0 s0 7 110 []) (hQ : CQV p l e R s m args below meth c cX11_keep D cA A n0 s0 QM σi Q) (hX : CX p l e R s m args below meth c 6 D cA A n0 s0 QM σi X) (hTh : CT p l e R s m args below meth c cX11_keep 6 D cA A n0 s0 QM σi RX11 X) : ∀ (σ : Sg) (v1 : Option Nat) (v2 : Option Nat) (v3 : Int) (v4 : Option Nat) (g1 : tyV σ 5 v1) (g2 : tyV σ 10 v2) (g3 : rng v3) (g4 : tyV σ 0 v4), w_X11_keep_0 th Q X σ v1 v2 v3 v4 → RG σ → TY σ → Ext σi σ → kO σ th 11 → JJ p l e R s m args below meth c 6 D cA A n0 s0 QM σ 0 [(0, .ref th), (1, va_rf v1), (2, va_rf v2), (3, .int (i32 v3)), (4, va_rf v4)] [] := by
  intro σ v1 v2 v3 v4 g1 g2 g3 g4 h hGσ hYσ hE hth H locs ls hH hl hc
  have B := K.1
  have hl9 := K.2.2.2.2.2.2
  unfold w_X11_keep_0 at h
  refine lv_aload_n B.1 B.2.1 dX11_keep_0 rfl (lv_at hl 0 rfl) ?_
  refine f_getp B hH hth (by decide) rfl wu_X11 5 (by decide) wf_X11_136 rfl rfl dX11_keep_1 ?_
  obtain ⟨a42, ea42, h⟩ := h
  have ka42 : kO σ a42 4 := (hYσ.get hth (by decide)) a42 ea42
  have h := h ka42
  refine W.eq (g2 := F0 m 4 ls [.ref a42]) (by rw [ea42]; rfl) ?_
  refine f_getp B hH ka42 (by decide) rfl wu_X4 0 (by decide) wf_X11_140 rfl rfl dX11_keep_4 ?_
  refine lv_iload_n B.1 B.2.1 dX11_keep_7 rfl (lv_at hl 3 rfl) ?_
  refine lv_if_eq (tgt := 19) B.1 B.2.1 dX11_keep_8 (by decide) (fun h9 => ?_) (fun h9 => ?_)
  · rw [if_pos ((z_eq g3).mp h9)] at h
    exact a_X11_keep_19 K hQ hX hTh _ _ _ _ _ _ g1 g2 g3 g4 (hYσ.get ka42 (by decide)) h hGσ hYσ hE hth _ _ _ hH (lv_sub (l' := [(0, .ref th), (1, va_rf v1), (2, va_rf v2), (3, .int (i32 v3)), (4, va_rf v4)]) hl [0, 1, 2, 3, 4] rfl) hc
  · rw [if_neg (fun q => h9 ((z_eq g3).mpr q))] at h
    exact a_X11_keep_11 K hQ hX hTh _ _ _ _ _ _ g1 g2 g3 g4 (hYσ.get ka42 (by decide)) h hGσ hYσ hE hth _ _ _ hH (lv_sub (l' := [(0, .ref th), (1, va_rf v1), (2, va_rf v2), (3, .int (i32 v3)), (4, va_rf v4)]) hl [0, 1, 2, 3, 4] rfl) hc
theorem ok_X11_keep (hl0 : l.stackTraces = false) (hT : TyC cA tys) {Q : Sg → Unit → Prop} {X : Sg → String → Prop} (σ : Sg) (th : Nat) (v1 : Option Nat) (v2 : Option Nat) (v3 : Int) (v4 : Option Nat) (g1 : tyV σ 5 v1) (g2 : tyV σ 10 v2) (g3 : rng v3) (g4 : tyV σ 0 v4) (hth : kO σ th 11) (hG : RG σ) (hY : TY σ) (h : wp_X11_keep th v1 v2 v3 v4 σ Q X) : Ok l D cA tys A yX11_keep (.code yX11_keep cX11_keep 6 none) 7 110 [.ref th, va_rf v1, va_rf v2, .int (i32 v3), va_rf v4] σ (QcV σ Q) (QxC σ X) := by
  unfold wp_X11_keep at h
  exact oc_V hl0 (by decide) (by cases v1 <;> cases v2 <;> cases v4 <;> exact Nat.le_of_ble_eq_true rfl) hT (fun p e R s m args below meth c K hQ hX hTh hin9 H locs ls hH hl hc => a_X11_keep_0 K hQ hX hTh σ v1 v2 v3 v4 g1 g2 g3 g4 h hG hY (Ext.rfl' σ) hth H locs ls hH (lv_sub (l' := [(0, .ref th), (1, va_rf v1), (2, va_rf v2), (3, .int (i32 v3)), (4, va_rf v4)]) hl [0, 1, 2, 3, 4] (by cases v1 <;> cases v2 <;> cases v4 <;> rfl)) hc)
theorem dX11_joinRow_0 : decode cX11_joinRow 0 = .ok (.aload 4, 2) := by decide +kernel
theorem dX11_joinRow_2 : decode cX11_joinRow 2 = .ok (.aload 4, 2) := by decide +kernel
theorem dX11_joinRow_4 : decode cX11_joinRow 4 = .ok (.getfield 64, 3) := by decide +kernel
theorem dX11_joinRow_7 : decode cX11_joinRow 7 = .ok (.iload_n 3, 1) := by decide +kernel
theorem dX11_joinRow_8 : decode cX11_joinRow 8 = .ok (.ifCond .ne 10, 3) := by decide +kernel
theorem dX11_joinRow_11 : decode cX11_joinRow 11 = .ok (.aload_n 1, 1) := by decide +kernel
theorem dX11_joinRow_12 : decode cX11_joinRow 12 = .ok (.getfield 69, 3) := by decide +kernel
theorem dX11_joinRow_15 : decode cX11_joinRow 15 = .ok (.goto 7, 3) := by decide +kernel
theorem dX11_joinRow_18 : decode cX11_joinRow 18 = .ok (.aload_n 1, 1) := by decide +kernel
theorem dX11_joinRow_19 : decode cX11_joinRow 19 = .ok (.getfield 98, 3) := by decide +kernel
theorem dX11_joinRow_22 : decode cX11_joinRow 22 = .ok (.laload, 1) := by decide +kernel
theorem dX11_joinRow_23 : decode cX11_joinRow 23 = .ok (.putfield 72, 3) := by decide +kernel
theorem dX11_joinRow_26 : decode cX11_joinRow 26 = .ok (.iload_n 3, 1) := by decide +kernel
theorem dX11_joinRow_27 : decode cX11_joinRow 27 = .ok (.ifCond .ne 13, 3) := by decide +kernel
theorem dX11_joinRow_30 : decode cX11_joinRow 30 = .ok (.aload_n 2, 1) := by decide +kernel
theorem dX11_joinRow_31 : decode cX11_joinRow 31 = .ok (.getfield 117, 3) := by decide +kernel
theorem dX11_joinRow_34 : decode cX11_joinRow 34 = .ok (.getfield 225, 3) := by decide +kernel
theorem dX11_joinRow_37 : decode cX11_joinRow 37 = .ok (.goto 10, 3) := by decide +kernel
theorem dX11_joinRow_40 : decode cX11_joinRow 40 = .ok (.aload_n 2, 1) := by decide +kernel
theorem dX11_joinRow_41 : decode cX11_joinRow 41 = .ok (.getfield 105, 3) := by decide +kernel
theorem dX11_joinRow_44 : decode cX11_joinRow 44 = .ok (.getfield 225, 3) := by decide +kernel
theorem dX11_joinRow_47 : decode cX11_joinRow 47 = .ok (.astore 5, 2) := by decide +kernel
theorem dX11_joinRow_49 : decode cX11_joinRow 49 = .ok (.aload 5, 2) := by decide +kernel
theorem dX11_joinRow_51 : decode cX11_joinRow 51 = .ok (.ifnull 120, 3) := by decide +kernel
theorem dX11_joinRow_54 : decode cX11_joinRow 54 = .ok (.iload_n 3, 1) := by decide +kernel
theorem dX11_joinRow_55 : decode cX11_joinRow 55 = .ok (.ifCond .ne 17, 3) := by decide +kernel
theorem dX11_joinRow_58 : decode cX11_joinRow 58 = .ok (.aload 5, 2) := by decide +kernel
theorem dX11_joinRow_60 : decode cX11_joinRow 60 = .ok (.getfield 85, 3) := by decide +kernel
theorem dX11_joinRow_63 : decode cX11_joinRow 63 = .ok (.aload 4, 2) := by decide +kernel
theorem dX11_joinRow_65 : decode cX11_joinRow 65 = .ok (.getfield 85, 3) := by decide +kernel
theorem dX11_joinRow_68 : decode cX11_joinRow 68 = .ok (.lsub, 1) := by decide +kernel
theorem dX11_joinRow_69 : decode cX11_joinRow 69 = .ok (.goto 14, 3) := by decide +kernel
theorem dX11_joinRow_72 : decode cX11_joinRow 72 = .ok (.aload 4, 2) := by decide +kernel
theorem dX11_joinRow_74 : decode cX11_joinRow 74 = .ok (.getfield 85, 3) := by decide +kernel
theorem dX11_joinRow_77 : decode cX11_joinRow 77 = .ok (.aload 5, 2) := by decide +kernel
theorem dX11_joinRow_79 : decode cX11_joinRow 79 = .ok (.getfield 85, 3) := by decide +kernel
theorem dX11_joinRow_82 : decode cX11_joinRow 82 = .ok (.lsub, 1) := by decide +kernel
theorem dX11_joinRow_83 : decode cX11_joinRow 83 = .ok (.lstore 6, 2) := by decide +kernel
theorem dX11_joinRow_85 : decode cX11_joinRow 85 = .ok (.aload 5, 2) := by decide +kernel
theorem dX11_joinRow_87 : decode cX11_joinRow 87 = .ok (.getfield 72, 3) := by decide +kernel
theorem dX11_joinRow_90 : decode cX11_joinRow 90 = .ok (.aload 4, 2) := by decide +kernel
theorem dX11_joinRow_92 : decode cX11_joinRow 92 = .ok (.getfield 72, 3) := by decide +kernel
theorem dX11_joinRow_95 : decode cX11_joinRow 95 = .ok (.lcmp, 1) := by decide +kernel
theorem dX11_joinRow_96 : decode cX11_joinRow 96 = .ok (.ifCond .ne 65, 3) := by decide +kernel
theorem dX11_joinRow_99 : decode cX11_joinRow 99 = .ok (.lload 6, 2) := by decide +kernel
theorem dX11_joinRow_101 : decode cX11_joinRow 101 = .ok (.aload_n 1, 1) := by decide +kernel
theorem dX11_joinRow_102 : decode cX11_joinRow 102 = .ok (.getfield 120, 3) := by decide +kernel
theorem dX11_joinRow_105 : decode cX11_joinRow 105 = .ok (.i2l, 1) := by decide +kernel
theorem dX11_joinRow_106 : decode cX11_joinRow 106 = .ok (.lcmp, 1) := by decide +kernel
theorem dX11_joinRow_107 : decode cX11_joinRow 107 = .ok (.ifCond .lt 54, 3) := by decide +kernel
theorem dX11_joinRow_110 : decode cX11_joinRow 110 = .ok (.lload 6, 2) := by decide +kernel
theorem dX11_joinRow_112 : decode cX11_joinRow 112 = .ok (.aload_n 1, 1) := by decide +kernel
theorem dX11_joinRow_113 : decode cX11_joinRow 113 = .ok (.getfield 110, 3) := by decide +kernel
theorem dX11_joinRow_116 : decode cX11_joinRow 116 = .ok (.i2l, 1) := by decide +kernel
theorem dX11_joinRow_117 : decode cX11_joinRow 117 = .ok (.lcmp, 1) := by decide +kernel
theorem dX11_joinRow_118 : decode cX11_joinRow 118 = .ok (.ifCond .gt 43, 3) := by decide +kernel
theorem dX11_joinRow_121 : decode cX11_joinRow 121 = .ok (.aload_n 0, 1) := by decide +kernel
theorem dX11_joinRow_122 : decode cX11_joinRow 122 = .ok (.aload_n 1, 1) := by decide +kernel
theorem dX11_joinRow_123 : decode cX11_joinRow 123 = .ok (.iload_n 3, 1) := by decide +kernel
theorem dX11_joinRow_124 : decode cX11_joinRow 124 = .ok (.ifCond .ne 8, 3) := by decide +kernel
theorem dX11_joinRow_127 : decode cX11_joinRow 127 = .ok (.aload 4, 2) := by decide +kernel
theorem dX11_joinRow_129 : decode cX11_joinRow 129 = .ok (.goto 5, 3) := by decide +kernel
theorem dX11_joinRow_132 : decode cX11_joinRow 132 = .ok (.aload 5, 2) := by decide +kernel
theorem dX11_joinRow_134 : decode cX11_joinRow 134 = .ok (.iload_n 3, 1) := by decide +kernel
theorem dX11_joinRow_135 : decode cX11_joinRow 135 = .ok (.ifCond .ne 8, 3) := by decide +kernel
theorem dX11_joinRow_138 : decode cX11_joinRow 138 = .ok (.aload 5, 2) := by decide +kernel
theorem dX11_joinRow_140 : decode cX11_joinRow 140 = .ok (.goto 5, 3) := by decide +kernel
theorem dX11_joinRow_143 : decode cX11_joinRow 143 = .ok (.aload 4, 2) := by decide +kernel
theorem dX11_joinRow_145 : decode cX11_joinRow 145 = .ok (.aload 5, 2) := by decide +kernel
theorem dX11_joinRow_147 : decode cX11_joinRow 147 = .ok (.getfield 85, 3) := by decide +kernel
theorem dX11_joinRow_150 : decode cX11_joinRow 150 = .ok (.aload 4, 2) := by decide +kernel
theorem dX11_joinRow_152 : decode cX11_joinRow 152 = .ok (.getfield 85, 3) := by decide +kernel
theorem dX11_joinRow_155 : decode cX11_joinRow 155 = .ok (.invokestatic 245, 3) := by decide +kernel
theorem dX11_joinRow_158 : decode cX11_joinRow 158 = .ok (.invokevirtual 253, 3) := by decide +kernel
theorem dX11_joinRow_161 : decode cX11_joinRow 161 = .ok (.aload 5, 2) := by decide +kernel
theorem dX11_joinRow_163 : decode cX11_joinRow 163 = .ok (.getfield 235, 3) := by decide +kernel
theorem dX11_joinRow_166 : decode cX11_joinRow 166 = .ok (.astore 5, 2) := by decide +kernel
theorem dX11_joinRow_168 : decode cX11_joinRow 168 = .ok (.goto (-119), 3) := by decide +kernel
theorem dX11_joinRow_171 : decode cX11_joinRow 171 = .ok (.aload_n 0, 1) := by decide +kernel
theorem dX11_joinRow_172 : decode cX11_joinRow 172 = .ok (.aload_n 1, 1) := by decide +kernel
theorem dX11_joinRow_173 : decode cX11_joinRow 173 = .ok (.aload_n 2, 1) := by decide +kernel
theorem dX11_joinRow_174 : decode cX11_joinRow 174 = .ok (.iload_n 3, 1) := by decide +kernel
theorem dX11_joinRow_175 : decode cX11_joinRow 175 = .ok (.aload 4, 2) := by decide +kernel
theorem dX11_joinRow_177 : decode cX11_joinRow 177 = .ok (.invokevirtual 95, 3) := by decide +kernel
theorem dX11_joinRow_180 : decode cX11_joinRow 180 = .ok (.return_, 1) := by decide +kernel
set_option maxRecDepth 20000 in
theorem a_X11_joinRow_171 {Q : Sg → Unit → Prop} {X : Sg → String → Prop} {th : Nat} (K : MD l R p s m args c cX11_joinRow 8 RX11 D cA tys A n0 s0 9 164 []) (hQ : CQV p l e R s m args below meth c cX11_joinRow D cA A n0 s0 QM σi Q) (hX : CX p l e R s m args below meth c 8 D cA A n0 s0 QM σi X) (hTh : CT p l e R s m args below meth c cX11_joinRow 8 D cA A n0 s0 QM σi RX11 X) : ∀ (σ : Sg) (v1 : Option Nat) (v2 : Option Nat) (v3 : Int) (v4 : Option Nat) (g1 : tyV σ 5 v1) (g2 : tyV σ 10 v2) (g3 : rng v3) (g4 : tyV σ 0 v4), w_X11_joinRow_171 th Q X σ v1 v2 v3 v4 → RG σ → TY σ → Ext σi σ → kO σ th 11 → JJ p l e R s m args below meth c 8 D cA A n0 s0 QM σ 171 [(0, .ref th), (1, va_rf v1), (2, va_rf v2), (3, .int (i32 v3)), (4, va_rf v4)] [] := by
  intro σ v1 v2 v3 v4 g1 g2 g3 g4 h hGσ hYσ hE hth H locs ls hH hl hc
  have B := K.1
  have hl9 := K.2.2.2.2.2.2
  unfold w_X11_joinRow_171 at h
  refine lv_aload_n B.1 B.2.1 dX11_joinRow_171 rfl (lv_at hl 0 rfl) ?_
  refine lv_aload_nQ B.1 B.2.1 dX11_joinRow_172 rfl (lv_at hl 1 rfl) ?_
  refine lv_aload_nQ B.1 B.2.1 dX11_joinRow_173 rfl (lv_at hl 2 rfl) ?_
  refine lv_iload_n B.1 B.2.1 dX11_joinRow_174 rfl (lv_at hl 3 rfl) ?_
  refine lv_aloadQ B.1 B.2.1 dX11_joinRow_175 (lv_at hl 4 rfl) ?_
  refine W.eq (g2 := F0 m 177 ls [va_rf v4, .int (i32 v3), va_rf v2, va_rf v1, .ref th]) (rfl) ?_
  refine c_V B hH hl hc K.2.2.1 (C := RX11) (T := TX11) (N := 6) (ci := 11) (As := [va_rf v1, va_rf v2, .int (i32 v3), va_rf v4]) (ok_X11_keep hl9 K.2.1 σ th v1 v2 v3 v4 g1 g2 g3 g4 hth hGσ hYσ h) wc_X11_95 4 hd_X11_keep ⟨Nat.le_trans (Nat.le_of_ble_eq_true rfl) K.2.2.2.1, Nat.le_trans (Nat.le_of_ble_eq_true rfl) K.2.2.2.2.1⟩ hth.1 hth.2 (by decide) rfl rfl (rest := []) rfl (Nat.le_of_ble_eq_true rfl) dX11_joinRow_177 (fun σ51 w hq => ?_) (fun σ9 E9 hx9 => hX σ9 E9 _ _ _ (tb_out K.2.2.2.2.2.1 rfl) hx9.1 hx9.2.1 hx9.2.2.1 (hE.trans hx9.2.2.2))
  obtain ⟨rfl, h, hGσ51, hYσ51, xσ51⟩ := hq
  have h := h xσ51
  intro H locs ls hH hl hc
  refine W.eq (g2 := F0 m 180 ls []) (rfl) ?_
  try dsimp only at h
  exact hQ _ _ _ _ _ dX11_joinRow_180 hH hc h hGσ51 hYσ51 (hE.trans xσ51)
set_option maxRecDepth 20000 in
theorem a_X11_joinRow_161 {Q : Sg → Unit → Prop} {X : Sg → String → Prop} {th : Nat} (K : MD l R p s m args c cX11_joinRow 8 RX11 D cA tys A n0 s0 9 164 []) (hQ : CQV p l e R s m args below meth c cX11_joinRow D cA A n0 s0 QM σi Q) (hX : CX p l e R s m args below meth c 8 D cA A n0 s0 QM σi X) (hTh : CT p l e R s m args below meth c cX11_joinRow 8 D cA A n0 s0 QM σi RX11 X) {K49 : Sg → Option Nat → Option Nat → Int → Option Nat → Option Nat → Prop} (hK49 : ∀ (σ : Sg) (v1 : Option Nat) (v2 : Option Nat) (v3 : Int) (v4 : Option Nat) (v5 : Option Nat) (g1 : tyV σ 5 v1) (g2 : tyV σ 10 v2) (g3 : rng v3) (g4 : tyV σ 0 v4) (g5 : tyV σ 0 v5), K49 σ v1 v2 v3 v4 v5 → RG σ → TY σ → Ext σi σ → kO σ th 11 → JJ p l e R s m args below meth c 8 D cA A n0 s0 QM σ 49 [(0, .ref th), (1, va_rf v1), (2, va_rf v2), (3, .int (i32 v3)), (4, va_rf v4), (5, va_rf v5)] []) : ∀ (σ : Sg) (v1 : Option Nat) (v2 : Option Nat) (v3 : Int) (v4 : Option Nat) (v5 : Option Nat) (g1 : tyV σ 5 v1) (g2 : tyV σ 10 v2) (g3 : rng v3) (g4 : tyV σ 0 v4) (g5 : tyV σ 0 v5), w_X11_joinRow_161 th K49 Q X σ v1 v2 v3 v4 v5 → RG σ → TY σ → Ext σi σ → kO σ th 11 → JJ p l e R s m args below meth c 8 D cA A n0 s0 QM σ 161 [(0, .ref th), (1, va_rf v1), (2, va_rf v2), (3, .int (i32 v3)), (4, va_rf v4), (5, va_rf v5)] [] := by
  intro σ v1 v2 v3 v4 v5 g1 g2 g3 g4 g5 h hGσ hYσ hE hth H locs ls hH hl hc
  have B := K.1
  have hl9 := K.2.2.2.2.2.2
  unfold w_X11_joinRow_161 at h
  refine lv_aloadQ B.1 B.2.1 dX11_joinRow_161 (lv_at hl 5 rfl) ?_
  obtain ⟨a52, ea52, h⟩ := h
  have ka52 : kO σ a52 0 := g5 a52 ea52
  have h := h ka52
  refine W.eq (g2 := F0 m 163 ls [.ref a52]) (by rw [ea52]; rfl) ?_
  refine f_getp B hH ka52 (by decide) rfl wu_X0 1 (by decide) wf_X11_235 rfl rfl dX11_joinRow_163 ?_
  refine lv_astoreQ (lv' := [(5, va_rf (gP σ a52 1)), (0, .ref th), (1, va_rf v1), (2, va_rf v2), (3, .int (i32 v3)), (4, va_rf v4)]) B.1 B.2.1 dX11_joinRow_166 hl (by decide) (by generalize v4 = w9; cases w9 <;> rfl) (fun ls hl => ?_)
  refine lv_goto (tgt := 49) B.1 B.2.1 dX11_joinRow_168 (by decide) ?_
  exact hK49 _ _ _ _ _ _ g1 g2 g3 g4 (hYσ.get ka52 (by decide)) h hGσ hYσ hE hth _ _ _ hH (lv_sub (l' := [(0, .ref th), (1, va_rf v1), (2, va_rf v2), (3, .int (i32 v3)), (4, va_rf v4), (5, va_rf (gP σ a52 1))]) hl [1, 2, 3, 4, 5, 0] rfl) hc
set_option maxRecDepth 20000 in
theorem a_X11_joinRow_145 {Q : Sg → Unit → Prop} {X : Sg → String → Prop} {th : Nat} (K : MD l R p s m args c cX11_joinRow 8 RX11 D cA tys A n0 s0 9 164 []) (hQ : CQV p l e R s m args below meth c cX11_joinRow D cA A n0 s0 QM σi Q) (hX : CX p l e R s m args below meth c 8 D cA A n0 s0 QM σi X) (hTh : CT p l e R s m args below meth c cX11_joinRow 8 D cA A n0 s0 QM σi RX11 X) {K49 : Sg → Option Nat → Option Nat → Int → Option Nat → Option Nat → Prop} (hK49 : ∀ (σ : Sg) (v1 : Option Nat) (v2 : Option Nat) (v3 : Int) (v4 : Option Nat) (v5 : Option Nat) (g1 : tyV σ 5 v1) (g2 : tyV σ 10 v2) (g3 : rng v3) (g4 : tyV σ 0 v4) (g5 : tyV σ 0 v5), K49 σ v1 v2 v3 v4 v5 → RG σ → TY σ → Ext σi σ → kO σ th 11 → JJ p l e R s m args below meth c 8 D cA A n0 s0 QM σ 49 [(0, .ref th), (1, va_rf v1), (2, va_rf v2), (3, .int (i32 v3)), (4, va_rf v4), (5, va_rf v5)] []) : ∀ (σ : Sg) (v1 : Option Nat) (v2 : Option Nat) (v3 : Int) (v4 : Option Nat) (v5 : Option Nat) (u0 : Option Nat) (u1 : Option Nat) (u2 : Option Nat) (g1 : tyV σ 5 v1) (g2 : tyV σ 10 v2) (g3 : rng v3) (g4 : tyV σ 0 v4) (g5 : tyV σ 0 v5) (gu0 : tyV σ 0 u0) (gu1 : tyV σ 0 u1) (gu2 : tyV σ 5 u2), w_X11_joinRow_145 th K49 Q X σ v1 v2 v3 v4 v5 u0 u1 u2 → RG σ → TY σ → Ext σi σ → kO σ th 11 → JJ p l e R s m args below meth c 8 D cA A n0 s0 QM σ 145 [(0, .ref th), (1, va_rf v1), (2, va_rf v2), (3, .int (i32 v3)), (4, va_rf v4), (5, va_rf v5)] [va_rf u0, va_rf u1, va_rf u2, .ref th] := by
  intro σ v1 v2 v3 v4 v5 u0 u1 u2 g1 g2 g3 g4 g5 gu0 gu1 gu2 h hGσ hYσ hE hth H locs ls hH hl hc
  have B := K.1
  have hl9 := K.2.2.2.2.2.2
  unfold w_X11_joinRow_145 at h
  refine lv_aloadQ B.1 B.2.1 dX11_joinRow_145 (lv_at hl 5 rfl) ?_
  obtain ⟨a53, ea53, h⟩ := h
  have ka53 : kO σ a53 0 := g5 a53 ea53
  have h := h ka53
  refine W.eq (g2 := F0 m 147 ls [.ref a53, va_rf u0, va_rf u1, va_rf u2, .ref th]) (by rw [ea53]; rfl) ?_
  refine f_getl B hH ka53 (by decide) rfl wu_X0 5 (by decide) wf_X11_85 rfl rfl dX11_joinRow_147 ?_
  refine lv_aloadQ B.1 B.2.1 dX11_joinRow_150 (lv_at hl 4 rfl) ?_
  obtain ⟨a54, ea54, h⟩ := h
  have ka54 : kO σ a54 0 := g4 a54 ea54
  have h := h ka54
  refine W.eq (g2 := F0 m 152 ls [.ref a54, .long (gJ σ a53 5), va_rf u0, va_rf u1, va_rf u2, .ref th]) (by rw [ea54]; rfl) ?_
  refine f_getl B hH ka54 (by decide) rfl wu_X0 5 (by decide) wf_X11_85 rfl rfl dX11_joinRow_152 ?_
  refine c_S B hH hl hc K.2.2.1 (As := [.long (gJ σ a53 5), .long (gJ σ a54 5)]) (okC_J9_max_f86c9 hl9 K.2.1 σ (gJ σ a53 5) (gJ σ a54 5) hGσ hYσ h) wc_X11_245 2 hdC_J9_max_f86c9 ⟨Nat.le_trans (Nat.le_of_ble_eq_true rfl) K.2.2.2.1, Nat.le_trans (Nat.le_of_ble_eq_true rfl) K.2.2.2.2.1⟩ rfl (rest := [va_rf u0, va_rf u1, va_rf u2, .ref th]) rfl (by simp only [List.map_cons, List.map_nil, rf_cat]; exact Nat.le_of_ble_eq_true rfl) dX11_joinRow_155 (fun σ55 w hq => ?_) (fun σ9 E9 hx9 => hX σ9 E9 _ _ _ (tb_out K.2.2.2.2.2.1 rfl) hx9.1 hx9.2.1 hx9.2.2.1 (hE.trans hx9.2.2.2))
  obtain ⟨r56, rfl, h, hGσ55, hYσ55, xσ55⟩ := hq
  have h := h xσ55
  intro H locs ls hH hl hc
  refine W.eq (g2 := F0 m 158 ls [.long r56, va_rf u0, va_rf u1, va_rf u2, .ref th]) (rfl) ?_
  try dsimp only at h
  refine W.eq (g2 := F0 m 158 ls [.long r56, va_rf u0, va_rf u1, va_rf u2, .ref th]) (rfl) ?_
  refine c_V B hH hl hc K.2.2.1 (C := RX11) (T := TX11) (N := 6) (ci := 11) (As := [va_rf u2, va_rf u1, va_rf u0, .long r56]) (ok_X11_addPair hl9 K.2.1 σ55 th u2 u1 u0 r56 (gu2.up xσ55) (gu1.up xσ55) (gu0.up xσ55) (hth.up xσ55) hGσ55 hYσ55 h) wc_X11_253 4 hd_X11_addPair ⟨Nat.le_trans (Nat.le_of_ble_eq_true rfl) K.2.2.2.1, Nat.le_trans (Nat.le_of_ble_eq_true rfl) K.2.2.2.2.1⟩ (hth.up xσ55).1 (hth.up xσ55).2 (by decide) rfl rfl (rest := []) rfl (Nat.le_of_ble_eq_true rfl) dX11_joinRow_158 (fun σ57 w hq => ?_) (fun σ9 E9 hx9 => hX σ9 E9 _ _ _ (tb_out K.2.2.2.2.2.1 rfl) hx9.1 hx9.2.1 hx9.2.2.1 ((hE.trans xσ55).trans hx9.2.2.2))
  obtain ⟨rfl, h, hGσ57, hYσ57, xσ57⟩ := hq
  have h := h xσ57
  intro H locs ls hH hl hc
  refine W.eq (g2 := F0 m 161 ls []) (rfl) ?_
  try dsimp only at h
  exact a_X11_joinRow_161 K hQ hX hTh hK49 _ _ _ _ _ _ (g1.up (xσ55.trans xσ57)) (g2.up (xσ55.trans xσ57)) g3 (g4.up (xσ55.trans xσ57)) (g5.up (xσ55.trans xσ57)) h hGσ57 hYσ57 ((hE.trans xσ55).trans xσ57) (hth.up (xσ55.trans xσ57)) _ _ _ hH (lv_sub (l' := [(0, .ref th), (1, va_rf v1), (2, va_rf v2), (3, .int (i32 v3)), (4, va_rf v4), (5, va_rf v5)]) hl [0, 1, 2, 3, 4, 5] rfl) hc
set_option maxRecDepth 20000 in
theorem a_X11_joinRow_143 {Q : Sg → Unit → Prop} {X : Sg → String → Prop} {th : Nat} (K : MD l R p s m args c cX11_joinRow 8 RX11 D cA tys A n0 s0 9 164 []) (hQ : CQV p l e R s m args below meth c cX11_joinRow D cA A n0 s0 QM σi Q) (hX : CX p l e R s m args below meth c 8 D cA A n0 s0 QM σi X) (hTh : CT p l e R s m args below meth c cX11_joinRow 8 D cA A n0 s0 QM σi RX11 X) {K49 : Sg → Option Nat → Option Nat → Int → Option Nat → Option Nat → Prop} (hK49 : ∀ (σ : Sg) (v1 : Option Nat) (v2 : Option Nat) (v3 : Int) (v4 : Option Nat) (v5 : Option Nat) (g1 : tyV σ 5 v1) (g2 : tyV σ 10 v2) (g3 : rng v3) (g4 : tyV σ 0 v4) (g5 : tyV σ 0 v5), K49 σ v1 v2 v3 v4 v5 → RG σ → TY σ → Ext σi σ → kO σ th 11 → JJ p l e R s m args below meth c 8 D cA A n0 s0 QM σ 49 [(0, .ref th), (1, va_rf v1), (2, va_rf v2), (3, .int (i32 v3)), (4, va_rf v4), (5, va_rf v5)] []) : ∀ (σ : Sg) (v1 : Option Nat) (v2 : Option Nat) (v3 : Int) (v4 : Option Nat) (v5 : Option Nat) (u0 : Option Nat) (u1 : Option Nat) (g1 : tyV σ 5 v1) (g2 : tyV σ 10 v2) (g3 : rng v3) (g4 : tyV σ 0 v4) (g5 : tyV σ 0 v5) (gu0 : tyV σ 0 u0) (gu1 : tyV σ 5 u1), w_X11_joinRow_143 th K49 Q X σ v1 v2 v3 v4 v5 u0 u1 → RG σ → TY σ → Ext σi σ → kO σ th 11 → JJ p l e R s m args below meth c 8 D cA A n0 s0 QM σ 143 [(0, .ref th), (1, va_rf v1), (2, va_rf v2), (3, .int (i32 v3)), (4, va_rf v4), (5, va_rf v5)] [va_rf u0, va_rf u1, .ref th] := by
  intro σ v1 v2 v3 v4 v5 u0 u1 g1 g2 g3 g4 g5 gu0 gu1 h hGσ hYσ hE hth H locs ls hH hl hc
  have B := K.1
  have hl9 := K.2.2.2.2.2.2
  unfold w_X11_joinRow_143 at h
  refine lv_aloadQ B.1 B.2.1 dX11_joinRow_143 (lv_at hl 4 rfl) ?_
  exact a_X11_joinRow_145 K hQ hX hTh hK49 _ _ _ _ _ _ _ _ _ g1 g2 g3 g4 g5 g4 gu0 gu1 h hGσ hYσ hE hth _ _ _ hH (lv_sub (l' := [(0, .ref th), (1, va_rf v1), (2, va_rf v2), (3, .int (i32 v3)), (4, va_rf v4), (5, va_rf v5)]) hl [0, 1, 2, 3, 4, 5] rfl) hc
set_option maxRecDepth 20000 in
theorem a_X11_joinRow_138 {Q : Sg → Unit → Prop} {X : Sg → String → Prop} {th : Nat} (K : MD l R p s m args c cX11_joinRow 8 RX11 D cA tys A n0 s0 9 164 []) (hQ : CQV p l e R s m args below meth c cX11_joinRow D cA A n0 s0 QM σi Q) (hX : CX p l e R s m args below meth c 8 D cA A n0 s0 QM σi X) (hTh : CT p l e R s m args below meth c cX11_joinRow 8 D cA A n0 s0 QM σi RX11 X) {K49 : Sg → Option Nat → Option Nat → Int → Option Nat → Option Nat → Prop} (hK49 : ∀ (σ : Sg) (v1 : Option Nat) (v2 : Option Nat) (v3 : Int) (v4 : Option Nat) (v5 : Option Nat) (g1 : tyV σ 5 v1) (g2 : tyV σ 10 v2) (g3 : rng v3) (g4 : tyV σ 0 v4) (g5 : tyV σ 0 v5), K49 σ v1 v2 v3 v4 v5 → RG σ → TY σ → Ext σi σ → kO σ th 11 → JJ p l e R s m args below meth c 8 D cA A n0 s0 QM σ 49 [(0, .ref th), (1, va_rf v1), (2, va_rf v2), (3, .int (i32 v3)), (4, va_rf v4), (5, va_rf v5)] []) : ∀ (σ : Sg) (v1 : Option Nat) (v2 : Option Nat) (v3 : Int) (v4 : Option Nat) (v5 : Option Nat) (u0 : Option Nat) (u1 : Option Nat) (g1 : tyV σ 5 v1) (g2 : tyV σ 10 v2) (g3 : rng v3) (g4 : tyV σ 0 v4) (g5 : tyV σ 0 v5) (gu0 : tyV σ 0 u0) (gu1 : tyV σ 5 u1), w_X11_joinRow_138 th K49 Q X σ v1 v2 v3 v4 v5 u0 u1 → RG σ → TY σ → Ext σi σ → kO σ th 11 → JJ p l e R s m args below meth c 8 D cA A n0 s0 QM σ 138 [(0, .ref th), (1, va_rf v1), (2, va_rf v2), (3, .int (i32 v3)), (4, va_rf v4), (5, va_rf v5)] [va_rf u0, va_rf u1, .ref th] := by
  intro σ v1 v2 v3 v4 v5 u0 u1 g1 g2 g3 g4 g5 gu0 gu1 h hGσ hYσ hE hth H locs ls hH hl hc
  have B := K.1
  have hl9 := K.2.2.2.2.2.2
  unfold w_X11_joinRow_138 at h
  refine lv_aloadQ B.1 B.2.1 dX11_joinRow_138 (lv_at hl 5 rfl) ?_
  refine lv_goto (tgt := 145) B.1 B.2.1 dX11_joinRow_140 (by decide) ?_
  exact a_X11_joinRow_145 K hQ hX hTh hK49 _ _ _ _ _ _ _ _ _ g1 g2 g3 g4 g5 g5 gu0 gu1 h hGσ hYσ hE hth _ _ _ hH (lv_sub (l' := [(0, .ref th), (1, va_rf v1), (2, va_rf v2), (3, .int (i32 v3)), (4, va_rf v4), (5, va_rf v5)]) hl [0, 1, 2, 3, 4, 5] rfl) hc
set_option maxRecDepth 20000 in
theorem a_X11_joinRow_134 {Q : Sg → Unit → Prop} {X : Sg → String → Prop} {th : Nat} (K : MD l R p s m args c cX11_joinRow 8 RX11 D cA tys A n0 s0 9 164 []) (hQ : CQV p l e R s m args below meth c cX11_joinRow D cA A n0 s0 QM σi Q) (hX : CX p l e R s m args below meth c 8 D cA A n0 s0 QM σi X) (hTh : CT p l e R s m args below meth c cX11_joinRow 8 D cA A n0 s0 QM σi RX11 X) {K49 : Sg → Option Nat → Option Nat → Int → Option Nat → Option Nat → Prop} (hK49 : ∀ (σ : Sg) (v1 : Option Nat) (v2 : Option Nat) (v3 : Int) (v4 : Option Nat) (v5 : Option Nat) (g1 : tyV σ 5 v1) (g2 : tyV σ 10 v2) (g3 : rng v3) (g4 : tyV σ 0 v4) (g5 : tyV σ 0 v5), K49 σ v1 v2 v3 v4 v5 → RG σ → TY σ → Ext σi σ → kO σ th 11 → JJ p l e R s m args below meth c 8 D cA A n0 s0 QM σ 49 [(0, .ref th), (1, va_rf v1), (2, va_rf v2), (3, .int (i32 v3)), (4, va_rf v4), (5, va_rf v5)] []) : ∀ (σ : Sg) (v1 : Option Nat) (v2 : Option Nat) (v3 : Int) (v4 : Option Nat) (v5 : Option Nat) (u0 : Option Nat) (u1 : Option Nat) (g1 : tyV σ 5 v1) (g2 : tyV σ 10 v2) (g3 : rng v3) (g4 : tyV σ 0 v4) (g5 : tyV σ 0 v5) (gu0 : tyV σ 0 u0) (gu1 : tyV σ 5 u1), w_X11_joinRow_134 th K49 Q X σ v1 v2 v3 v4 v5 u0 u1 → RG σ → TY σ → Ext σi σ → kO σ th 11 → JJ p l e R s m args below meth c 8 D cA A n0 s0 QM σ 134 [(0, .ref th), (1, va_rf v1), (2, va_rf v2), (3, .int (i32 v3)), (4, va_rf v4), (5, va_rf v5)] [va_rf u0, va_rf u1, .ref th] := by
  intro σ v1 v2 v3 v4 v5 u0 u1 g1 g2 g3 g4 g5 gu0 gu1 h hGσ hYσ hE hth H locs ls hH hl hc
  have B := K.1
  have hl9 := K.2.2.2.2.2.2
  unfold w_X11_joinRow_134 at h
  refine lv_iload_n B.1 B.2.1 dX11_joinRow_134 rfl (lv_at hl 3 rfl) ?_
  refine lv_if_ne (tgt := 143) B.1 B.2.1 dX11_joinRow_135 (by decide) (fun h9 => ?_) (fun h9 => ?_)
  · rw [if_pos (fun q => h9 ((z_eq g3).mpr q))] at h
    exact a_X11_joinRow_143 K hQ hX hTh hK49 _ _ _ _ _ _ _ _ g1 g2 g3 g4 g5 gu0 gu1 h hGσ hYσ hE hth _ _ _ hH (lv_sub (l' := [(0, .ref th), (1, va_rf v1), (2, va_rf v2), (3, .int (i32 v3)), (4, va_rf v4), (5, va_rf v5)]) hl [0, 1, 2, 3, 4, 5] rfl) hc
  · rw [if_neg (fun q => q ((z_eq g3).mp h9))] at h
    exact a_X11_joinRow_138 K hQ hX hTh hK49 _ _ _ _ _ _ _ _ g1 g2 g3 g4 g5 gu0 gu1 h hGσ hYσ hE hth _ _ _ hH (lv_sub (l' := [(0, .ref th), (1, va_rf v1), (2, va_rf v2), (3, .int (i32 v3)), (4, va_rf v4), (5, va_rf v5)]) hl [0, 1, 2, 3, 4, 5] rfl) hc
set_option maxRecDepth 20000 in
theorem a_X11_joinRow_132 {Q : Sg → Unit → Prop} {X : Sg → String → Prop} {th : Nat} (K : MD l R p s m args c cX11_joinRow 8 RX11 D cA tys A n0 s0 9 164 []) (hQ : CQV p l e R s m args below meth c cX11_joinRow D cA A n0 s0 QM σi Q) (hX : CX p l e R s m args below meth c 8 D cA A n0 s0 QM σi X) (hTh : CT p l e R s m args below meth c cX11_joinRow 8 D cA A n0 s0 QM σi RX11 X) {K49 : Sg → Option Nat → Option Nat → Int → Option Nat → Option Nat → Prop} (hK49 : ∀ (σ : Sg) (v1 : Option Nat) (v2 : Option Nat) (v3 : Int) (v4 : Option Nat) (v5 : Option Nat) (g1 : tyV σ 5 v1) (g2 : tyV σ 10 v2) (g3 : rng v3) (g4 : tyV σ 0 v4) (g5 : tyV σ 0 v5), K49 σ v1 v2 v3 v4 v5 → RG σ → TY σ → Ext σi σ → kO σ th 11 → JJ p l e R s m args below meth c 8 D cA A n0 s0 QM σ 49 [(0, .ref th), (1, va_rf v1), (2, va_rf v2), (3, .int (i32 v3)), (4, va_rf v4), (5, va_rf v5)] []) : ∀ (σ : Sg) (v1 : Option Nat) (v2 : Option Nat) (v3 : Int) (v4 : Option Nat) (v5 : Option Nat) (u0 : Option Nat) (g1 : tyV σ 5 v1) (g2 : tyV σ 10 v2) (g3 : rng v3) (g4 : tyV σ 0 v4) (g5 : tyV σ 0 v5) (gu0 : tyV σ 5 u0), w_X11_joinRow_132 th K49 Q X σ v1 v2 v3 v4 v5 u0 → RG σ → TY σ → Ext σi σ → kO σ th 11 → JJ p l e R s m args below meth c 8 D cA A n0 s0 QM σ 132 [(0, .ref th), (1, va_rf v1), (2, va_rf v2), (3, .int (i32 v3)), (4, va_rf v4), (5, va_rf v5)] [va_rf u0, .ref th] := by
  intro σ v1 v2 v3 v4 v5 u0 g1 g2 g3 g4 g5 gu0 h hGσ hYσ hE hth H locs ls hH hl hc
  have B := K.1
  have hl9 := K.2.2.2.2.2.2
  unfold w_X11_joinRow_132 at h
  refine lv_aloadQ B.1 B.2.1 dX11_joinRow_132 (lv_at hl 5 rfl) ?_
  exact a_X11_joinRow_134 K hQ hX hTh hK49 _ _ _ _ _ _ _ _ g1 g2 g3 g4 g5 g5 gu0 h hGσ hYσ hE hth _ _ _ hH (lv_sub (l' := [(0, .ref th), (1, va_rf v1), (2, va_rf v2), (3, .int (i32 v3)), (4, va_rf v4), (5, va_rf v5)]) hl [0, 1, 2, 3, 4, 5] rfl) hc
set_option maxRecDepth 20000 in
theorem a_X11_joinRow_127 {Q : Sg → Unit → Prop} {X : Sg → String → Prop} {th : Nat} (K : MD l R p s m args c cX11_joinRow 8 RX11 D cA tys A n0 s0 9 164 []) (hQ : CQV p l e R s m args below meth c cX11_joinRow D cA A n0 s0 QM σi Q) (hX : CX p l e R s m args below meth c 8 D cA A n0 s0 QM σi X) (hTh : CT p l e R s m args below meth c cX11_joinRow 8 D cA A n0 s0 QM σi RX11 X) {K49 : Sg → Option Nat → Option Nat → Int → Option Nat → Option Nat → Prop} (hK49 : ∀ (σ : Sg) (v1 : Option Nat) (v2 : Option Nat) (v3 : Int) (v4 : Option Nat) (v5 : Option Nat) (g1 : tyV σ 5 v1) (g2 : tyV σ 10 v2) (g3 : rng v3) (g4 : tyV σ 0 v4) (g5 : tyV σ 0 v5), K49 σ v1 v2 v3 v4 v5 → RG σ → TY σ → Ext σi σ → kO σ th 11 → JJ p l e R s m args below meth c 8 D cA A n0 s0 QM σ 49 [(0, .ref th), (1, va_rf v1), (2, va_rf v2), (3, .int (i32 v3)), (4, va_rf v4), (5, va_rf v5)] []) : ∀ (σ : Sg) (v1 : Option Nat) (v2 : Option Nat) (v3 : Int) (v4 : Option Nat) (v5 : Option Nat) (u0 : Option Nat) (g1 : tyV σ 5 v1) (g2 : tyV σ 10 v2) (g3 : rng v3) (g4 : tyV σ 0 v4) (g5 : tyV σ 0 v5) (gu0 : tyV σ 5 u0), w_X11_joinRow_127 th K49 Q X σ v1 v2 v3 v4 v5 u0 → RG σ → TY σ → Ext σi σ → kO σ th 11 → JJ p l e R s m args below meth c 8 D cA A n0 s0 QM σ 127 [(0, .ref th), (1, va_rf v1), (2, va_rf v2), (3, .int (i32 v3)), (4, va_rf v4), (5, va_rf v5)] [va_rf u0, .ref th] := by
  intro σ v1 v2 v3 v4 v5 u0 g1 g2 g3 g4 g5 gu0 h hGσ hYσ hE hth H locs ls hH hl hc
  have B := K.1
  have hl9 := K.2.2.2.2.2.2
  unfold w_X11_joinRow_127 at h
  refine lv_aloadQ B.1 B.2.1 dX11_joinRow_127 (lv_at hl 4 rfl) ?_
  refine lv_goto (tgt := 134) B.1 B.2.1 dX11_joinRow_129 (by decide) ?_
  exact a_X11_joinRow_134 K hQ hX hTh hK49 _ _ _ _ _ _ _ _ g1 g2 g3 g4 g5 g4 gu0 h hGσ hYσ hE hth _ _ _ hH (lv_sub (l' := [(0, .ref th), (1, va_rf v1), (2, va_rf v2), (3, .int (i32 v3)), (4, va_rf v4), (5, va_rf v5)]) hl [0, 1, 2, 3, 4, 5] rfl) hc
set_option maxRecDepth 20000 in
theorem a_X11_joinRow_121 {Q : Sg → Unit → Prop} {X : Sg → String → Prop} {th : Nat} (K : MD l R p s m args c cX11_joinRow 8 RX11 D cA tys A n0 s0 9 164 []) (hQ : CQV p l e R s m args below meth c cX11_joinRow D cA A n0 s0 QM σi Q) (hX : CX p l e R s m args below meth c 8 D cA A n0 s0 QM σi X) (hTh : CT p l e R s m args below meth c cX11_joinRow 8 D cA A n0 s0 QM σi RX11 X) {K49 : Sg → Option Nat → Option Nat → Int → Option Nat → Option Nat → Prop} (hK49 : ∀ (σ : Sg) (v1 : Option Nat) (v2 : Option Nat) (v3 : Int) (v4 : Option Nat) (v5 : Option Nat) (g1 : tyV σ 5 v1) (g2 : tyV σ 10 v2) (g3 : rng v3) (g4 : tyV σ 0 v4) (g5 : tyV σ 0 v5), K49 σ v1 v2 v3 v4 v5 → RG σ → TY σ → Ext σi σ → kO σ th 11 → JJ p l e R s m args below meth c 8 D cA A n0 s0 QM σ 49 [(0, .ref th), (1, va_rf v1), (2, va_rf v2), (3, .int (i32 v3)), (4, va_rf v4), (5, va_rf v5)] []) : ∀ (σ : Sg) (v1 : Option Nat) (v2 : Option Nat) (v3 : Int) (v4 : Option Nat) (v5 : Option Nat) (g1 : tyV σ 5 v1) (g2 : tyV σ 10 v2) (g3 : rng v3) (g4 : tyV σ 0 v4) (g5 : tyV σ 0 v5), w_X11_joinRow_121 th K49 Q X σ v1 v2 v3 v4 v5 → RG σ → TY σ → Ext σi σ → kO σ th 11 → JJ p l e R s m args below meth c 8 D cA A n0 s0 QM σ 121 [(0, .ref th), (1, va_rf v1), (2, va_rf v2), (3, .int (i32 v3)), (4, va_rf v4), (5, va_rf v5)] [] := by
  intro σ v1 v2 v3 v4 v5 g1 g2 g3 g4 g5 h hGσ hYσ hE hth H locs ls hH hl hc
  have B := K.1
  have hl9 := K.2.2.2.2.2.2
  unfold w_X11_joinRow_121 at h
  refine lv_aload_n B.1 B.2.1 dX11_joinRow_121 rfl (lv_at hl 0 rfl) ?_
  refine lv_aload_nQ B.1 B.2.1 dX11_joinRow_122 rfl (lv_at hl 1 rfl) ?_
  refine lv_iload_n B.1 B.2.1 dX11_joinRow_123 rfl (lv_at hl 3 rfl) ?_
  refine lv_if_ne (tgt := 132) B.1 B.2.1 dX11_joinRow_124 (by decide) (fun h9 => ?_) (fun h9 => ?_)
  · rw [if_pos (fun q => h9 ((z_eq g3).mpr q))] at h
    exact a_X11_joinRow_132 K hQ hX hTh hK49 _ _ _ _ _ _ _ g1 g2 g3 g4 g5 g1 h hGσ hYσ hE hth _ _ _ hH (lv_sub (l' := [(0, .ref th), (1, va_rf v1), (2, va_rf v2), (3, .int (i32 v3)), (4, va_rf v4), (5, va_rf v5)]) hl [0, 1, 2, 3, 4, 5] rfl) hc
  · rw [if_neg (fun q => q ((z_eq g3).mp h9))] at h
    exact a_X11_joinRow_127 K hQ hX hTh hK49 _ _ _ _ _ _ _ g1 g2 g3 g4 g5 g1 h hGσ hYσ hE hth _ _ _ hH (lv_sub (l' := [(0, .ref th), (1, va_rf v1), (2, va_rf v2), (3, .int (i32 v3)), (4, va_rf v4), (5, va_rf v5)]) hl [0, 1, 2, 3, 4, 5] rfl) hc
set_option maxRecDepth 20000 in
theorem a_X11_joinRow_110 {Q : Sg → Unit → Prop} {X : Sg → String → Prop} {th : Nat} (K : MD l R p s m args c cX11_joinRow 8 RX11 D cA tys A n0 s0 9 164 []) (hQ : CQV p l e R s m args below meth c cX11_joinRow D cA A n0 s0 QM σi Q) (hX : CX p l e R s m args below meth c 8 D cA A n0 s0 QM σi X) (hTh : CT p l e R s m args below meth c cX11_joinRow 8 D cA A n0 s0 QM σi RX11 X) {K49 : Sg → Option Nat → Option Nat → Int → Option Nat → Option Nat → Prop} (hK49 : ∀ (σ : Sg) (v1 : Option Nat) (v2 : Option Nat) (v3 : Int) (v4 : Option Nat) (v5 : Option Nat) (g1 : tyV σ 5 v1) (g2 : tyV σ 10 v2) (g3 : rng v3) (g4 : tyV σ 0 v4) (g5 : tyV σ 0 v5), K49 σ v1 v2 v3 v4 v5 → RG σ → TY σ → Ext σi σ → kO σ th 11 → JJ p l e R s m args below meth c 8 D cA A n0 s0 QM σ 49 [(0, .ref th), (1, va_rf v1), (2, va_rf v2), (3, .int (i32 v3)), (4, va_rf v4), (5, va_rf v5)] []) : ∀ (σ : Sg) (v1 : Option Nat) (v2 : Option Nat) (v3 : Int) (v4 : Option Nat) (v5 : Option Nat) (v6 : Int64) (g1 : tyV σ 5 v1) (g2 : tyV σ 10 v2) (g3 : rng v3) (g4 : tyV σ 0 v4) (g5 : tyV σ 0 v5), w_X11_joinRow_110 th K49 Q X σ v1 v2 v3 v4 v5 v6 → RG σ → TY σ → Ext σi σ → kO σ th 11 → JJ p l e R s m args below meth c 8 D cA A n0 s0 QM σ 110 [(0, .ref th), (1, va_rf v1), (2, va_rf v2), (3, .int (i32 v3)), (4, va_rf v4), (5, va_rf v5), (6, .long v6)] [] := by
  intro σ v1 v2 v3 v4 v5 v6 g1 g2 g3 g4 g5 h hGσ hYσ hE hth H locs ls hH hl hc
  have B := K.1
  have hl9 := K.2.2.2.2.2.2
  unfold w_X11_joinRow_110 at h
  refine lv_lload B.1 B.2.1 dX11_joinRow_110 (lv_at hl 6 rfl) ?_
  refine lv_aload_nQ B.1 B.2.1 dX11_joinRow_112 rfl (lv_at hl 1 rfl) ?_
  obtain ⟨a58, ea58, h⟩ := h
  have ka58 : kO σ a58 5 := g1 a58 ea58
  have h := h ka58
  refine W.eq (g2 := F0 m 113 ls [.ref a58, .long v6]) (by rw [ea58]; rfl) ?_
  refine f_geti B hH ka58 (by decide) rfl wu_X5 16 (by decide) wf_X11_110 rfl rfl dX11_joinRow_113 ?_
  refine lv_i2l B.1 B.2.1 dX11_joinRow_116 (i32_i64 (hGσ _ _)) ?_
  refine W.lcmp B.1 B.2.1 dX11_joinRow_117 ?_
  refine lv_if_gt (tgt := 161) B.1 B.2.1 dX11_joinRow_118 (by decide) (fun h9 => ?_) (fun h9 => ?_)
  · rw [if_pos ((lg_cmp_gt _ _).mp h9)] at h
    exact a_X11_joinRow_161 K hQ hX hTh hK49 _ _ _ _ _ _ g1 g2 g3 g4 g5 h hGσ hYσ hE hth _ _ _ hH (lv_sub (l' := [(0, .ref th), (1, va_rf v1), (2, va_rf v2), (3, .int (i32 v3)), (4, va_rf v4), (5, va_rf v5)]) hl [0, 1, 2, 3, 4, 5] rfl) hc
  · rw [if_neg (fun q => h9 ((lg_cmp_gt _ _).mpr q))] at h
    exact a_X11_joinRow_121 K hQ hX hTh hK49 _ _ _ _ _ _ g1 g2 g3 g4 g5 h hGσ hYσ hE hth _ _ _ hH (lv_sub (l' := [(0, .ref th), (1, va_rf v1), (2, va_rf v2), (3, .int (i32 v3)), (4, va_rf v4), (5, va_rf v5)]) hl [0, 1, 2, 3, 4, 5] rfl) hc
set_option maxRecDepth 20000 in
theorem a_X11_joinRow_99 {Q : Sg → Unit → Prop} {X : Sg → String → Prop} {th : Nat} (K : MD l R p s m args c cX11_joinRow 8 RX11 D cA tys A n0 s0 9 164 []) (hQ : CQV p l e R s m args below meth c cX11_joinRow D cA A n0 s0 QM σi Q) (hX : CX p l e R s m args below meth c 8 D cA A n0 s0 QM σi X) (hTh : CT p l e R s m args below meth c cX11_joinRow 8 D cA A n0 s0 QM σi RX11 X) {K49 : Sg → Option Nat → Option Nat → Int → Option Nat → Option Nat → Prop} (hK49 : ∀ (σ : Sg) (v1 : Option Nat) (v2 : Option Nat) (v3 : Int) (v4 : Option Nat) (v5 : Option Nat) (g1 : tyV σ 5 v1) (g2 : tyV σ 10 v2) (g3 : rng v3) (g4 : tyV σ 0 v4) (g5 : tyV σ 0 v5), K49 σ v1 v2 v3 v4 v5 → RG σ → TY σ → Ext σi σ → kO σ th 11 → JJ p l e R s m args below meth c 8 D cA A n0 s0 QM σ 49 [(0, .ref th), (1, va_rf v1), (2, va_rf v2), (3, .int (i32 v3)), (4, va_rf v4), (5, va_rf v5)] []) : ∀ (σ : Sg) (v1 : Option Nat) (v2 : Option Nat) (v3 : Int) (v4 : Option Nat) (v5 : Option Nat) (v6 : Int64) (g1 : tyV σ 5 v1) (g2 : tyV σ 10 v2) (g3 : rng v3) (g4 : tyV σ 0 v4) (g5 : tyV σ 0 v5), w_X11_joinRow_99 th K49 Q X σ v1 v2 v3 v4 v5 v6 → RG σ → TY σ → Ext σi σ → kO σ th 11 → JJ p l e R s m args below meth c 8 D cA A n0 s0 QM σ 99 [(0, .ref th), (1, va_rf v1), (2, va_rf v2), (3, .int (i32 v3)), (4, va_rf v4), (5, va_rf v5), (6, .long v6)] [] := by
  intro σ v1 v2 v3 v4 v5 v6 g1 g2 g3 g4 g5 h hGσ hYσ hE hth H locs ls hH hl hc
  have B := K.1
  have hl9 := K.2.2.2.2.2.2
  unfold w_X11_joinRow_99 at h
  refine lv_lload B.1 B.2.1 dX11_joinRow_99 (lv_at hl 6 rfl) ?_
  refine lv_aload_nQ B.1 B.2.1 dX11_joinRow_101 rfl (lv_at hl 1 rfl) ?_
  obtain ⟨a59, ea59, h⟩ := h
  have ka59 : kO σ a59 5 := g1 a59 ea59
  have h := h ka59
  refine W.eq (g2 := F0 m 102 ls [.ref a59, .long v6]) (by rw [ea59]; rfl) ?_
  refine f_geti B hH ka59 (by decide) rfl wu_X5 15 (by decide) wf_X11_120 rfl rfl dX11_joinRow_102 ?_
  refine lv_i2l B.1 B.2.1 dX11_joinRow_105 (i32_i64 (hGσ _ _)) ?_
  refine W.lcmp B.1 B.2.1 dX11_joinRow_106 ?_
  refine lv_if_lt (tgt := 161) B.1 B.2.1 dX11_joinRow_107 (by decide) (fun h9 => ?_) (fun h9 => ?_)
  · rw [if_pos ((lg_cmp_lt _ _).mp h9)] at h
    exact a_X11_joinRow_161 K hQ hX hTh hK49 _ _ _ _ _ _ g1 g2 g3 g4 g5 h hGσ hYσ hE hth _ _ _ hH (lv_sub (l' := [(0, .ref th), (1, va_rf v1), (2, va_rf v2), (3, .int (i32 v3)), (4, va_rf v4), (5, va_rf v5)]) hl [0, 1, 2, 3, 4, 5] rfl) hc
  · rw [if_neg (fun q => h9 ((lg_cmp_lt _ _).mpr q))] at h
    exact a_X11_joinRow_110 K hQ hX hTh hK49 _ _ _ _ _ _ _ g1 g2 g3 g4 g5 h hGσ hYσ hE hth _ _ _ hH (lv_sub (l' := [(0, .ref th), (1, va_rf v1), (2, va_rf v2), (3, .int (i32 v3)), (4, va_rf v4), (5, va_rf v5), (6, .long v6)]) hl [0, 1, 2, 3, 4, 5, 6] rfl) hc
set_option maxRecDepth 20000 in
theorem a_X11_joinRow_83 {Q : Sg → Unit → Prop} {X : Sg → String → Prop} {th : Nat} (K : MD l R p s m args c cX11_joinRow 8 RX11 D cA tys A n0 s0 9 164 []) (hQ : CQV p l e R s m args below meth c cX11_joinRow D cA A n0 s0 QM σi Q) (hX : CX p l e R s m args below meth c 8 D cA A n0 s0 QM σi X) (hTh : CT p l e R s m args below meth c cX11_joinRow 8 D cA A n0 s0 QM σi RX11 X) {K49 : Sg → Option Nat → Option Nat → Int → Option Nat → Option Nat → Prop} (hK49 : ∀ (σ : Sg) (v1 : Option Nat) (v2 : Option Nat) (v3 : Int) (v4 : Option Nat) (v5 : Option Nat) (g1 : tyV σ 5 v1) (g2 : tyV σ 10 v2) (g3 : rng v3) (g4 : tyV σ 0 v4) (g5 : tyV σ 0 v5), K49 σ v1 v2 v3 v4 v5 → RG σ → TY σ → Ext σi σ → kO σ th 11 → JJ p l e R s m args below meth c 8 D cA A n0 s0 QM σ 49 [(0, .ref th), (1, va_rf v1), (2, va_rf v2), (3, .int (i32 v3)), (4, va_rf v4), (5, va_rf v5)] []) : ∀ (σ : Sg) (v1 : Option Nat) (v2 : Option Nat) (v3 : Int) (v4 : Option Nat) (v5 : Option Nat) (u0 : Int64) (g1 : tyV σ 5 v1) (g2 : tyV σ 10 v2) (g3 : rng v3) (g4 : tyV σ 0 v4) (g5 : tyV σ 0 v5), w_X11_joinRow_83 th K49 Q X σ v1 v2 v3 v4 v5 u0 → RG σ → TY σ → Ext σi σ → kO σ th 11 → JJ p l e R s m args below meth c 8 D cA A n0 s0 QM σ 83 [(0, .ref th), (1, va_rf v1), (2, va_rf v2), (3, .int (i32 v3)), (4, va_rf v4), (5, va_rf v5)] [.long u0] := by
  intro σ v1 v2 v3 v4 v5 u0 g1 g2 g3 g4 g5 h hGσ hYσ hE hth H locs ls hH hl hc
  have B := K.1
  have hl9 := K.2.2.2.2.2.2
  unfold w_X11_joinRow_83 at h
  refine lv_lstore (lv' := [(6, .long u0), (0, .ref th), (1, va_rf v1), (2, va_rf v2), (3, .int (i32 v3)), (4, va_rf v4), (5, va_rf v5)]) B.1 B.2.1 dX11_joinRow_83 hl (by decide) (by generalize v5 = w9; cases w9 <;> rfl) (fun ls hl => ?_)
  refine lv_aloadQ B.1 B.2.1 dX11_joinRow_85 (lv_at hl 6 rfl) ?_
  obtain ⟨a60, ea60, h⟩ := h
  have ka60 : kO σ a60 0 := g5 a60 ea60
  have h := h ka60
  refine W.eq (g2 := F0 m 87 ls [.ref a60]) (by rw [ea60]; rfl) ?_
  refine f_getl B hH ka60 (by decide) rfl wu_X0 7 (by decide) wf_X11_72 rfl rfl dX11_joinRow_87 ?_
  refine lv_aloadQ B.1 B.2.1 dX11_joinRow_90 (lv_at hl 5 rfl) ?_
  obtain ⟨a61, ea61, h⟩ := h
  have ka61 : kO σ a61 0 := g4 a61 ea61
  have h := h ka61
  refine W.eq (g2 := F0 m 92 ls [.ref a61, .long (gJ σ a60 7)]) (by rw [ea61]; rfl) ?_
  refine f_getl B hH ka61 (by decide) rfl wu_X0 7 (by decide) wf_X11_72 rfl rfl dX11_joinRow_92 ?_
  refine W.lcmp B.1 B.2.1 dX11_joinRow_95 ?_
  refine lv_if_ne (tgt := 161) B.1 B.2.1 dX11_joinRow_96 (by decide) (fun h9 => ?_) (fun h9 => ?_)
  · rw [if_pos (fun q => h9 ((lg_cmp_eq _ _).mpr q))] at h
    exact a_X11_joinRow_161 K hQ hX hTh hK49 _ _ _ _ _ _ g1 g2 g3 g4 g5 h hGσ hYσ hE hth _ _ _ hH (lv_sub (l' := [(0, .ref th), (1, va_rf v1), (2, va_rf v2), (3, .int (i32 v3)), (4, va_rf v4), (5, va_rf v5)]) hl [1, 2, 3, 4, 5, 6] rfl) hc
  · rw [if_neg (fun q => q ((lg_cmp_eq _ _).mp h9))] at h
    exact a_X11_joinRow_99 K hQ hX hTh hK49 _ _ _ _ _ _ _ g1 g2 g3 g4 g5 h hGσ hYσ hE hth _ _ _ hH (lv_sub (l' := [(0, .ref th), (1, va_rf v1), (2, va_rf v2), (3, .int (i32 v3)), (4, va_rf v4), (5, va_rf v5), (6, .long u0)]) hl [1, 2, 3, 4, 5, 6, 0] rfl) hc
set_option maxRecDepth 20000 in
theorem a_X11_joinRow_72 {Q : Sg → Unit → Prop} {X : Sg → String → Prop} {th : Nat} (K : MD l R p s m args c cX11_joinRow 8 RX11 D cA tys A n0 s0 9 164 []) (hQ : CQV p l e R s m args below meth c cX11_joinRow D cA A n0 s0 QM σi Q) (hX : CX p l e R s m args below meth c 8 D cA A n0 s0 QM σi X) (hTh : CT p l e R s m args below meth c cX11_joinRow 8 D cA A n0 s0 QM σi RX11 X) {K49 : Sg → Option Nat → Option Nat → Int → Option Nat → Option Nat → Prop} (hK49 : ∀ (σ : Sg) (v1 : Option Nat) (v2 : Option Nat) (v3 : Int) (v4 : Option Nat) (v5 : Option Nat) (g1 : tyV σ 5 v1) (g2 : tyV σ 10 v2) (g3 : rng v3) (g4 : tyV σ 0 v4) (g5 : tyV σ 0 v5), K49 σ v1 v2 v3 v4 v5 → RG σ → TY σ → Ext σi σ → kO σ th 11 → JJ p l e R s m args below meth c 8 D cA A n0 s0 QM σ 49 [(0, .ref th), (1, va_rf v1), (2, va_rf v2), (3, .int (i32 v3)), (4, va_rf v4), (5, va_rf v5)] []) : ∀ (σ : Sg) (v1 : Option Nat) (v2 : Option Nat) (v3 : Int) (v4 : Option Nat) (v5 : Option Nat) (g1 : tyV σ 5 v1) (g2 : tyV σ 10 v2) (g3 : rng v3) (g4 : tyV σ 0 v4) (g5 : tyV σ 0 v5), w_X11_joinRow_72 th K49 Q X σ v1 v2 v3 v4 v5 → RG σ → TY σ → Ext σi σ → kO σ th 11 → JJ p l e R s m args below meth c 8 D cA A n0 s0 QM σ 72 [(0, .ref th), (1, va_rf v1), (2, va_rf v2), (3, .int (i32 v3)), (4, va_rf v4), (5, va_rf v5)] [] := by
  intro σ v1 v2 v3 v4 v5 g1 g2 g3 g4 g5 h hGσ hYσ hE hth H locs ls hH hl hc
  have B := K.1
  have hl9 := K.2.2.2.2.2.2
  unfold w_X11_joinRow_72 at h
  refine lv_aloadQ B.1 B.2.1 dX11_joinRow_72 (lv_at hl 4 rfl) ?_
  obtain ⟨a62, ea62, h⟩ := h
  have ka62 : kO σ a62 0 := g4 a62 ea62
  have h := h ka62
  refine W.eq (g2 := F0 m 74 ls [.ref a62]) (by rw [ea62]; rfl) ?_
  refine f_getl B hH ka62 (by decide) rfl wu_X0 5 (by decide) wf_X11_85 rfl rfl dX11_joinRow_74 ?_
  refine lv_aloadQ B.1 B.2.1 dX11_joinRow_77 (lv_at hl 5 rfl) ?_
  obtain ⟨a63, ea63, h⟩ := h
  have ka63 : kO σ a63 0 := g5 a63 ea63
  have h := h ka63
  refine W.eq (g2 := F0 m 79 ls [.ref a63, .long (gJ σ a62 5)]) (by rw [ea63]; rfl) ?_
  refine f_getl B hH ka63 (by decide) rfl wu_X0 5 (by decide) wf_X11_85 rfl rfl dX11_joinRow_79 ?_
  refine lv_lsub B.1 B.2.1 dX11_joinRow_82 ?_
  exact a_X11_joinRow_83 K hQ hX hTh hK49 _ _ _ _ _ _ _ g1 g2 g3 g4 g5 h hGσ hYσ hE hth _ _ _ hH (lv_sub (l' := [(0, .ref th), (1, va_rf v1), (2, va_rf v2), (3, .int (i32 v3)), (4, va_rf v4), (5, va_rf v5)]) hl [0, 1, 2, 3, 4, 5] rfl) hc
set_option maxRecDepth 20000 in
theorem a_X11_joinRow_58 {Q : Sg → Unit → Prop} {X : Sg → String → Prop} {th : Nat} (K : MD l R p s m args c cX11_joinRow 8 RX11 D cA tys A n0 s0 9 164 []) (hQ : CQV p l e R s m args below meth c cX11_joinRow D cA A n0 s0 QM σi Q) (hX : CX p l e R s m args below meth c 8 D cA A n0 s0 QM σi X) (hTh : CT p l e R s m args below meth c cX11_joinRow 8 D cA A n0 s0 QM σi RX11 X) {K49 : Sg → Option Nat → Option Nat → Int → Option Nat → Option Nat → Prop} (hK49 : ∀ (σ : Sg) (v1 : Option Nat) (v2 : Option Nat) (v3 : Int) (v4 : Option Nat) (v5 : Option Nat) (g1 : tyV σ 5 v1) (g2 : tyV σ 10 v2) (g3 : rng v3) (g4 : tyV σ 0 v4) (g5 : tyV σ 0 v5), K49 σ v1 v2 v3 v4 v5 → RG σ → TY σ → Ext σi σ → kO σ th 11 → JJ p l e R s m args below meth c 8 D cA A n0 s0 QM σ 49 [(0, .ref th), (1, va_rf v1), (2, va_rf v2), (3, .int (i32 v3)), (4, va_rf v4), (5, va_rf v5)] []) : ∀ (σ : Sg) (v1 : Option Nat) (v2 : Option Nat) (v3 : Int) (v4 : Option Nat) (v5 : Option Nat) (g1 : tyV σ 5 v1) (g2 : tyV σ 10 v2) (g3 : rng v3) (g4 : tyV σ 0 v4) (g5 : tyV σ 0 v5), w_X11_joinRow_58 th K49 Q X σ v1 v2 v3 v4 v5 → RG σ → TY σ → Ext σi σ → kO σ th 11 → JJ p l e R s m args below meth c 8 D cA A n0 s0 QM σ 58 [(0, .ref th), (1, va_rf v1), (2, va_rf v2), (3, .int (i32 v3)), (4, va_rf v4), (5, va_rf v5)] [] := by
  intro σ v1 v2 v3 v4 v5 g1 g2 g3 g4 g5 h hGσ hYσ hE hth H locs ls hH hl hc
  have B := K.1
  have hl9 := K.2.2.2.2.2.2
  unfold w_X11_joinRow_58 at h
  refine lv_aloadQ B.1 B.2.1 dX11_joinRow_58 (lv_at hl 5 rfl) ?_
  obtain ⟨a64, ea64, h⟩ := h
  have ka64 : kO σ a64 0 := g5 a64 ea64
  have h := h ka64
  refine W.eq (g2 := F0 m 60 ls [.ref a64]) (by rw [ea64]; rfl) ?_
  refine f_getl B hH ka64 (by decide) rfl wu_X0 5 (by decide) wf_X11_85 rfl rfl dX11_joinRow_60 ?_
  refine lv_aloadQ B.1 B.2.1 dX11_joinRow_63 (lv_at hl 4 rfl) ?_
  obtain ⟨a65, ea65, h⟩ := h
  have ka65 : kO σ a65 0 := g4 a65 ea65
  have h := h ka65
  refine W.eq (g2 := F0 m 65 ls [.ref a65, .long (gJ σ a64 5)]) (by rw [ea65]; rfl) ?_
  refine f_getl B hH ka65 (by decide) rfl wu_X0 5 (by decide) wf_X11_85 rfl rfl dX11_joinRow_65 ?_
  refine lv_lsub B.1 B.2.1 dX11_joinRow_68 ?_
  refine lv_goto (tgt := 83) B.1 B.2.1 dX11_joinRow_69 (by decide) ?_
  exact a_X11_joinRow_83 K hQ hX hTh hK49 _ _ _ _ _ _ _ g1 g2 g3 g4 g5 h hGσ hYσ hE hth _ _ _ hH (lv_sub (l' := [(0, .ref th), (1, va_rf v1), (2, va_rf v2), (3, .int (i32 v3)), (4, va_rf v4), (5, va_rf v5)]) hl [0, 1, 2, 3, 4, 5] rfl) hc
set_option maxRecDepth 20000 in
theorem a_X11_joinRow_54 {Q : Sg → Unit → Prop} {X : Sg → String → Prop} {th : Nat} (K : MD l R p s m args c cX11_joinRow 8 RX11 D cA tys A n0 s0 9 164 []) (hQ : CQV p l e R s m args below meth c cX11_joinRow D cA A n0 s0 QM σi Q) (hX : CX p l e R s m args below meth c 8 D cA A n0 s0 QM σi X) (hTh : CT p l e R s m args below meth c cX11_joinRow 8 D cA A n0 s0 QM σi RX11 X) {K49 : Sg → Option Nat → Option Nat → Int → Option Nat → Option Nat → Prop} (hK49 : ∀ (σ : Sg) (v1 : Option Nat) (v2 : Option Nat) (v3 : Int) (v4 : Option Nat) (v5 : Option Nat) (g1 : tyV σ 5 v1) (g2 : tyV σ 10 v2) (g3 : rng v3) (g4 : tyV σ 0 v4) (g5 : tyV σ 0 v5), K49 σ v1 v2 v3 v4 v5 → RG σ → TY σ → Ext σi σ → kO σ th 11 → JJ p l e R s m args below meth c 8 D cA A n0 s0 QM σ 49 [(0, .ref th), (1, va_rf v1), (2, va_rf v2), (3, .int (i32 v3)), (4, va_rf v4), (5, va_rf v5)] []) : ∀ (σ : Sg) (v1 : Option Nat) (v2 : Option Nat) (v3 : Int) (v4 : Option Nat) (v5 : Option Nat) (g1 : tyV σ 5 v1) (g2 : tyV σ 10 v2) (g3 : rng v3) (g4 : tyV σ 0 v4) (g5 : tyV σ 0 v5), w_X11_joinRow_54 th K49 Q X σ v1 v2 v3 v4 v5 → RG σ → TY σ → Ext σi σ → kO σ th 11 → JJ p l e R s m args below meth c 8 D cA A n0 s0 QM σ 54 [(0, .ref th), (1, va_rf v1), (2, va_rf v2), (3, .int (i32 v3)), (4, va_rf v4), (5, va_rf v5)] [] := by
  intro σ v1 v2 v3 v4 v5 g1 g2 g3 g4 g5 h hGσ hYσ hE hth H locs ls hH hl hc
  have B := K.1
  have hl9 := K.2.2.2.2.2.2
  unfold w_X11_joinRow_54 at h
  refine lv_iload_n B.1 B.2.1 dX11_joinRow_54 rfl (lv_at hl 3 rfl) ?_
  refine lv_if_ne (tgt := 72) B.1 B.2.1 dX11_joinRow_55 (by decide) (fun h9 => ?_) (fun h9 => ?_)
  · rw [if_pos (fun q => h9 ((z_eq g3).mpr q))] at h
    exact a_X11_joinRow_72 K hQ hX hTh hK49 _ _ _ _ _ _ g1 g2 g3 g4 g5 h hGσ hYσ hE hth _ _ _ hH (lv_sub (l' := [(0, .ref th), (1, va_rf v1), (2, va_rf v2), (3, .int (i32 v3)), (4, va_rf v4), (5, va_rf v5)]) hl [0, 1, 2, 3, 4, 5] rfl) hc
  · rw [if_neg (fun q => q ((z_eq g3).mp h9))] at h
    exact a_X11_joinRow_58 K hQ hX hTh hK49 _ _ _ _ _ _ g1 g2 g3 g4 g5 h hGσ hYσ hE hth _ _ _ hH (lv_sub (l' := [(0, .ref th), (1, va_rf v1), (2, va_rf v2), (3, .int (i32 v3)), (4, va_rf v4), (5, va_rf v5)]) hl [0, 1, 2, 3, 4, 5] rfl) hc
set_option maxRecDepth 20000 in
theorem a_X11_joinRow_49 {Q : Sg → Unit → Prop} {X : Sg → String → Prop} {th : Nat} (K : MD l R p s m args c cX11_joinRow 8 RX11 D cA tys A n0 s0 9 164 []) (hQ : CQV p l e R s m args below meth c cX11_joinRow D cA A n0 s0 QM σi Q) (hX : CX p l e R s m args below meth c 8 D cA A n0 s0 QM σi X) (hTh : CT p l e R s m args below meth c cX11_joinRow 8 D cA A n0 s0 QM σi RX11 X) {K49 : Sg → Option Nat → Option Nat → Int → Option Nat → Option Nat → Prop} (hK49 : ∀ (σ : Sg) (v1 : Option Nat) (v2 : Option Nat) (v3 : Int) (v4 : Option Nat) (v5 : Option Nat) (g1 : tyV σ 5 v1) (g2 : tyV σ 10 v2) (g3 : rng v3) (g4 : tyV σ 0 v4) (g5 : tyV σ 0 v5), K49 σ v1 v2 v3 v4 v5 → RG σ → TY σ → Ext σi σ → kO σ th 11 → JJ p l e R s m args below meth c 8 D cA A n0 s0 QM σ 49 [(0, .ref th), (1, va_rf v1), (2, va_rf v2), (3, .int (i32 v3)), (4, va_rf v4), (5, va_rf v5)] []) : ∀ (σ : Sg) (v1 : Option Nat) (v2 : Option Nat) (v3 : Int) (v4 : Option Nat) (v5 : Option Nat) (g1 : tyV σ 5 v1) (g2 : tyV σ 10 v2) (g3 : rng v3) (g4 : tyV σ 0 v4) (g5 : tyV σ 0 v5), w_X11_joinRow_49 th K49 Q X σ v1 v2 v3 v4 v5 → RG σ → TY σ → Ext σi σ → kO σ th 11 → JJ p l e R s m args below meth c 8 D cA A n0 s0 QM σ 49 [(0, .ref th), (1, va_rf v1), (2, va_rf v2), (3, .int (i32 v3)), (4, va_rf v4), (5, va_rf v5)] [] := by
  intro σ v1 v2 v3 v4 v5 g1 g2 g3 g4 g5 h hGσ hYσ hE hth H locs ls hH hl hc
  have B := K.1
  have hl9 := K.2.2.2.2.2.2
  unfold w_X11_joinRow_49 at h
  refine lv_aloadQ B.1 B.2.1 dX11_joinRow_49 (lv_at hl 5 rfl) ?_
  refine lv_ifnullQ (tgt := 171) B.1 B.2.1 dX11_joinRow_51 (by decide) (fun h9 => ?_) (fun h9 => ?_)
  · rw [if_pos (h9)] at h
    exact a_X11_joinRow_171 K hQ hX hTh _ _ _ _ _ g1 g2 g3 g4 h hGσ hYσ hE hth _ _ _ hH (lv_sub (l' := [(0, .ref th), (1, va_rf v1), (2, va_rf v2), (3, .int (i32 v3)), (4, va_rf v4)]) hl [0, 1, 2, 3, 4] rfl) hc
  · rw [if_neg (h9)] at h
    exact a_X11_joinRow_54 K hQ hX hTh hK49 _ _ _ _ _ _ g1 g2 g3 g4 g5 h hGσ hYσ hE hth _ _ _ hH (lv_sub (l' := [(0, .ref th), (1, va_rf v1), (2, va_rf v2), (3, .int (i32 v3)), (4, va_rf v4), (5, va_rf v5)]) hl [0, 1, 2, 3, 4, 5] rfl) hc
theorem al_X11_joinRow_49 {Q : Sg → Unit → Prop} {X : Sg → String → Prop} {th : Nat} (K : MD l R p s m args c cX11_joinRow 8 RX11 D cA tys A n0 s0 9 164 []) (hQ : CQV p l e R s m args below meth c cX11_joinRow D cA A n0 s0 QM σi Q) (hX : CX p l e R s m args below meth c 8 D cA A n0 s0 QM σi X) (hTh : CT p l e R s m args below meth c cX11_joinRow 8 D cA A n0 s0 QM σi RX11 X) : ∀ (n : Nat), ∀ (σ : Sg) (v1 : Option Nat) (v2 : Option Nat) (v3 : Int) (v4 : Option Nat) (v5 : Option Nat) (g1 : tyV σ 5 v1) (g2 : tyV σ 10 v2) (g3 : rng v3) (g4 : tyV σ 0 v4) (g5 : tyV σ 0 v5), wl_X11_joinRow_49 th Q X n σ v1 v2 v3 v4 v5 → RG σ → TY σ → Ext σi σ → kO σ th 11 → JJ p l e R s m args below meth c 8 D cA A n0 s0 QM σ 49 [(0, .ref th), (1, va_rf v1), (2, va_rf v2), (3, .int (i32 v3)), (4, va_rf v4), (5, va_rf v5)] [] := by
  intro n
  induction n with
  | zero => intro σ v1 v2 v3 v4 v5 g1 g2 g3 g4 g5 h; exact h.elim
  | succ n ih => exact fun σ v1 v2 v3 v4 v5 g1 g2 g3 g4 g5 h => a_X11_joinRow_49 K hQ hX hTh ih σ v1 v2 v3 v4 v5 g1 g2 g3 g4 g5 h
set_option maxRecDepth 20000 in
theorem a_X11_joinRow_47 {Q : Sg → Unit → Prop} {X : Sg → String → Prop} {th : Nat} (K : MD l R p s m args c cX11_joinRow 8 RX11 D cA tys A n0 s0 9 164 []) (hQ : CQV p l e R s m args below meth c cX11_joinRow D cA A n0 s0 QM σi Q) (hX : CX p l e R s m args below meth c 8 D cA A n0 s0 QM σi X) (hTh : CT p l e R s m args below meth c cX11_joinRow 8 D cA A n0 s0 QM σi RX11 X) : ∀ (σ : Sg) (v1 : Option Nat) (v2 : Option Nat) (v3 : Int) (v4 : Option Nat) (u0 : Option Nat) (g1 : tyV σ 5 v1) (g2 : tyV σ 10 v2) (g3 : rng v3) (g4 : tyV σ 0 v4) (gu0 : tyV σ 0 u0), w_X11_joinRow_47 th Q X σ v1 v2 v3 v4 u0 → RG σ → TY σ → Ext σi σ → kO σ th 11 → JJ p l e R s m args below meth c 8 D cA A n0 s0 QM σ 47 [(0, .ref th), (1, va_rf v1), (2, va_rf v2), (3, .int (i32 v3)), (4, va_rf v4)] [va_rf u0] := by
  intro σ v1 v2 v3 v4 u0 g1 g2 g3 g4 gu0 h hGσ hYσ hE hth H locs ls hH hl hc
  have B := K.1
  have hl9 := K.2.2.2.2.2.2
  unfold w_X11_joinRow_47 at h
  refine lv_astoreQ (lv' := [(5, va_rf u0), (0, .ref th), (1, va_rf v1), (2, va_rf v2), (3, .int (i32 v3)), (4, va_rf v4)]) B.1 B.2.1 dX11_joinRow_47 hl (by decide) (by generalize v4 = w9; cases w9 <;> rfl) (fun ls hl => ?_)
  obtain ⟨n9, h⟩ := h
  exact al_X11_joinRow_49 K hQ hX hTh n9 _ _ _ _ _ _ g1 g2 g3 g4 gu0 h hGσ hYσ hE hth _ _ _ hH (lv_sub (l' := [(0, .ref th), (1, va_rf v1), (2, va_rf v2), (3, .int (i32 v3)), (4, va_rf v4), (5, va_rf u0)]) hl [1, 2, 3, 4, 5, 0] rfl) hc
set_option maxRecDepth 20000 in
theorem a_X11_joinRow_40 {Q : Sg → Unit → Prop} {X : Sg → String → Prop} {th : Nat} (K : MD l R p s m args c cX11_joinRow 8 RX11 D cA tys A n0 s0 9 164 []) (hQ : CQV p l e R s m args below meth c cX11_joinRow D cA A n0 s0 QM σi Q) (hX : CX p l e R s m args below meth c 8 D cA A n0 s0 QM σi X) (hTh : CT p l e R s m args below meth c cX11_joinRow 8 D cA A n0 s0 QM σi RX11 X) : ∀ (σ : Sg) (v1 : Option Nat) (v2 : Option Nat) (v3 : Int) (v4 : Option Nat) (g1 : tyV σ 5 v1) (g2 : tyV σ 10 v2) (g3 : rng v3) (g4 : tyV σ 0 v4), w_X11_joinRow_40 th Q X σ v1 v2 v3 v4 → RG σ → TY σ → Ext σi σ → kO σ th 11 → JJ p l e R s m args below meth c 8 D cA A n0 s0 QM σ 40 [(0, .ref th), (1, va_rf v1), (2, va_rf v2), (3, .int (i32 v3)), (4, va_rf v4)] [] := by
  intro σ v1 v2 v3 v4 g1 g2 g3 g4 h hGσ hYσ hE hth H locs ls hH hl hc
  have B := K.1
  have hl9 := K.2.2.2.2.2.2
  unfold w_X11_joinRow_40 at h
  refine lv_aload_nQ B.1 B.2.1 dX11_joinRow_40 rfl (lv_at hl 2 rfl) ?_
  obtain ⟨a66, ea66, h⟩ := h
  have ka66 : kO σ a66 10 := g2 a66 ea66
  have h := h ka66
  refine W.eq (g2 := F0 m 41 ls [.ref a66]) (by rw [ea66]; rfl) ?_
  refine f_getp B hH ka66 (by decide) rfl wu_X10 2 (by decide) wf_X11_105 rfl rfl dX11_joinRow_41 ?_
  obtain ⟨a67, ea67, h⟩ := h
  have ka67 : kO σ a67 1 := (hYσ.get ka66 (by decide)) a67 ea67
  have h := h ka67
  refine W.eq (g2 := F0 m 44 ls [.ref a67]) (by rw [ea67]; rfl) ?_
  refine f_getp B hH ka67 (by decide) rfl wu_X1 0 (by decide) wf_X11_225 rfl rfl dX11_joinRow_44 ?_
  exact a_X11_joinRow_47 K hQ hX hTh _ _ _ _ _ _ g1 g2 g3 g4 (hYσ.get ka67 (by decide)) h hGσ hYσ hE hth _ _ _ hH (lv_sub (l' := [(0, .ref th), (1, va_rf v1), (2, va_rf v2), (3, .int (i32 v3)), (4, va_rf v4)]) hl [0, 1, 2, 3, 4] rfl) hc
set_option maxRecDepth 20000 in
theorem a_X11_joinRow_30 {Q : Sg → Unit → Prop} {X : Sg → String → Prop} {th : Nat} (K : MD l R p s m args c cX11_joinRow 8 RX11 D cA tys A n0 s0 9 164 []) (hQ : CQV p l e R s m args below meth c cX11_joinRow D cA A n0 s0 QM σi Q) (hX : CX p l e R s m args below meth c 8 D cA A n0 s0 QM σi X) (hTh : CT p l e R s m args below meth c cX11_joinRow 8 D cA A n0 s0 QM σi RX11 X) : ∀ (σ : Sg) (v1 : Option Nat) (v2 : Option Nat) (v3 : Int) (v4 : Option Nat) (g1 : tyV σ 5 v1) (g2 : tyV σ 10 v2) (g3 : rng v3) (g4 : tyV σ 0 v4), w_X11_joinRow_30 th Q X σ v1 v2 v3 v4 → RG σ → TY σ → Ext σi σ → kO σ th 11 → JJ p l e R s m args below meth c 8 D cA A n0 s0 QM σ 30 [(0, .ref th), (1, va_rf v1), (2, va_rf v2), (3, .int (i32 v3)), (4, va_rf v4)] [] := by
  intro σ v1 v2 v3 v4 g1 g2 g3 g4 h hGσ hYσ hE hth H locs ls hH hl hc
  have B := K.1
  have hl9 := K.2.2.2.2.2.2
  unfold w_X11_joinRow_30 at h
  refine lv_aload_nQ B.1 B.2.1 dX11_joinRow_30 rfl (lv_at hl 2 rfl) ?_
  obtain ⟨a68, ea68, h⟩ := h
  have ka68 : kO σ a68 10 := g2 a68 ea68
  have h := h ka68
  refine W.eq (g2 := F0 m 31 ls [.ref a68]) (by rw [ea68]; rfl) ?_
  refine f_getp B hH ka68 (by decide) rfl wu_X10 3 (by decide) wf_X11_117 rfl rfl dX11_joinRow_31 ?_
  obtain ⟨a69, ea69, h⟩ := h
  have ka69 : kO σ a69 1 := (hYσ.get ka68 (by decide)) a69 ea69
  have h := h ka69
  refine W.eq (g2 := F0 m 34 ls [.ref a69]) (by rw [ea69]; rfl) ?_
  refine f_getp B hH ka69 (by decide) rfl wu_X1 0 (by decide) wf_X11_225 rfl rfl dX11_joinRow_34 ?_
  refine lv_goto (tgt := 47) B.1 B.2.1 dX11_joinRow_37 (by decide) ?_
  exact a_X11_joinRow_47 K hQ hX hTh _ _ _ _ _ _ g1 g2 g3 g4 (hYσ.get ka69 (by decide)) h hGσ hYσ hE hth _ _ _ hH (lv_sub (l' := [(0, .ref th), (1, va_rf v1), (2, va_rf v2), (3, .int (i32 v3)), (4, va_rf v4)]) hl [0, 1, 2, 3, 4] rfl) hc
set_option maxRecDepth 20000 in
theorem a_X11_joinRow_22 {Q : Sg → Unit → Prop} {X : Sg → String → Prop} {th : Nat} (K : MD l R p s m args c cX11_joinRow 8 RX11 D cA tys A n0 s0 9 164 []) (hQ : CQV p l e R s m args below meth c cX11_joinRow D cA A n0 s0 QM σi Q) (hX : CX p l e R s m args below meth c 8 D cA A n0 s0 QM σi X) (hTh : CT p l e R s m args below meth c cX11_joinRow 8 D cA A n0 s0 QM σi RX11 X) : ∀ (σ : Sg) (v1 : Option Nat) (v2 : Option Nat) (v3 : Int) (v4 : Option Nat) (u0 : Int) (u1 : Option Nat) (u2 : Option Nat) (g1 : tyV σ 5 v1) (g2 : tyV σ 10 v2) (g3 : rng v3) (g4 : tyV σ 0 v4) (gu0 : rng u0) (gu1 : tyV σ 101 u1) (gu2 : tyV σ 0 u2), w_X11_joinRow_22 th Q X σ v1 v2 v3 v4 u0 u1 u2 → RG σ → TY σ → Ext σi σ → kO σ th 11 → JJ p l e R s m args below meth c 8 D cA A n0 s0 QM σ 22 [(0, .ref th), (1, va_rf v1), (2, va_rf v2), (3, .int (i32 v3)), (4, va_rf v4)] [.int (i32 u0), va_rf u1, va_rf u2] := by
  intro σ v1 v2 v3 v4 u0 u1 u2 g1 g2 g3 g4 gu0 gu1 gu2 h hGσ hYσ hE hth H locs ls hH hl hc
  have B := K.1
  have hl9 := K.2.2.2.2.2.2
  unfold w_X11_joinRow_22 at h
  obtain ⟨a70, ea70, h⟩ := h
  have ka70 : kO σ a70 101 := gu1 a70 ea70
  have h := h ka70
  obtain ⟨q1, h⟩ := h
  refine W.eq (g2 := F0 m 22 ls [.int (i32 u0), .ref a70, va_rf u2]) (by rw [ea70]; rfl) ?_
  refine y_lald B K.2.1 hH ka70 q1 dX11_joinRow_22 (hYσ.2 _) ?_
  obtain ⟨a71, ea71, h⟩ := h
  have ka71 : kO σ a71 0 := gu2 a71 ea71
  have h := h ka71
  obtain ⟨σ72, eσ72⟩ : ∃ z, z = pJ σ a71 7 (gJ σ a70 u0.toNat) := ⟨_, rfl⟩
  have h := h σ72 eσ72
  refine W.eq (g2 := F0 m 23 ls [.long (gJ σ a70 u0.toNat), .ref a71]) (by rw [ea71]; rfl) ?_
  refine f_putl B hH ka71 (by decide) rfl wu_X0 tyX0 tyX0_ok nmX0 7 (by decide) wf_X11_72 rfl (ty := .long) rfl rfl rfl rfl rfl dX11_joinRow_23 (fun H locs hH => ?_)
  have hH : Hd D cA A s (pJ σ a71 7 (gJ σ a70 u0.toNat)) H locs := hH
  rw [← eσ72] at hH
  have hGσ72 : RG σ72 := by rw [eσ72]; exact hGσ.pJ
  have hYσ72 : TY σ72 := by rw [eσ72]; exact hYσ.pJ
  have xσ72 : Ext σ σ72 := by rw [eσ72]; exact Ext.pJ
  have hc : CB n0 s0 σ72 := by rw [eσ72]; exact hc
  rw [show gc σ = gc σ72 by rw [eσ72]; try rfl, show gs σ = gs σ72 by rw [eσ72]; try rfl]
  refine lv_iload_n B.1 B.2.1 dX11_joinRow_26 rfl (lv_at hl 3 rfl) ?_
  refine lv_if_ne (tgt := 40) B.1 B.2.1 dX11_joinRow_27 (by decide) (fun h9 => ?_) (fun h9 => ?_)
  · rw [if_pos (fun q => h9 ((z_eq g3).mpr q))] at h
    exact a_X11_joinRow_40 K hQ hX hTh _ _ _ _ _ (g1.up xσ72) (g2.up xσ72) g3 (g4.up xσ72) h hGσ72 hYσ72 (hE.trans xσ72) (hth.up xσ72) _ _ _ hH (lv_sub (l' := [(0, .ref th), (1, va_rf v1), (2, va_rf v2), (3, .int (i32 v3)), (4, va_rf v4)]) hl [0, 1, 2, 3, 4] rfl) hc
  · rw [if_neg (fun q => q ((z_eq g3).mp h9))] at h
    exact a_X11_joinRow_30 K hQ hX hTh _ _ _ _ _ (g1.up xσ72) (g2.up xσ72) g3 (g4.up xσ72) h hGσ72 hYσ72 (hE.trans xσ72) (hth.up xσ72) _ _ _ hH (lv_sub (l' := [(0, .ref th), (1, va_rf v1), (2, va_rf v2), (3, .int (i32 v3)), (4, va_rf v4)]) hl [0, 1, 2, 3, 4] rfl) hc
set_option maxRecDepth 20000 in
theorem a_X11_joinRow_18 {Q : Sg → Unit → Prop} {X : Sg → String → Prop} {th : Nat} (K : MD l R p s m args c cX11_joinRow 8 RX11 D cA tys A n0 s0 9 164 []) (hQ : CQV p l e R s m args below meth c cX11_joinRow D cA A n0 s0 QM σi Q) (hX : CX p l e R s m args below meth c 8 D cA A n0 s0 QM σi X) (hTh : CT p l e R s m args below meth c cX11_joinRow 8 D cA A n0 s0 QM σi RX11 X) : ∀ (σ : Sg) (v1 : Option Nat) (v2 : Option Nat) (v3 : Int) (v4 : Option Nat) (u0 : Option Nat) (u1 : Option Nat) (g1 : tyV σ 5 v1) (g2 : tyV σ 10 v2) (g3 : rng v3) (g4 : tyV σ 0 v4) (gu0 : tyV σ 101 u0) (gu1 : tyV σ 0 u1), w_X11_joinRow_18 th Q X σ v1 v2 v3 v4 u0 u1 → RG σ → TY σ → Ext σi σ → kO σ th 11 → JJ p l e R s m args below meth c 8 D cA A n0 s0 QM σ 18 [(0, .ref th), (1, va_rf v1), (2, va_rf v2), (3, .int (i32 v3)), (4, va_rf v4)] [va_rf u0, va_rf u1] := by
  intro σ v1 v2 v3 v4 u0 u1 g1 g2 g3 g4 gu0 gu1 h hGσ hYσ hE hth H locs ls hH hl hc
  have B := K.1
  have hl9 := K.2.2.2.2.2.2
  unfold w_X11_joinRow_18 at h
  refine lv_aload_nQ B.1 B.2.1 dX11_joinRow_18 rfl (lv_at hl 1 rfl) ?_
  obtain ⟨a73, ea73, h⟩ := h
  have ka73 : kO σ a73 5 := g1 a73 ea73
  have h := h ka73
  refine W.eq (g2 := F0 m 19 ls [.ref a73, va_rf u0, va_rf u1]) (by rw [ea73]; rfl) ?_
  refine f_geti B hH ka73 (by decide) rfl wu_X5 14 (by decide) wf_X11_98 rfl rfl dX11_joinRow_19 ?_
  exact a_X11_joinRow_22 K hQ hX hTh _ _ _ _ _ _ _ _ g1 g2 g3 g4 (hGσ _ _) gu0 gu1 h hGσ hYσ hE hth _ _ _ hH (lv_sub (l' := [(0, .ref th), (1, va_rf v1), (2, va_rf v2), (3, .int (i32 v3)), (4, va_rf v4)]) hl [0, 1, 2, 3, 4] rfl) hc
set_option maxRecDepth 20000 in
theorem a_X11_joinRow_11 {Q : Sg → Unit → Prop} {X : Sg → String → Prop} {th : Nat} (K : MD l R p s m args c cX11_joinRow 8 RX11 D cA tys A n0 s0 9 164 []) (hQ : CQV p l e R s m args below meth c cX11_joinRow D cA A n0 s0 QM σi Q) (hX : CX p l e R s m args below meth c 8 D cA A n0 s0 QM σi X) (hTh : CT p l e R s m args below meth c cX11_joinRow 8 D cA A n0 s0 QM σi RX11 X) : ∀ (σ : Sg) (v1 : Option Nat) (v2 : Option Nat) (v3 : Int) (v4 : Option Nat) (u0 : Option Nat) (u1 : Option Nat) (g1 : tyV σ 5 v1) (g2 : tyV σ 10 v2) (g3 : rng v3) (g4 : tyV σ 0 v4) (gu0 : tyV σ 101 u0) (gu1 : tyV σ 0 u1), w_X11_joinRow_11 th Q X σ v1 v2 v3 v4 u0 u1 → RG σ → TY σ → Ext σi σ → kO σ th 11 → JJ p l e R s m args below meth c 8 D cA A n0 s0 QM σ 11 [(0, .ref th), (1, va_rf v1), (2, va_rf v2), (3, .int (i32 v3)), (4, va_rf v4)] [va_rf u0, va_rf u1] := by
  intro σ v1 v2 v3 v4 u0 u1 g1 g2 g3 g4 gu0 gu1 h hGσ hYσ hE hth H locs ls hH hl hc
  have B := K.1
  have hl9 := K.2.2.2.2.2.2
  unfold w_X11_joinRow_11 at h
  refine lv_aload_nQ B.1 B.2.1 dX11_joinRow_11 rfl (lv_at hl 1 rfl) ?_
  obtain ⟨a74, ea74, h⟩ := h
  have ka74 : kO σ a74 5 := g1 a74 ea74
  have h := h ka74
  refine W.eq (g2 := F0 m 12 ls [.ref a74, va_rf u0, va_rf u1]) (by rw [ea74]; rfl) ?_
  refine f_geti B hH ka74 (by decide) rfl wu_X5 13 (by decide) wf_X11_69 rfl rfl dX11_joinRow_12 ?_
  refine lv_goto (tgt := 22) B.1 B.2.1 dX11_joinRow_15 (by decide) ?_
  exact a_X11_joinRow_22 K hQ hX hTh _ _ _ _ _ _ _ _ g1 g2 g3 g4 (hGσ _ _) gu0 gu1 h hGσ hYσ hE hth _ _ _ hH (lv_sub (l' := [(0, .ref th), (1, va_rf v1), (2, va_rf v2), (3, .int (i32 v3)), (4, va_rf v4)]) hl [0, 1, 2, 3, 4] rfl) hc
set_option maxRecDepth 20000 in
theorem a_X11_joinRow_0 {Q : Sg → Unit → Prop} {X : Sg → String → Prop} {th : Nat} (K : MD l R p s m args c cX11_joinRow 8 RX11 D cA tys A n0 s0 9 164 []) (hQ : CQV p l e R s m args below meth c cX11_joinRow D cA A n0 s0 QM σi Q) (hX : CX p l e R s m args below meth c 8 D cA A n0 s0 QM σi X) (hTh : CT p l e R s m args below meth c cX11_joinRow 8 D cA A n0 s0 QM σi RX11 X) : ∀ (σ : Sg) (v1 : Option Nat) (v2 : Option Nat) (v3 : Int) (v4 : Option Nat) (g1 : tyV σ 5 v1) (g2 : tyV σ 10 v2) (g3 : rng v3) (g4 : tyV σ 0 v4), w_X11_joinRow_0 th Q X σ v1 v2 v3 v4 → RG σ → TY σ → Ext σi σ → kO σ th 11 → JJ p l e R s m args below meth c 8 D cA A n0 s0 QM σ 0 [(0, .ref th), (1, va_rf v1), (2, va_rf v2), (3, .int (i32 v3)), (4, va_rf v4)] [] := by
  intro σ v1 v2 v3 v4 g1 g2 g3 g4 h hGσ hYσ hE hth H locs ls hH hl hc
  have B := K.1
  have hl9 := K.2.2.2.2.2.2
  unfold w_X11_joinRow_0 at h
  refine lv_aloadQ B.1 B.2.1 dX11_joinRow_0 (lv_at hl 4 rfl) ?_
  refine lv_aloadQ B.1 B.2.1 dX11_joinRow_2 (lv_at hl 4 rfl) ?_
  obtain ⟨a75, ea75, h⟩ := h
  have ka75 : kO σ a75 0 := g4 a75 ea75
  have h := h ka75
  refine W.eq (g2 := F0 m 4 ls [.ref a75, va_rf v4]) (by rw [ea75]; rfl) ?_
  refine f_getp B hH ka75 (by decide) rfl wu_X0 0 (by decide) wf_X11_64 rfl rfl dX11_joinRow_4 ?_
  refine lv_iload_n B.1 B.2.1 dX11_joinRow_7 rfl (lv_at hl 3 rfl) ?_
  refine lv_if_ne (tgt := 18) B.1 B.2.1 dX11_joinRow_8 (by decide) (fun h9 => ?_) (fun h9 => ?_)
  · rw [if_pos (fun q => h9 ((z_eq g3).mpr q))] at h
    exact a_X11_joinRow_18 K hQ hX hTh _ _ _ _ _ _ _ g1 g2 g3 g4 (hYσ.get ka75 (by decide)) g4 h hGσ hYσ hE hth _ _ _ hH (lv_sub (l' := [(0, .ref th), (1, va_rf v1), (2, va_rf v2), (3, .int (i32 v3)), (4, va_rf v4)]) hl [0, 1, 2, 3, 4] rfl) hc
  · rw [if_neg (fun q => q ((z_eq g3).mp h9))] at h
    exact a_X11_joinRow_11 K hQ hX hTh _ _ _ _ _ _ _ g1 g2 g3 g4 (hYσ.get ka75 (by decide)) g4 h hGσ hYσ hE hth _ _ _ hH (lv_sub (l' := [(0, .ref th), (1, va_rf v1), (2, va_rf v2), (3, .int (i32 v3)), (4, va_rf v4)]) hl [0, 1, 2, 3, 4] rfl) hc
theorem ok_X11_joinRow (hl0 : l.stackTraces = false) (hT : TyC cA tys) {Q : Sg → Unit → Prop} {X : Sg → String → Prop} (σ : Sg) (th : Nat) (v1 : Option Nat) (v2 : Option Nat) (v3 : Int) (v4 : Option Nat) (g1 : tyV σ 5 v1) (g2 : tyV σ 10 v2) (g3 : rng v3) (g4 : tyV σ 0 v4) (hth : kO σ th 11) (hG : RG σ) (hY : TY σ) (h : wp_X11_joinRow th v1 v2 v3 v4 σ Q X) : Ok l D cA tys A yX11_joinRow (.code yX11_joinRow cX11_joinRow 8 none) 9 164 [.ref th, va_rf v1, va_rf v2, .int (i32 v3), va_rf v4] σ (QcV σ Q) (QxC σ X) := by
  unfold wp_X11_joinRow at h
  exact oc_V hl0 (by decide) (by cases v1 <;> cases v2 <;> cases v4 <;> exact Nat.le_of_ble_eq_true rfl) hT (fun p e R s m args below meth c K hQ hX hTh hin9 H locs ls hH hl hc => a_X11_joinRow_0 K hQ hX hTh σ v1 v2 v3 v4 g1 g2 g3 g4 h hG hY (Ext.rfl' σ) hth H locs ls hH (lv_sub (l' := [(0, .ref th), (1, va_rf v1), (2, va_rf v2), (3, .int (i32 v3)), (4, va_rf v4)]) hl [0, 1, 2, 3, 4] (by cases v1 <;> cases v2 <;> cases v4 <;> rfl)) hc)
theorem dX11_mapRow_0 : decode cX11_mapRow 0 = .ok (.aload_n 0, 1) := by decide +kernel
theorem dX11_mapRow_1 : decode cX11_mapRow 1 = .ok (.getfield 22, 3) := by decide +kernel
theorem dX11_mapRow_4 : decode cX11_mapRow 4 = .ok (.invokevirtual 191, 3) := by decide +kernel
theorem dX11_mapRow_7 : decode cX11_mapRow 7 = .ok (.astore 4, 2) := by decide +kernel
theorem dX11_mapRow_9 : decode cX11_mapRow 9 = .ok (.aload 4, 2) := by decide +kernel
theorem dX11_mapRow_11 : decode cX11_mapRow 11 = .ok (.aload_n 3, 1) := by decide +kernel
theorem dX11_mapRow_12 : decode cX11_mapRow 12 = .ok (.getfield 85, 3) := by decide +kernel
theorem dX11_mapRow_15 : decode cX11_mapRow 15 = .ok (.putfield 85, 3) := by decide +kernel
theorem dX11_mapRow_18 : decode cX11_mapRow 18 = .ok (.aload 4, 2) := by decide +kernel
theorem dX11_mapRow_20 : decode cX11_mapRow 20 = .ok (.aload_n 3, 1) := by decide +kernel
theorem dX11_mapRow_21 : decode cX11_mapRow 21 = .ok (.getfield 195, 3) := by decide +kernel
theorem dX11_mapRow_24 : decode cX11_mapRow 24 = .ok (.putfield 195, 3) := by decide +kernel
theorem dX11_mapRow_27 : decode cX11_mapRow 27 = .ok (.iconst 0, 1) := by decide +kernel
theorem dX11_mapRow_28 : decode cX11_mapRow 28 = .ok (.istore 5, 2) := by decide +kernel
theorem dX11_mapRow_30 : decode cX11_mapRow 30 = .ok (.iload 5, 2) := by decide +kernel
theorem dX11_mapRow_32 : decode cX11_mapRow 32 = .ok (.aload_n 1, 1) := by decide +kernel
theorem dX11_mapRow_33 : decode cX11_mapRow 33 = .ok (.getfield 198, 3) := by decide +kernel
theorem dX11_mapRow_36 : decode cX11_mapRow 36 = .ok (.if_icmp .ge 58, 3) := by decide +kernel
theorem dX11_mapRow_39 : decode cX11_mapRow 39 = .ok (.aload 4, 2) := by decide +kernel
theorem dX11_mapRow_41 : decode cX11_mapRow 41 = .ok (.getfield 64, 3) := by decide +kernel
theorem dX11_mapRow_44 : decode cX11_mapRow 44 = .ok (.iload 5, 2) := by decide +kernel
theorem dX11_mapRow_46 : decode cX11_mapRow 46 = .ok (.aload_n 0, 1) := by decide +kernel
theorem dX11_mapRow_47 : decode cX11_mapRow 47 = .ok (.getfield 136, 3) := by decide +kernel
theorem dX11_mapRow_50 : decode cX11_mapRow 50 = .ok (.aload_n 1, 1) := by decide +kernel
theorem dX11_mapRow_51 : decode cX11_mapRow 51 = .ok (.getfield 179, 3) := by decide +kernel
theorem dX11_mapRow_54 : decode cX11_mapRow 54 = .ok (.iload 5, 2) := by decide +kernel
theorem dX11_mapRow_56 : decode cX11_mapRow 56 = .ok (.iaload, 1) := by decide +kernel
theorem dX11_mapRow_57 : decode cX11_mapRow 57 = .ok (.aload_n 3, 1) := by decide +kernel
theorem dX11_mapRow_58 : decode cX11_mapRow 58 = .ok (.invokevirtual 183, 3) := by decide +kernel
theorem dX11_mapRow_61 : decode cX11_mapRow 61 = .ok (.lastore, 1) := by decide +kernel
theorem dX11_mapRow_62 : decode cX11_mapRow 62 = .ok (.aload_n 0, 1) := by decide +kernel
theorem dX11_mapRow_63 : decode cX11_mapRow 63 = .ok (.getfield 136, 3) := by decide +kernel
theorem dX11_mapRow_66 : decode cX11_mapRow 66 = .ok (.getfield 187, 3) := by decide +kernel
theorem dX11_mapRow_69 : decode cX11_mapRow 69 = .ok (.ifCond .eq 19, 3) := by decide +kernel
theorem dX11_mapRow_72 : decode cX11_mapRow 72 = .ok (.aload_n 0, 1) := by decide +kernel
theorem dX11_mapRow_73 : decode cX11_mapRow 73 = .ok (.getfield 22, 3) := by decide +kernel
theorem dX11_mapRow_76 : decode cX11_mapRow 76 = .ok (.aload 4, 2) := by decide +kernel
theorem dX11_mapRow_78 : decode cX11_mapRow 78 = .ok (.invokevirtual 174, 3) := by decide +kernel
theorem dX11_mapRow_81 : decode cX11_mapRow 81 = .ok (.aload_n 0, 1) := by decide +kernel
theorem dX11_mapRow_82 : decode cX11_mapRow 82 = .ok (.aload_n 2, 1) := by decide +kernel
theorem dX11_mapRow_83 : decode cX11_mapRow 83 = .ok (.aload_n 3, 1) := by decide +kernel
theorem dX11_mapRow_84 : decode cX11_mapRow 84 = .ok (.invokevirtual 53, 3) := by decide +kernel
theorem dX11_mapRow_87 : decode cX11_mapRow 87 = .ok (.return_, 1) := by decide +kernel
theorem dX11_mapRow_88 : decode cX11_mapRow 88 = .ok (.iinc 5 1, 3) := by decide +kernel
theorem dX11_mapRow_91 : decode cX11_mapRow 91 = .ok (.goto (-61), 3) := by decide +kernel
theorem dX11_mapRow_94 : decode cX11_mapRow 94 = .ok (.aload_n 0, 1) := by decide +kernel
theorem dX11_mapRow_95 : decode cX11_mapRow 95 = .ok (.getfield 12, 3) := by decide +kernel
theorem dX11_mapRow_98 : decode cX11_mapRow 98 = .ok (.aload 4, 2) := by decide +kernel
theorem dX11_mapRow_100 : decode cX11_mapRow 100 = .ok (.invokevirtual 42, 3) := by decide +kernel
theorem dX11_mapRow_103 : decode cX11_mapRow 103 = .ok (.aload_n 0, 1) := by decide +kernel
theorem dX11_mapRow_104 : decode cX11_mapRow 104 = .ok (.getfield 22, 3) := by decide +kernel
theorem dX11_mapRow_107 : decode cX11_mapRow 107 = .ok (.aload_n 3, 1) := by decide +kernel
theorem dX11_mapRow_108 : decode cX11_mapRow 108 = .ok (.invokevirtual 174, 3) := by decide +kernel
theorem dX11_mapRow_111 : decode cX11_mapRow 111 = .ok (.return_, 1) := by decide +kernel
set_option maxRecDepth 20000 in
theorem a_X11_mapRow_94 {Q : Sg → Unit → Prop} {X : Sg → String → Prop} {th : Nat} (K : MD l R p s m args c cX11_mapRow 6 RX11 D cA tys A n0 s0 3 73 []) (hQ : CQV p l e R s m args below meth c cX11_mapRow D cA A n0 s0 QM σi Q) (hX : CX p l e R s m args below meth c 6 D cA A n0 s0 QM σi X) (hTh : CT p l e R s m args below meth c cX11_mapRow 6 D cA A n0 s0 QM σi RX11 X) : ∀ (σ : Sg) (v3 : Option Nat) (v4 : Option Nat) (g3 : tyV σ 0 v3) (g4 : tyV σ 0 v4), w_X11_mapRow_94 th Q X σ v3 v4 → RG σ → TY σ → Ext σi σ → kO σ th 11 → JJ p l e R s m args below meth c 6 D cA A n0 s0 QM σ 94 [(0, .ref th), (3, va_rf v3), (4, va_rf v4)] [] := by
  intro σ v3 v4 g3 g4 h hGσ hYσ hE hth H locs ls hH hl hc
  have B := K.1
  have hl9 := K.2.2.2.2.2.2
  unfold w_X11_mapRow_94 at h
  refine lv_aload_n B.1 B.2.1 dX11_mapRow_94 rfl (lv_at hl 0 rfl) ?_
  refine f_getp B hH hth (by decide) rfl wu_X11 2 (by decide) wf_X11_12 rfl rfl dX11_mapRow_95 ?_
  refine lv_aloadQ B.1 B.2.1 dX11_mapRow_98 (lv_at hl 2 rfl) ?_
  obtain ⟨a50, ea50, h⟩ := h
  have ka50 : kO σ a50 1 := (hYσ.get hth (by decide)) a50 ea50
  have h := h ka50
  refine W.eq (g2 := F0 m 100 ls [va_rf v4, .ref a50]) (by rw [ea50]; rfl) ?_
  refine c_V B hH hl hc K.2.2.1 (C := RX1) (T := TX1) (N := 3) (ci := 1) (As := [va_rf v4]) (ok_X1_add hl9 K.2.1 σ a50 v4 g4 ka50 hGσ hYσ h) wc_X11_42 1 hd_X1_add ⟨Nat.le_trans (Nat.le_of_ble_eq_true rfl) K.2.2.2.1, Nat.le_trans (Nat.le_of_ble_eq_true rfl) K.2.2.2.2.1⟩ ka50.1 ka50.2 (by decide) rfl rfl (rest := []) rfl (Nat.le_of_ble_eq_true rfl) dX11_mapRow_100 (fun σ49 w hq => ?_) (fun σ9 E9 hx9 => hX σ9 E9 _ _ _ (tb_out K.2.2.2.2.2.1 rfl) hx9.1 hx9.2.1 hx9.2.2.1 (hE.trans hx9.2.2.2))
  obtain ⟨rfl, h, hGσ49, hYσ49, xσ49⟩ := hq
  have h := h xσ49
  intro H locs ls hH hl hc
  refine W.eq (g2 := F0 m 103 ls []) (rfl) ?_
  try dsimp only at h
  refine lv_aload_n B.1 B.2.1 dX11_mapRow_103 rfl (lv_at hl 0 rfl) ?_
  refine f_getp B hH (hth.up xσ49) (by decide) rfl wu_X11 0 (by decide) wf_X11_22 rfl rfl dX11_mapRow_104 ?_
  refine lv_aload_nQ B.1 B.2.1 dX11_mapRow_107 rfl (lv_at hl 1 rfl) ?_
  obtain ⟨a52, ea52, h⟩ := h
  have ka52 : kO σ49 a52 8 := (hYσ49.get (hth.up xσ49) (by decide)) a52 ea52
  have h := h ka52
  refine W.eq (g2 := F0 m 108 ls [va_rf v3, .ref a52]) (by rw [ea52]; rfl) ?_
  refine c_V B hH hl hc K.2.2.1 (C := RX8) (T := TX8) (N := 3) (ci := 8) (As := [va_rf v3]) (ok_X8_release hl9 K.2.1 σ49 a52 v3 (g3.up xσ49) ka52 hGσ49 hYσ49 h) wc_X11_174 1 hd_X8_release ⟨Nat.le_trans (Nat.le_of_ble_eq_true rfl) K.2.2.2.1, Nat.le_trans (Nat.le_of_ble_eq_true rfl) K.2.2.2.2.1⟩ ka52.1 ka52.2 (by decide) rfl rfl (rest := []) rfl (Nat.le_of_ble_eq_true rfl) dX11_mapRow_108 (fun σ51 w hq => ?_) (fun σ9 E9 hx9 => hX σ9 E9 _ _ _ (tb_out K.2.2.2.2.2.1 rfl) hx9.1 hx9.2.1 hx9.2.2.1 ((hE.trans xσ49).trans hx9.2.2.2))
  obtain ⟨rfl, h, hGσ51, hYσ51, xσ51⟩ := hq
  have h := h xσ51
  intro H locs ls hH hl hc
  refine W.eq (g2 := F0 m 111 ls []) (rfl) ?_
  try dsimp only at h
  exact hQ _ _ _ _ _ dX11_mapRow_111 hH hc h hGσ51 hYσ51 ((hE.trans xσ49).trans xσ51)
set_option maxRecDepth 20000 in
theorem a_X11_mapRow_88 {Q : Sg → Unit → Prop} {X : Sg → String → Prop} {th : Nat} (K : MD l R p s m args c cX11_mapRow 6 RX11 D cA tys A n0 s0 3 73 []) (hQ : CQV p l e R s m args below meth c cX11_mapRow D cA A n0 s0 QM σi Q) (hX : CX p l e R s m args below meth c 6 D cA A n0 s0 QM σi X) (hTh : CT p l e R s m args below meth c cX11_mapRow 6 D cA A n0 s0 QM σi RX11 X) {K30 : Sg → Option Nat → Option Nat → Option Nat → Option Nat → Int → Prop} (hK30 : ∀ (σ : Sg) (v1 : Option Nat) (v2 : Option Nat) (v3 : Option Nat) (v4 : Option Nat) (v5 : Int) (g1 : tyV σ 5 v1) (g2 : tyV σ 10 v2) (g3 : tyV σ 0 v3) (g4 : tyV σ 0 v4) (g5 : rng v5), K30 σ v1 v2 v3 v4 v5 → RG σ → TY σ → Ext σi σ → kO σ th 11 → JJ p l e R s m args below meth c 6 D cA A n0 s0 QM σ 30 [(0, .ref th), (1, va_rf v1), (2, va_rf v2), (3, va_rf v3), (4, va_rf v4), (5, .int (i32 v5))] []) : ∀ (σ : Sg) (v1 : Option Nat) (v2 : Option Nat) (v3 : Option Nat) (v4 : Option Nat) (v5 : Int) (g1 : tyV σ 5 v1) (g2 : tyV σ 10 v2) (g3 : tyV σ 0 v3) (g4 : tyV σ 0 v4) (g5 : rng v5), w_X11_mapRow_88 th K30 Q X σ v1 v2 v3 v4 v5 → RG σ → TY σ → Ext σi σ → kO σ th 11 → JJ p l e R s m args below meth c 6 D cA A n0 s0 QM σ 88 [(0, .ref th), (1, va_rf v1), (2, va_rf v2), (3, va_rf v3), (4, va_rf v4), (5, .int (i32 v5))] [] := by
  intro σ v1 v2 v3 v4 v5 g1 g2 g3 g4 g5 h hGσ hYσ hE hth H locs ls hH hl hc
  have B := K.1
  have hl9 := K.2.2.2.2.2.2
  unfold w_X11_mapRow_88 at h
  obtain ⟨q1, h⟩ := h
  refine lv_iinc (k := 5) (v := i32 (v5 + 1)) (lv' := [(5, .int (i32 (v5 + 1))), (0, .ref th), (1, va_rf v1), (2, va_rf v2), (3, va_rf v3), (4, va_rf v4)]) B.1 B.2.1 dX11_mapRow_88 hl rfl (i32_add _ _) (by decide) (by generalize v4 = w9; cases w9 <;> rfl) (fun ls hl => ?_)
  refine lv_goto (tgt := 30) B.1 B.2.1 dX11_mapRow_91 (by decide) ?_
  exact hK30 _ _ _ _ _ _ g1 g2 g3 g4 q1 h hGσ hYσ hE hth _ _ _ hH (lv_sub (l' := [(0, .ref th), (1, va_rf v1), (2, va_rf v2), (3, va_rf v3), (4, va_rf v4), (5, .int (i32 (v5 + 1)))]) hl [1, 2, 3, 4, 5, 0] rfl) hc
set_option maxRecDepth 20000 in
theorem a_X11_mapRow_72 {Q : Sg → Unit → Prop} {X : Sg → String → Prop} {th : Nat} (K : MD l R p s m args c cX11_mapRow 6 RX11 D cA tys A n0 s0 3 73 []) (hQ : CQV p l e R s m args below meth c cX11_mapRow D cA A n0 s0 QM σi Q) (hX : CX p l e R s m args below meth c 6 D cA A n0 s0 QM σi X) (hTh : CT p l e R s m args below meth c cX11_mapRow 6 D cA A n0 s0 QM σi RX11 X) : ∀ (σ : Sg) (v2 : Option Nat) (v3 : Option Nat) (v4 : Option Nat) (g2 : tyV σ 10 v2) (g3 : tyV σ 0 v3) (g4 : tyV σ 0 v4), w_X11_mapRow_72 th Q X σ v2 v3 v4 → RG σ → TY σ → Ext σi σ → kO σ th 11 → JJ p l e R s m args below meth c 6 D cA A n0 s0 QM σ 72 [(0, .ref th), (2, va_rf v2), (3, va_rf v3), (4, va_rf v4)] [] := by
  intro σ v2 v3 v4 g2 g3 g4 h hGσ hYσ hE hth H locs ls hH hl hc
  have B := K.1
  have hl9 := K.2.2.2.2.2.2
  unfold w_X11_mapRow_72 at h
  refine lv_aload_n B.1 B.2.1 dX11_mapRow_72 rfl (lv_at hl 0 rfl) ?_
  refine f_getp B hH hth (by decide) rfl wu_X11 0 (by decide) wf_X11_22 rfl rfl dX11_mapRow_73 ?_
  refine lv_aloadQ B.1 B.2.1 dX11_mapRow_76 (lv_at hl 3 rfl) ?_
  obtain ⟨a54, ea54, h⟩ := h
  have ka54 : kO σ a54 8 := (hYσ.get hth (by decide)) a54 ea54
  have h := h ka54
  refine W.eq (g2 := F0 m 78 ls [va_rf v4, .ref a54]) (by rw [ea54]; rfl) ?_
  refine c_V B hH hl hc K.2.2.1 (C := RX8) (T := TX8) (N := 3) (ci := 8) (As := [va_rf v4]) (ok_X8_release hl9 K.2.1 σ a54 v4 g4 ka54 hGσ hYσ h) wc_X11_174 1 hd_X8_release ⟨Nat.le_trans (Nat.le_of_ble_eq_true rfl) K.2.2.2.1, Nat.le_trans (Nat.le_of_ble_eq_true rfl) K.2.2.2.2.1⟩ ka54.1 ka54.2 (by decide) rfl rfl (rest := []) rfl (Nat.le_of_ble_eq_true rfl) dX11_mapRow_78 (fun σ53 w hq => ?_) (fun σ9 E9 hx9 => hX σ9 E9 _ _ _ (tb_out K.2.2.2.2.2.1 rfl) hx9.1 hx9.2.1 hx9.2.2.1 (hE.trans hx9.2.2.2))
  obtain ⟨rfl, h, hGσ53, hYσ53, xσ53⟩ := hq
  have h := h xσ53
  intro H locs ls hH hl hc
  refine W.eq (g2 := F0 m 81 ls []) (rfl) ?_
  try dsimp only at h
  refine lv_aload_n B.1 B.2.1 dX11_mapRow_81 rfl (lv_at hl 0 rfl) ?_
  refine lv_aload_nQ B.1 B.2.1 dX11_mapRow_82 rfl (lv_at hl 1 rfl) ?_
  refine lv_aload_nQ B.1 B.2.1 dX11_mapRow_83 rfl (lv_at hl 2 rfl) ?_
  refine W.eq (g2 := F0 m 84 ls [va_rf v3, va_rf v2, .ref th]) (rfl) ?_
  refine c_V B hH hl hc K.2.2.1 (C := RX11) (T := TX11) (N := 6) (ci := 11) (As := [va_rf v2, va_rf v3]) (ok_X11_putAside hl9 K.2.1 σ53 th v2 v3 (g2.up xσ53) (g3.up xσ53) (hth.up xσ53) hGσ53 hYσ53 h) wc_X11_53 2 hd_X11_putAside ⟨Nat.le_trans (Nat.le_of_ble_eq_true rfl) K.2.2.2.1, Nat.le_trans (Nat.le_of_ble_eq_true rfl) K.2.2.2.2.1⟩ (hth.up xσ53).1 (hth.up xσ53).2 (by decide) rfl rfl (rest := []) rfl (Nat.le_of_ble_eq_true rfl) dX11_mapRow_84 (fun σ55 w hq => ?_) (fun σ9 E9 hx9 => hX σ9 E9 _ _ _ (tb_out K.2.2.2.2.2.1 rfl) hx9.1 hx9.2.1 hx9.2.2.1 ((hE.trans xσ53).trans hx9.2.2.2))
  obtain ⟨rfl, h, hGσ55, hYσ55, xσ55⟩ := hq
  have h := h xσ55
  intro H locs ls hH hl hc
  refine W.eq (g2 := F0 m 87 ls []) (rfl) ?_
  try dsimp only at h
  exact hQ _ _ _ _ _ dX11_mapRow_87 hH hc h hGσ55 hYσ55 ((hE.trans xσ53).trans xσ55)
set_option maxRecDepth 20000 in
theorem a_X11_mapRow_39 {Q : Sg → Unit → Prop} {X : Sg → String → Prop} {th : Nat} (K : MD l R p s m args c cX11_mapRow 6 RX11 D cA tys A n0 s0 3 73 []) (hQ : CQV p l e R s m args below meth c cX11_mapRow D cA A n0 s0 QM σi Q) (hX : CX p l e R s m args below meth c 6 D cA A n0 s0 QM σi X) (hTh : CT p l e R s m args below meth c cX11_mapRow 6 D cA A n0 s0 QM σi RX11 X) {K30 : Sg → Option Nat → Option Nat → Option Nat → Option Nat → Int → Prop} (hK30 : ∀ (σ : Sg) (v1 : Option Nat) (v2 : Option Nat) (v3 : Option Nat) (v4 : Option Nat) (v5 : Int) (g1 : tyV σ 5 v1) (g2 : tyV σ 10 v2) (g3 : tyV σ 0 v3) (g4 : tyV σ 0 v4) (g5 : rng v5), K30 σ v1 v2 v3 v4 v5 → RG σ → TY σ → Ext σi σ → kO σ th 11 → JJ p l e R s m args below meth c 6 D cA A n0 s0 QM σ 30 [(0, .ref th), (1, va_rf v1), (2, va_rf v2), (3, va_rf v3), (4, va_rf v4), (5, .int (i32 v5))] []) : ∀ (σ : Sg) (v1 : Option Nat) (v2 : Option Nat) (v3 : Option Nat) (v4 : Option Nat) (v5 : Int) (g1 : tyV σ 5 v1) (g2 : tyV σ 10 v2) (g3 : tyV σ 0 v3) (g4 : tyV σ 0 v4) (g5 : rng v5), w_X11_mapRow_39 th K30 Q X σ v1 v2 v3 v4 v5 → RG σ → TY σ → Ext σi σ → kO σ th 11 → JJ p l e R s m args below meth c 6 D cA A n0 s0 QM σ 39 [(0, .ref th), (1, va_rf v1), (2, va_rf v2), (3, va_rf v3), (4, va_rf v4), (5, .int (i32 v5))] [] := by
  intro σ v1 v2 v3 v4 v5 g1 g2 g3 g4 g5 h hGσ hYσ hE hth H locs ls hH hl hc
  have B := K.1
  have hl9 := K.2.2.2.2.2.2
  unfold w_X11_mapRow_39 at h
  refine lv_aloadQ B.1 B.2.1 dX11_mapRow_39 (lv_at hl 4 rfl) ?_
  obtain ⟨a56, ea56, h⟩ := h
  have ka56 : kO σ a56 0 := g4 a56 ea56
  have h := h ka56
  refine W.eq (g2 := F0 m 41 ls [.ref a56]) (by rw [ea56]; rfl) ?_
  refine f_getp B hH ka56 (by decide) rfl wu_X0 0 (by decide) wf_X11_64 rfl rfl dX11_mapRow_41 ?_
  refine lv_iload B.1 B.2.1 dX11_mapRow_44 (lv_at hl 5 rfl) ?_
  refine lv_aload_n B.1 B.2.1 dX11_mapRow_46 rfl (lv_at hl 0 rfl) ?_
  refine f_getp B hH hth (by decide) rfl wu_X11 5 (by decide) wf_X11_136 rfl rfl dX11_mapRow_47 ?_
  refine lv_aload_nQ B.1 B.2.1 dX11_mapRow_50 rfl (lv_at hl 1 rfl) ?_
  obtain ⟨a57, ea57, h⟩ := h
  have ka57 : kO σ a57 5 := g1 a57 ea57
  have h := h ka57
  refine W.eq (g2 := F0 m 51 ls [.ref a57, va_rf (gP σ th 5), .int (i32 v5), va_rf (gP σ a56 0)]) (by rw [ea57]; rfl) ?_
  refine f_getp B hH ka57 (by decide) rfl wu_X5 1 (by decide) wf_X11_179 rfl rfl dX11_mapRow_51 ?_
  refine lv_iload B.1 B.2.1 dX11_mapRow_54 (lv_at hl 5 rfl) ?_
  obtain ⟨a58, ea58, h⟩ := h
  have ka58 : kO σ a58 100 := (hYσ.get ka57 (by decide)) a58 ea58
  have h := h ka58
  obtain ⟨q1, h⟩ := h
  refine W.eq (g2 := F0 m 56 ls [.int (i32 v5), .ref a58, va_rf (gP σ th 5), .int (i32 v5), va_rf (gP σ a56 0)]) (by rw [ea58]; rfl) ?_
  refine y_iald B K.2.1 hH ka58 q1 dX11_mapRow_56 (hYσ.2 _) ?_
  refine lv_aload_nQ B.1 B.2.1 dX11_mapRow_57 rfl (lv_at hl 3 rfl) ?_
  obtain ⟨a61, ea61, h⟩ := h
  have ka61 : kO σ a61 4 := (hYσ.get hth (by decide)) a61 ea61
  have h := h ka61
  refine W.eq (g2 := F0 m 58 ls [va_rf v3, .int (i32 (gI σ a58 v5.toNat)), .ref a61, .int (i32 v5), va_rf (gP σ a56 0)]) (by rw [ea61]; rfl) ?_
  refine c_V B hH hl hc K.2.2.1 (C := RX4) (T := TX4) (N := 14) (ci := 4) (As := [.int (i32 (gI σ a58 v5.toNat)), va_rf v3]) (ok_X4_value hl9 K.2.1 σ a61 (gI σ a58 v5.toNat) v3 (hGσ _ _) g3 ka61 hGσ hYσ h) wc_X11_183 2 hd_X4_value ⟨Nat.le_trans (Nat.le_of_ble_eq_true rfl) K.2.2.2.1, Nat.le_trans (Nat.le_of_ble_eq_true rfl) K.2.2.2.2.1⟩ ka61.1 ka61.2 (by decide) rfl rfl (rest := [.int (i32 v5), va_rf (gP σ a56 0)]) rfl (by simp only [List.map_cons, List.map_nil, rf_cat]; exact Nat.le_of_ble_eq_true rfl) dX11_mapRow_58 (fun σ59 w hq => ?_) (fun σ9 E9 hx9 => hX σ9 E9 _ _ _ (tb_out K.2.2.2.2.2.1 rfl) hx9.1 hx9.2.1 hx9.2.2.1 (hE.trans hx9.2.2.2))
  obtain ⟨r60, rfl, h, hGσ59, hYσ59, xσ59⟩ := hq
  have h := h xσ59
  intro H locs ls hH hl hc
  refine W.eq (g2 := F0 m 61 ls [.long r60, .int (i32 v5), va_rf (gP σ a56 0)]) (rfl) ?_
  try dsimp only at h
  obtain ⟨a62, ea62, h⟩ := h
  have ka62 : kO σ59 a62 101 := ((hYσ.get ka56 (by decide)).up xσ59) a62 ea62
  have h := h ka62
  obtain ⟨q2, h⟩ := h
  obtain ⟨σ63, eσ63⟩ : ∃ z, z = pJ σ59 a62 v5.toNat r60 := ⟨_, rfl⟩
  have h := h σ63 eσ63
  refine W.eq (g2 := F0 m 61 ls [.long r60, .int (i32 v5), .ref a62]) (by rw [ea62]; rfl) ?_
  refine y_last B K.2.1 hH ka62 q2 dX11_mapRow_61 (hYσ59.2 _) (fun H locs hH => ?_)
  have hH : Hd D cA A s (pJ σ59 a62 v5.toNat r60) H locs := hH
  rw [← eσ63] at hH
  have hGσ63 : RG σ63 := by rw [eσ63]; exact hGσ59.pJ
  have hYσ63 : TY σ63 := by rw [eσ63]; exact hYσ59.pJ
  have xσ63 : Ext σ59 σ63 := by rw [eσ63]; exact Ext.pJ
  have hc : CB n0 s0 σ63 := by rw [eσ63]; exact hc
  rw [show gc σ59 = gc σ63 by rw [eσ63]; try rfl, show gs σ59 = gs σ63 by rw [eσ63]; try rfl]
  refine lv_aload_n B.1 B.2.1 dX11_mapRow_62 rfl (lv_at hl 0 rfl) ?_
  refine f_getp B hH (hth.up (xσ59.trans xσ63)) (by decide) rfl wu_X11 5 (by decide) wf_X11_136 rfl rfl dX11_mapRow_63 ?_
  obtain ⟨a64, ea64, h⟩ := h
  have ka64 : kO σ63 a64 4 := (hYσ63.get (hth.up (xσ59.trans xσ63)) (by decide)) a64 ea64
  have h := h ka64
  refine W.eq (g2 := F0 m 66 ls [.ref a64]) (by rw [ea64]; rfl) ?_
  refine f_geti B hH ka64 (by decide) rfl wu_X4 10 (by decide) wf_X11_187 rfl rfl dX11_mapRow_66 ?_
  refine lv_if_eq (tgt := 88) B.1 B.2.1 dX11_mapRow_69 (by decide) (fun h9 => ?_) (fun h9 => ?_)
  · rw [if_pos ((z_eq (hGσ63 _ _)).mp h9)] at h
    exact a_X11_mapRow_88 K hQ hX hTh hK30 _ _ _ _ _ _ (g1.up (xσ59.trans xσ63)) (g2.up (xσ59.trans xσ63)) (g3.up (xσ59.trans xσ63)) (g4.up (xσ59.trans xσ63)) g5 h hGσ63 hYσ63 ((hE.trans xσ59).trans xσ63) (hth.up (xσ59.trans xσ63)) _ _ _ hH (lv_sub (l' := [(0, .ref th), (1, va_rf v1), (2, va_rf v2), (3, va_rf v3), (4, va_rf v4), (5, .int (i32 v5))]) hl [0, 1, 2, 3, 4, 5] rfl) hc
  · rw [if_neg (fun q => h9 ((z_eq (hGσ63 _ _)).mpr q))] at h
    exact a_X11_mapRow_72 K hQ hX hTh _ _ _ _ (g2.up (xσ59.trans xσ63)) (g3.up (xσ59.trans xσ63)) (g4.up (xσ59.trans xσ63)) h hGσ63 hYσ63 ((hE.trans xσ59).trans xσ63) (hth.up (xσ59.trans xσ63)) _ _ _ hH (lv_sub (l' := [(0, .ref th), (2, va_rf v2), (3, va_rf v3), (4, va_rf v4)]) hl [0, 2, 3, 4] rfl) hc
set_option maxRecDepth 20000 in
theorem a_X11_mapRow_30 {Q : Sg → Unit → Prop} {X : Sg → String → Prop} {th : Nat} (K : MD l R p s m args c cX11_mapRow 6 RX11 D cA tys A n0 s0 3 73 []) (hQ : CQV p l e R s m args below meth c cX11_mapRow D cA A n0 s0 QM σi Q) (hX : CX p l e R s m args below meth c 6 D cA A n0 s0 QM σi X) (hTh : CT p l e R s m args below meth c cX11_mapRow 6 D cA A n0 s0 QM σi RX11 X) {K30 : Sg → Option Nat → Option Nat → Option Nat → Option Nat → Int → Prop} (hK30 : ∀ (σ : Sg) (v1 : Option Nat) (v2 : Option Nat) (v3 : Option Nat) (v4 : Option Nat) (v5 : Int) (g1 : tyV σ 5 v1) (g2 : tyV σ 10 v2) (g3 : tyV σ 0 v3) (g4 : tyV σ 0 v4) (g5 : rng v5), K30 σ v1 v2 v3 v4 v5 → RG σ → TY σ → Ext σi σ → kO σ th 11 → JJ p l e R s m args below meth c 6 D cA A n0 s0 QM σ 30 [(0, .ref th), (1, va_rf v1), (2, va_rf v2), (3, va_rf v3), (4, va_rf v4), (5, .int (i32 v5))] []) : ∀ (σ : Sg) (v1 : Option Nat) (v2 : Option Nat) (v3 : Option Nat) (v4 : Option Nat) (v5 : Int) (g1 : tyV σ 5 v1) (g2 : tyV σ 10 v2) (g3 : tyV σ 0 v3) (g4 : tyV σ 0 v4) (g5 : rng v5), w_X11_mapRow_30 th K30 Q X σ v1 v2 v3 v4 v5 → RG σ → TY σ → Ext σi σ → kO σ th 11 → JJ p l e R s m args below meth c 6 D cA A n0 s0 QM σ 30 [(0, .ref th), (1, va_rf v1), (2, va_rf v2), (3, va_rf v3), (4, va_rf v4), (5, .int (i32 v5))] [] := by
  intro σ v1 v2 v3 v4 v5 g1 g2 g3 g4 g5 h hGσ hYσ hE hth H locs ls hH hl hc
  have B := K.1
  have hl9 := K.2.2.2.2.2.2
  unfold w_X11_mapRow_30 at h
  refine lv_iload B.1 B.2.1 dX11_mapRow_30 (lv_at hl 5 rfl) ?_
  refine lv_aload_nQ B.1 B.2.1 dX11_mapRow_32 rfl (lv_at hl 1 rfl) ?_
  obtain ⟨a65, ea65, h⟩ := h
  have ka65 : kO σ a65 5 := g1 a65 ea65
  have h := h ka65
  refine W.eq (g2 := F0 m 33 ls [.ref a65, .int (i32 v5)]) (by rw [ea65]; rfl) ?_
  refine f_geti B hH ka65 (by decide) rfl wu_X5 4 (by decide) wf_X11_198 rfl rfl dX11_mapRow_33 ?_
  refine lv_icmp_ge (tgt := 94) B.1 B.2.1 dX11_mapRow_36 (by decide) (fun h9 => ?_) (fun h9 => ?_)
  · rw [if_pos ((i32_le (hGσ _ _) g5).mp h9)] at h
    exact a_X11_mapRow_94 K hQ hX hTh _ _ _ g3 g4 h hGσ hYσ hE hth _ _ _ hH (lv_sub (l' := [(0, .ref th), (3, va_rf v3), (4, va_rf v4)]) hl [0, 3, 4] rfl) hc
  · rw [if_neg (fun q => h9 ((i32_le (hGσ _ _) g5).mpr q))] at h
    exact a_X11_mapRow_39 K hQ hX hTh hK30 _ _ _ _ _ _ g1 g2 g3 g4 g5 h hGσ hYσ hE hth _ _ _ hH (lv_sub (l' := [(0, .ref th), (1, va_rf v1), (2, va_rf v2), (3, va_rf v3), (4, va_rf v4), (5, .int (i32 v5))]) hl [0, 1, 2, 3, 4, 5] rfl) hc
theorem al_X11_mapRow_30 {Q : Sg → Unit → Prop} {X : Sg → String → Prop} {th : Nat} (K : MD l R p s m args c cX11_mapRow 6 RX11 D cA tys A n0 s0 3 73 []) (hQ : CQV p l e R s m args below meth c cX11_mapRow D cA A n0 s0 QM σi Q) (hX : CX p l e R s m args below meth c 6 D cA A n0 s0 QM σi X) (hTh : CT p l e R s m args below meth c cX11_mapRow 6 D cA A n0 s0 QM σi RX11 X) : ∀ (n : Nat), ∀ (σ : Sg) (v1 : Option Nat) (v2 : Option Nat) (v3 : Option Nat) (v4 : Option Nat) (v5 : Int) (g1 : tyV σ 5 v1) (g2 : tyV σ 10 v2) (g3 : tyV σ 0 v3) (g4 : tyV σ 0 v4) (g5 : rng v5), wl_X11_mapRow_30 th Q X n σ v1 v2 v3 v4 v5 → RG σ → TY σ → Ext σi σ → kO σ th 11 → JJ p l e R s m args below meth c 6 D cA A n0 s0 QM σ 30 [(0, .ref th), (1, va_rf v1), (2, va_rf v2), (3, va_rf v3), (4, va_rf v4), (5, .int (i32 v5))] [] := by
  intro n
  induction n with
  | zero => intro σ v1 v2 v3 v4 v5 g1 g2 g3 g4 g5 h; exact h.elim
  | succ n ih => exact fun σ v1 v2 v3 v4 v5 g1 g2 g3 g4 g5 h => a_X11_mapRow_30 K hQ hX hTh ih σ v1 v2 v3 v4 v5 g1 g2 g3 g4 g5 h
set_option maxRecDepth 20000 in
theorem a_X11_mapRow_0 {Q : Sg → Unit → Prop} {X : Sg → String → Prop} {th : Nat} (K : MD l R p s m args c cX11_mapRow 6 RX11 D cA tys A n0 s0 3 73 []) (hQ : CQV p l e R s m args below meth c cX11_mapRow D cA A n0 s0 QM σi Q) (hX : CX p l e R s m args below meth c 6 D cA A n0 s0 QM σi X) (hTh : CT p l e R s m args below meth c cX11_mapRow 6 D cA A n0 s0 QM σi RX11 X) : ∀ (σ : Sg) (v1 : Option Nat) (v2 : Option Nat) (v3 : Option Nat) (g1 : tyV σ 5 v1) (g2 : tyV σ 10 v2) (g3 : tyV σ 0 v3), w_X11_mapRow_0 th Q X σ v1 v2 v3 → RG σ → TY σ → Ext σi σ → kO σ th 11 → JJ p l e R s m args below meth c 6 D cA A n0 s0 QM σ 0 [(0, .ref th), (1, va_rf v1), (2, va_rf v2), (3, va_rf v3)] [] := by
  intro σ v1 v2 v3 g1 g2 g3 h hGσ hYσ hE hth H locs ls hH hl hc
  have B := K.1
  have hl9 := K.2.2.2.2.2.2
  unfold w_X11_mapRow_0 at h
  refine lv_aload_n B.1 B.2.1 dX11_mapRow_0 rfl (lv_at hl 0 rfl) ?_
  refine f_getp B hH hth (by decide) rfl wu_X11 0 (by decide) wf_X11_22 rfl rfl dX11_mapRow_1 ?_
  obtain ⟨a68, ea68, h⟩ := h
  have ka68 : kO σ a68 8 := (hYσ.get hth (by decide)) a68 ea68
  have h := h ka68
  refine W.eq (g2 := F0 m 4 ls [.ref a68]) (by rw [ea68]; rfl) ?_
  refine c_V B hH hl hc K.2.2.1 (C := RX8) (T := TX8) (N := 3) (ci := 8) (As := []) (ok_X8_fresh hl9 K.2.1 σ a68 ka68 hGσ hYσ h) wc_X11_191 0 hd_X8_fresh ⟨Nat.le_trans (Nat.le_of_ble_eq_true rfl) K.2.2.2.1, Nat.le_trans (Nat.le_of_ble_eq_true rfl) K.2.2.2.2.1⟩ ka68.1 ka68.2 (by decide) rfl rfl (rest := []) rfl (Nat.le_of_ble_eq_true rfl) dX11_mapRow_4 (fun σ66 w hq => ?_) (fun σ9 E9 hx9 => hX σ9 E9 _ _ _ (tb_out K.2.2.2.2.2.1 rfl) hx9.1 hx9.2.1 hx9.2.2.1 (hE.trans hx9.2.2.2))
  obtain ⟨r67, rfl, tr67, h, hGσ66, hYσ66, xσ66⟩ := hq
  have h := h xσ66 tr67
  intro H locs ls hH hl hc
  refine W.eq (g2 := F0 m 7 ls [va_rf r67]) (rfl) ?_
  try dsimp only at h
  refine lv_astoreQ (lv' := [(4, va_rf r67), (0, .ref th), (1, va_rf v1), (2, va_rf v2), (3, va_rf v3)]) B.1 B.2.1 dX11_mapRow_7 hl (by decide) (by generalize v3 = w9; cases w9 <;> rfl) (fun ls hl => ?_)
  refine lv_aloadQ B.1 B.2.1 dX11_mapRow_9 (lv_at hl 0 rfl) ?_
  refine lv_aload_nQ B.1 B.2.1 dX11_mapRow_11 rfl (lv_at hl 4 rfl) ?_
  obtain ⟨a69, ea69, h⟩ := h
  have ka69 : kO σ66 a69 0 := (g3.up xσ66) a69 ea69
  have h := h ka69
  refine W.eq (g2 := F0 m 12 ls [.ref a69, va_rf r67]) (by rw [ea69]; rfl) ?_
  refine f_getl B hH ka69 (by decide) rfl wu_X0 5 (by decide) wf_X11_85 rfl rfl dX11_mapRow_12 ?_
  obtain ⟨a70, ea70, h⟩ := h
  have ka70 : kO σ66 a70 0 := tr67 a70 ea70
  have h := h ka70
  obtain ⟨σ71, eσ71⟩ : ∃ z, z = pJ σ66 a70 5 (gJ σ66 a69 5) := ⟨_, rfl⟩
  have h := h σ71 eσ71
  refine W.eq (g2 := F0 m 15 ls [.long (gJ σ66 a69 5), .ref a70]) (by rw [ea70]; rfl) ?_
  refine f_putl B hH ka70 (by decide) rfl wu_X0 tyX0 tyX0_ok nmX0 5 (by decide) wf_X11_85 rfl (ty := .long) rfl rfl rfl rfl rfl dX11_mapRow_15 (fun H locs hH => ?_)
  have hH : Hd D cA A s (pJ σ66 a70 5 (gJ σ66 a69 5)) H locs := hH
  rw [← eσ71] at hH
  have hGσ71 : RG σ71 := by rw [eσ71]; exact hGσ66.pJ
  have hYσ71 : TY σ71 := by rw [eσ71]; exact hYσ66.pJ
  have xσ71 : Ext σ66 σ71 := by rw [eσ71]; exact Ext.pJ
  have hc : CB n0 s0 σ71 := by rw [eσ71]; exact hc
  rw [show gc σ66 = gc σ71 by rw [eσ71]; try rfl, show gs σ66 = gs σ71 by rw [eσ71]; try rfl]
  refine lv_aloadQ B.1 B.2.1 dX11_mapRow_18 (lv_at hl 0 rfl) ?_
  refine lv_aload_nQ B.1 B.2.1 dX11_mapRow_20 rfl (lv_at hl 4 rfl) ?_
  refine W.eq (g2 := F0 m 21 ls [.ref a69, va_rf r67]) (by rw [ea69]; rfl) ?_
  refine f_geti B hH (ka69.up xσ71) (by decide) rfl wu_X0 4 (by decide) wf_X11_195 rfl rfl dX11_mapRow_21 ?_
  obtain ⟨σ72, eσ72⟩ : ∃ z, z = pI σ71 a70 4 (gI σ71 a69 4) := ⟨_, rfl⟩
  have h := h σ72 eσ72
  refine W.eq (g2 := F0 m 24 ls [.int (i32 (gI σ71 a69 4)), .ref a70]) (by rw [ea70]; rfl) ?_
  refine f_puti B hH (ka70.up xσ71) (by decide) rfl wu_X0 tyX0 tyX0_ok nmX0 4 (by decide) wf_X11_195 rfl (ty := .int) rfl rfl rfl rfl rfl dX11_mapRow_24 (fun H locs hH => ?_)
  have hH : Hd D cA A s (pI σ71 a70 4 (gI σ71 a69 4)) H locs := hH
  rw [← eσ72] at hH
  have hGσ72 : RG σ72 := by rw [eσ72]; exact hGσ71.pI (hGσ71 _ _)
  have hYσ72 : TY σ72 := by rw [eσ72]; exact hYσ71.pI
  have xσ72 : Ext σ71 σ72 := by rw [eσ72]; exact Ext.pI
  have hc : CB n0 s0 σ72 := by rw [eσ72]; exact hc
  rw [show gc σ71 = gc σ72 by rw [eσ72]; try rfl, show gs σ71 = gs σ72 by rw [eσ72]; try rfl]
  refine lv_iconst (v := i32 0) B.1 B.2.1 dX11_mapRow_27 (by decide) ?_
  refine lv_istore (lv' := [(5, .int (i32 0)), (4, va_rf r67), (0, .ref th), (1, va_rf v1), (2, va_rf v2), (3, va_rf v3)]) B.1 B.2.1 dX11_mapRow_28 hl (by decide) (by generalize r67 = w9; cases w9 <;> rfl) (fun ls hl => ?_)
  obtain ⟨n9, h⟩ := h
  exact al_X11_mapRow_30 K hQ hX hTh n9 _ _ _ _ _ _ (g1.up (xσ66.trans (xσ71.trans xσ72))) (g2.up (xσ66.trans (xσ71.trans xσ72))) (g3.up (xσ66.trans (xσ71.trans xσ72))) (tr67.up (xσ71.trans xσ72)) (by unfold rng; omega) h hGσ72 hYσ72 (((hE.trans xσ66).trans xσ71).trans xσ72) (hth.up (xσ66.trans (xσ71.trans xσ72))) _ _ _ hH (lv_sub (l' := [(0, .ref th), (1, va_rf v1), (2, va_rf v2), (3, va_rf v3), (4, va_rf r67), (5, .int (i32 0))]) hl [2, 3, 4, 5, 1, 0] rfl) hc
theorem ok_X11_mapRow (hl0 : l.stackTraces = false) (hT : TyC cA tys) {Q : Sg → Unit → Prop} {X : Sg → String → Prop} (σ : Sg) (th : Nat) (v1 : Option Nat) (v2 : Option Nat) (v3 : Option Nat) (g1 : tyV σ 5 v1) (g2 : tyV σ 10 v2) (g3 : tyV σ 0 v3) (hth : kO σ th 11) (hG : RG σ) (hY : TY σ) (h : wp_X11_mapRow th v1 v2 v3 σ Q X) : Ok l D cA tys A yX11_mapRow (.code yX11_mapRow cX11_mapRow 6 none) 3 73 [.ref th, va_rf v1, va_rf v2, va_rf v3] σ (QcV σ Q) (QxC σ X) := by
  unfold wp_X11_mapRow at h
  exact oc_V hl0 (by decide) (by cases v1 <;> cases v2 <;> cases v3 <;> exact Nat.le_of_ble_eq_true rfl) hT (fun p e R s m args below meth c K hQ hX hTh hin9 H locs ls hH hl hc => a_X11_mapRow_0 K hQ hX hTh σ v1 v2 v3 g1 g2 g3 h hG hY (Ext.rfl' σ) hth H locs ls hH (lv_sub (l' := [(0, .ref th), (1, va_rf v1), (2, va_rf v2), (3, va_rf v3)]) hl [0, 1, 2, 3] (by cases v1 <;> cases v2 <;> cases v3 <;> rfl)) hc)
theorem dX11_matchRow_0 : decode cX11_matchRow 0 = .ok (.iconst 0, 1) := by decide +kernel
theorem dX11_matchRow_1 : decode cX11_matchRow 1 = .ok (.istore 4, 2) := by decide +kernel
theorem dX11_matchRow_3 : decode cX11_matchRow 3 = .ok (.iconst 0, 1) := by decide +kernel
theorem dX11_matchRow_4 : decode cX11_matchRow 4 = .ok (.istore 5, 2) := by decide +kernel
theorem dX11_matchRow_6 : decode cX11_matchRow 6 = .ok (.iload 5, 2) := by decide +kernel
theorem dX11_matchRow_8 : decode cX11_matchRow 8 = .ok (.aload_n 1, 1) := by decide +kernel
theorem dX11_matchRow_9 : decode cX11_matchRow 9 = .ok (.getfield 198, 3) := by decide +kernel
theorem dX11_matchRow_12 : decode cX11_matchRow 12 = .ok (.if_icmp .ge 63, 3) := by decide +kernel
theorem dX11_matchRow_15 : decode cX11_matchRow 15 = .ok (.aload_n 0, 1) := by decide +kernel
theorem dX11_matchRow_16 : decode cX11_matchRow 16 = .ok (.getfield 136, 3) := by decide +kernel
theorem dX11_matchRow_19 : decode cX11_matchRow 19 = .ok (.aload_n 1, 1) := by decide +kernel
theorem dX11_matchRow_20 : decode cX11_matchRow 20 = .ok (.getfield 179, 3) := by decide +kernel
theorem dX11_matchRow_23 : decode cX11_matchRow 23 = .ok (.iload 5, 2) := by decide +kernel
theorem dX11_matchRow_25 : decode cX11_matchRow 25 = .ok (.iaload, 1) := by decide +kernel
theorem dX11_matchRow_26 : decode cX11_matchRow 26 = .ok (.aload_n 3, 1) := by decide +kernel
theorem dX11_matchRow_27 : decode cX11_matchRow 27 = .ok (.invokevirtual 183, 3) := by decide +kernel
theorem dX11_matchRow_30 : decode cX11_matchRow 30 = .ok (.lstore 6, 2) := by decide +kernel
theorem dX11_matchRow_32 : decode cX11_matchRow 32 = .ok (.aload_n 0, 1) := by decide +kernel
theorem dX11_matchRow_33 : decode cX11_matchRow 33 = .ok (.getfield 136, 3) := by decide +kernel
theorem dX11_matchRow_36 : decode cX11_matchRow 36 = .ok (.getfield 187, 3) := by decide +kernel
theorem dX11_matchRow_39 : decode cX11_matchRow 39 = .ok (.ifCond .eq 10, 3) := by decide +kernel
theorem dX11_matchRow_42 : decode cX11_matchRow 42 = .ok (.aload_n 0, 1) := by decide +kernel
theorem dX11_matchRow_43 : decode cX11_matchRow 43 = .ok (.aload_n 2, 1) := by decide +kernel
theorem dX11_matchRow_44 : decode cX11_matchRow 44 = .ok (.aload_n 3, 1) := by decide +kernel
theorem dX11_matchRow_45 : decode cX11_matchRow 45 = .ok (.invokevirtual 53, 3) := by decide +kernel
theorem dX11_matchRow_48 : decode cX11_matchRow 48 = .ok (.return_, 1) := by decide +kernel
theorem dX11_matchRow_49 : decode cX11_matchRow 49 = .ok (.iload 4, 2) := by decide +kernel
theorem dX11_matchRow_51 : decode cX11_matchRow 51 = .ok (.lload 6, 2) := by decide +kernel
theorem dX11_matchRow_53 : decode cX11_matchRow 53 = .ok (.lconst 0, 1) := by decide +kernel
theorem dX11_matchRow_54 : decode cX11_matchRow 54 = .ok (.lcmp, 1) := by decide +kernel
theorem dX11_matchRow_55 : decode cX11_matchRow 55 = .ok (.ifCond .eq 10, 3) := by decide +kernel
theorem dX11_matchRow_58 : decode cX11_matchRow 58 = .ok (.iconst 1, 1) := by decide +kernel
theorem dX11_matchRow_59 : decode cX11_matchRow 59 = .ok (.iload 5, 2) := by decide +kernel
theorem dX11_matchRow_61 : decode cX11_matchRow 61 = .ok (.ishl, 1) := by decide +kernel
theorem dX11_matchRow_62 : decode cX11_matchRow 62 = .ok (.goto 4, 3) := by decide +kernel
theorem dX11_matchRow_65 : decode cX11_matchRow 65 = .ok (.iconst 0, 1) := by decide +kernel
theorem dX11_matchRow_66 : decode cX11_matchRow 66 = .ok (.ior, 1) := by decide +kernel
theorem dX11_matchRow_67 : decode cX11_matchRow 67 = .ok (.istore 4, 2) := by decide +kernel
theorem dX11_matchRow_69 : decode cX11_matchRow 69 = .ok (.iinc 5 1, 3) := by decide +kernel
theorem dX11_matchRow_72 : decode cX11_matchRow 72 = .ok (.goto (-66), 3) := by decide +kernel
theorem dX11_matchRow_75 : decode cX11_matchRow 75 = .ok (.aload_n 3, 1) := by decide +kernel
theorem dX11_matchRow_76 : decode cX11_matchRow 76 = .ok (.iload 4, 2) := by decide +kernel
theorem dX11_matchRow_78 : decode cX11_matchRow 78 = .ok (.putfield 276, 3) := by decide +kernel
theorem dX11_matchRow_81 : decode cX11_matchRow 81 = .ok (.aload_n 3, 1) := by decide +kernel
theorem dX11_matchRow_82 : decode cX11_matchRow 82 = .ok (.aload_n 3, 1) := by decide +kernel
theorem dX11_matchRow_83 : decode cX11_matchRow 83 = .ok (.getfield 64, 3) := by decide +kernel
theorem dX11_matchRow_86 : decode cX11_matchRow 86 = .ok (.aload_n 1, 1) := by decide +kernel
theorem dX11_matchRow_87 : decode cX11_matchRow 87 = .ok (.getfield 69, 3) := by decide +kernel
theorem dX11_matchRow_90 : decode cX11_matchRow 90 = .ok (.laload, 1) := by decide +kernel
theorem dX11_matchRow_91 : decode cX11_matchRow 91 = .ok (.putfield 72, 3) := by decide +kernel
theorem dX11_matchRow_94 : decode cX11_matchRow 94 = .ok (.aload_n 0, 1) := by decide +kernel
theorem dX11_matchRow_95 : decode cX11_matchRow 95 = .ok (.aload_n 1, 1) := by decide +kernel
theorem dX11_matchRow_96 : decode cX11_matchRow 96 = .ok (.aload_n 2, 1) := by decide +kernel
theorem dX11_matchRow_97 : decode cX11_matchRow 97 = .ok (.iconst 0, 1) := by decide +kernel
theorem dX11_matchRow_98 : decode cX11_matchRow 98 = .ok (.aload_n 3, 1) := by decide +kernel
theorem dX11_matchRow_99 : decode cX11_matchRow 99 = .ok (.invokevirtual 95, 3) := by decide +kernel
theorem dX11_matchRow_102 : decode cX11_matchRow 102 = .ok (.return_, 1) := by decide +kernel
set_option maxRecDepth 20000 in
theorem a_X11_matchRow_75 {Q : Sg → Unit → Prop} {X : Sg → String → Prop} {th : Nat} (K : MD l R p s m args c cX11_matchRow 8 RX11 D cA tys A n0 s0 8 135 []) (hQ : CQV p l e R s m args below meth c cX11_matchRow D cA A n0 s0 QM σi Q) (hX : CX p l e R s m args below meth c 8 D cA A n0 s0 QM σi X) (hTh : CT p l e R s m args below meth c cX11_matchRow 8 D cA A n0 s0 QM σi RX11 X) : ∀ (σ : Sg) (v1 : Option Nat) (v2 : Option Nat) (v3 : Option Nat) (v4 : Int) (g1 : tyV σ 5 v1) (g2 : tyV σ 10 v2) (g3 : tyV σ 0 v3) (g4 : rng v4), w_X11_matchRow_75 th Q X σ v1 v2 v3 v4 → RG σ → TY σ → Ext σi σ → kO σ th 11 → JJ p l e R s m args below meth c 8 D cA A n0 s0 QM σ 75 [(0, .ref th), (1, va_rf v1), (2, va_rf v2), (3, va_rf v3), (4, .int (i32 v4))] [] := by
  intro σ v1 v2 v3 v4 g1 g2 g3 g4 h hGσ hYσ hE hth H locs ls hH hl hc
  have B := K.1
  have hl9 := K.2.2.2.2.2.2
  unfold w_X11_matchRow_75 at h
  refine lv_aload_nQ B.1 B.2.1 dX11_matchRow_75 rfl (lv_at hl 3 rfl) ?_
  refine lv_iload B.1 B.2.1 dX11_matchRow_76 (lv_at hl 4 rfl) ?_
  obtain ⟨a29, ea29, h⟩ := h
  have ka29 : kO σ a29 0 := g3 a29 ea29
  have h := h ka29
  obtain ⟨σ30, eσ30⟩ : ∃ z, z = pI σ a29 2 v4 := ⟨_, rfl⟩
  have h := h σ30 eσ30
  refine W.eq (g2 := F0 m 78 ls [.int (i32 v4), .ref a29]) (by rw [ea29]; rfl) ?_
  refine f_puti B hH ka29 (by decide) rfl wu_X0 tyX0 tyX0_ok nmX0 2 (by decide) wf_X11_276 rfl (ty := .int) rfl rfl rfl rfl rfl dX11_matchRow_78 (fun H locs hH => ?_)
  have hH : Hd D cA A s (pI σ a29 2 v4) H locs := hH
  rw [← eσ30] at hH
  have hGσ30 : RG σ30 := by rw [eσ30]; exact hGσ.pI g4
  have hYσ30 : TY σ30 := by rw [eσ30]; exact hYσ.pI
  have xσ30 : Ext σ σ30 := by rw [eσ30]; exact Ext.pI
  have hc : CB n0 s0 σ30 := by rw [eσ30]; exact hc
  rw [show gc σ = gc σ30 by rw [eσ30]; try rfl, show gs σ = gs σ30 by rw [eσ30]; try rfl]
  refine lv_aload_nQ B.1 B.2.1 dX11_matchRow_81 rfl (lv_at hl 3 rfl) ?_
  refine lv_aload_nQ B.1 B.2.1 dX11_matchRow_82 rfl (lv_at hl 3 rfl) ?_
  refine W.eq (g2 := F0 m 83 ls [.ref a29, va_rf v3]) (by rw [ea29]; rfl) ?_
  refine f_getp B hH (ka29.up xσ30) (by decide) rfl wu_X0 0 (by decide) wf_X11_64 rfl rfl dX11_matchRow_83 ?_
  refine lv_aload_nQ B.1 B.2.1 dX11_matchRow_86 rfl (lv_at hl 1 rfl) ?_
  obtain ⟨a31, ea31, h⟩ := h
  have ka31 : kO σ30 a31 5 := (g1.up xσ30) a31 ea31
  have h := h ka31
  refine W.eq (g2 := F0 m 87 ls [.ref a31, va_rf (gP σ30 a29 0), va_rf v3]) (by rw [ea31]; rfl) ?_
  refine f_geti B hH ka31 (by decide) rfl wu_X5 13 (by decide) wf_X11_69 rfl rfl dX11_matchRow_87 ?_
  obtain ⟨a32, ea32, h⟩ := h
  have ka32 : kO σ30 a32 101 := (hYσ30.get (ka29.up xσ30) (by decide)) a32 ea32
  have h := h ka32
  obtain ⟨q1, h⟩ := h
  refine W.eq (g2 := F0 m 90 ls [.int (i32 (gI σ30 a31 13)), .ref a32, va_rf v3]) (by rw [ea32]; rfl) ?_
  refine y_lald B K.2.1 hH ka32 q1 dX11_matchRow_90 (hYσ30.2 _) ?_
  obtain ⟨σ33, eσ33⟩ : ∃ z, z = pJ σ30 a29 7 (gJ σ30 a32 (gI σ30 a31 13).toNat) := ⟨_, rfl⟩
  have h := h σ33 eσ33
  refine W.eq (g2 := F0 m 91 ls [.long (gJ σ30 a32 (gI σ30 a31 13).toNat), .ref a29]) (by rw [ea29]; rfl) ?_
  refine f_putl B hH (ka29.up xσ30) (by decide) rfl wu_X0 tyX0 tyX0_ok nmX0 7 (by decide) wf_X11_72 rfl (ty := .long) rfl rfl rfl rfl rfl dX11_matchRow_91 (fun H locs hH => ?_)
  have hH : Hd D cA A s (pJ σ30 a29 7 (gJ σ30 a32 (gI σ30 a31 13).toNat)) H locs := hH
  rw [← eσ33] at hH
  have hGσ33 : RG σ33 := by rw [eσ33]; exact hGσ30.pJ
  have hYσ33 : TY σ33 := by rw [eσ33]; exact hYσ30.pJ
  have xσ33 : Ext σ30 σ33 := by rw [eσ33]; exact Ext.pJ
  have hc : CB n0 s0 σ33 := by rw [eσ33]; exact hc
  rw [show gc σ30 = gc σ33 by rw [eσ33]; try rfl, show gs σ30 = gs σ33 by rw [eσ33]; try rfl]
  refine lv_aload_n B.1 B.2.1 dX11_matchRow_94 rfl (lv_at hl 0 rfl) ?_
  refine lv_aload_nQ B.1 B.2.1 dX11_matchRow_95 rfl (lv_at hl 1 rfl) ?_
  refine lv_aload_nQ B.1 B.2.1 dX11_matchRow_96 rfl (lv_at hl 2 rfl) ?_
  refine lv_iconst (v := i32 0) B.1 B.2.1 dX11_matchRow_97 (by decide) ?_
  refine lv_aload_nQ B.1 B.2.1 dX11_matchRow_98 rfl (lv_at hl 3 rfl) ?_
  refine W.eq (g2 := F0 m 99 ls [va_rf v3, .int (i32 0), va_rf v2, va_rf v1, .ref th]) (rfl) ?_
  refine c_V B hH hl hc K.2.2.1 (C := RX11) (T := TX11) (N := 6) (ci := 11) (As := [va_rf v1, va_rf v2, .int (i32 0), va_rf v3]) (ok_X11_keep hl9 K.2.1 σ33 th v1 v2 0 v3 (g1.up (xσ30.trans xσ33)) (g2.up (xσ30.trans xσ33)) (by unfold rng; omega) (g3.up (xσ30.trans xσ33)) (hth.up (xσ30.trans xσ33)) hGσ33 hYσ33 h) wc_X11_95 4 hd_X11_keep ⟨Nat.le_trans (Nat.le_of_ble_eq_true rfl) K.2.2.2.1, Nat.le_trans (Nat.le_of_ble_eq_true rfl) K.2.2.2.2.1⟩ (hth.up (xσ30.trans xσ33)).1 (hth.up (xσ30.trans xσ33)).2 (by decide) rfl rfl (rest := []) rfl (Nat.le_of_ble_eq_true rfl) dX11_matchRow_99 (fun σ34 w hq => ?_) (fun σ9 E9 hx9 => hX σ9 E9 _ _ _ (tb_out K.2.2.2.2.2.1 rfl) hx9.1 hx9.2.1 hx9.2.2.1 (((hE.trans xσ30).trans xσ33).trans hx9.2.2.2))
  obtain ⟨rfl, h, hGσ34, hYσ34, xσ34⟩ := hq
  have h := h xσ34
  intro H locs ls hH hl hc
  refine W.eq (g2 := F0 m 102 ls []) (rfl) ?_
  try dsimp only at h
  exact hQ _ _ _ _ _ dX11_matchRow_102 hH hc h hGσ34 hYσ34 (((hE.trans xσ30).trans xσ33).trans xσ34)
set_option maxRecDepth 20000 in
theorem a_X11_matchRow_66 {Q : Sg → Unit → Prop} {X : Sg → String → Prop} {th : Nat} (K : MD l R p s m args c cX11_matchRow 8 RX11 D cA tys A n0 s0 8 135 []) (hQ : CQV p l e R s m args below meth c cX11_matchRow D cA A n0 s0 QM σi Q) (hX : CX p l e R s m args below meth c 8 D cA A n0 s0 QM σi X) (hTh : CT p l e R s m args below meth c cX11_matchRow 8 D cA A n0 s0 QM σi RX11 X) {K6 : Sg → Option Nat → Option Nat → Option Nat → Int → Int → Prop} (hK6 : ∀ (σ : Sg) (v1 : Option Nat) (v2 : Option Nat) (v3 : Option Nat) (v4 : Int) (v5 : Int) (g1 : tyV σ 5 v1) (g2 : tyV σ 10 v2) (g3 : tyV σ 0 v3) (g4 : rng v4) (g5 : rng v5), K6 σ v1 v2 v3 v4 v5 → RG σ → TY σ → Ext σi σ → kO σ th 11 → JJ p l e R s m args below meth c 8 D cA A n0 s0 QM σ 6 [(0, .ref th), (1, va_rf v1), (2, va_rf v2), (3, va_rf v3), (4, .int (i32 v4)), (5, .int (i32 v5))] []) : ∀ (σ : Sg) (v1 : Option Nat) (v2 : Option Nat) (v3 : Option Nat) (v5 : Int) (u0 : Int) (u1 : Int) (g1 : tyV σ 5 v1) (g2 : tyV σ 10 v2) (g3 : tyV σ 0 v3) (g5 : rng v5) (gu0 : rng u0) (gu1 : rng u1), w_X11_matchRow_66 th K6 Q X σ v1 v2 v3 v5 u0 u1 → RG σ → TY σ → Ext σi σ → kO σ th 11 → JJ p l e R s m args below meth c 8 D cA A n0 s0 QM σ 66 [(0, .ref th), (1, va_rf v1), (2, va_rf v2), (3, va_rf v3), (5, .int (i32 v5))] [.int (i32 u0), .int (i32 u1)] := by
  intro σ v1 v2 v3 v5 u0 u1 g1 g2 g3 g5 gu0 gu1 h hGσ hYσ hE hth H locs ls hH hl hc
  have B := K.1
  have hl9 := K.2.2.2.2.2.2
  unfold w_X11_matchRow_66 at h
  refine lv_ior B.1 B.2.1 dX11_matchRow_66 ?_
  refine W.eq (g2 := F0 m 67 ls [.int (i32 (orI u1 u0))]) (by simp only [andI, orI, shlI, shrI, i32_self]) ?_
  refine lv_istore (lv' := [(4, .int (i32 (orI u1 u0))), (0, .ref th), (1, va_rf v1), (2, va_rf v2), (3, va_rf v3), (5, .int (i32 v5))]) B.1 B.2.1 dX11_matchRow_67 hl (by decide) (by generalize v3 = w9; cases w9 <;> rfl) (fun ls hl => ?_)
  obtain ⟨q1, h⟩ := h
  refine lv_iinc (k := 5) (v := i32 (v5 + 1)) (lv' := [(5, .int (i32 (v5 + 1))), (4, .int (i32 (orI u1 u0))), (0, .ref th), (1, va_rf v1), (2, va_rf v2), (3, va_rf v3)]) B.1 B.2.1 dX11_matchRow_69 hl rfl (i32_add _ _) (by decide) rfl (fun ls hl => ?_)
  refine lv_goto (tgt := 6) B.1 B.2.1 dX11_matchRow_72 (by decide) ?_
  exact hK6 _ _ _ _ _ _ g1 g2 g3 (rng_orI _ _) q1 h hGσ hYσ hE hth _ _ _ hH (lv_sub (l' := [(0, .ref th), (1, va_rf v1), (2, va_rf v2), (3, va_rf v3), (4, .int (i32 (orI u1 u0))), (5, .int (i32 (v5 + 1)))]) hl [2, 3, 4, 5, 1, 0] rfl) hc
set_option maxRecDepth 20000 in
theorem a_X11_matchRow_65 {Q : Sg → Unit → Prop} {X : Sg → String → Prop} {th : Nat} (K : MD l R p s m args c cX11_matchRow 8 RX11 D cA tys A n0 s0 8 135 []) (hQ : CQV p l e R s m args below meth c cX11_matchRow D cA A n0 s0 QM σi Q) (hX : CX p l e R s m args below meth c 8 D cA A n0 s0 QM σi X) (hTh : CT p l e R s m args below meth c cX11_matchRow 8 D cA A n0 s0 QM σi RX11 X) {K6 : Sg → Option Nat → Option Nat → Option Nat → Int → Int → Prop} (hK6 : ∀ (σ : Sg) (v1 : Option Nat) (v2 : Option Nat) (v3 : Option Nat) (v4 : Int) (v5 : Int) (g1 : tyV σ 5 v1) (g2 : tyV σ 10 v2) (g3 : tyV σ 0 v3) (g4 : rng v4) (g5 : rng v5), K6 σ v1 v2 v3 v4 v5 → RG σ → TY σ → Ext σi σ → kO σ th 11 → JJ p l e R s m args below meth c 8 D cA A n0 s0 QM σ 6 [(0, .ref th), (1, va_rf v1), (2, va_rf v2), (3, va_rf v3), (4, .int (i32 v4)), (5, .int (i32 v5))] []) : ∀ (σ : Sg) (v1 : Option Nat) (v2 : Option Nat) (v3 : Option Nat) (v5 : Int) (u0 : Int) (g1 : tyV σ 5 v1) (g2 : tyV σ 10 v2) (g3 : tyV σ 0 v3) (g5 : rng v5) (gu0 : rng u0), w_X11_matchRow_65 th K6 Q X σ v1 v2 v3 v5 u0 → RG σ → TY σ → Ext σi σ → kO σ th 11 → JJ p l e R s m args below meth c 8 D cA A n0 s0 QM σ 65 [(0, .ref th), (1, va_rf v1), (2, va_rf v2), (3, va_rf v3), (5, .int (i32 v5))] [.int (i32 u0)] := by
  intro σ v1 v2 v3 v5 u0 g1 g2 g3 g5 gu0 h hGσ hYσ hE hth H locs ls hH hl hc
  have B := K.1
  have hl9 := K.2.2.2.2.2.2
  unfold w_X11_matchRow_65 at h
  refine lv_iconst (v := i32 0) B.1 B.2.1 dX11_matchRow_65 (by decide) ?_
  exact a_X11_matchRow_66 K hQ hX hTh hK6 _ _ _ _ _ _ _ g1 g2 g3 g5 (by unfold rng; omega) gu0 h hGσ hYσ hE hth _ _ _ hH (lv_sub (l' := [(0, .ref th), (1, va_rf v1), (2, va_rf v2), (3, va_rf v3), (5, .int (i32 v5))]) hl [0, 1, 2, 3, 4] rfl) hc
set_option maxRecDepth 20000 in
theorem a_X11_matchRow_58 {Q : Sg → Unit → Prop} {X : Sg → String → Prop} {th : Nat} (K : MD l R p s m args c cX11_matchRow 8 RX11 D cA tys A n0 s0 8 135 []) (hQ : CQV p l e R s m args below meth c cX11_matchRow D cA A n0 s0 QM σi Q) (hX : CX p l e R s m args below meth c 8 D cA A n0 s0 QM σi X) (hTh : CT p l e R s m args below meth c cX11_matchRow 8 D cA A n0 s0 QM σi RX11 X) {K6 : Sg → Option Nat → Option Nat → Option Nat → Int → Int → Prop} (hK6 : ∀ (σ : Sg) (v1 : Option Nat) (v2 : Option Nat) (v3 : Option Nat) (v4 : Int) (v5 : Int) (g1 : tyV σ 5 v1) (g2 : tyV σ 10 v2) (g3 : tyV σ 0 v3) (g4 : rng v4) (g5 : rng v5), K6 σ v1 v2 v3 v4 v5 → RG σ → TY σ → Ext σi σ → kO σ th 11 → JJ p l e R s m args below meth c 8 D cA A n0 s0 QM σ 6 [(0, .ref th), (1, va_rf v1), (2, va_rf v2), (3, va_rf v3), (4, .int (i32 v4)), (5, .int (i32 v5))] []) : ∀ (σ : Sg) (v1 : Option Nat) (v2 : Option Nat) (v3 : Option Nat) (v5 : Int) (u0 : Int) (g1 : tyV σ 5 v1) (g2 : tyV σ 10 v2) (g3 : tyV σ 0 v3) (g5 : rng v5) (gu0 : rng u0), w_X11_matchRow_58 th K6 Q X σ v1 v2 v3 v5 u0 → RG σ → TY σ → Ext σi σ → kO σ th 11 → JJ p l e R s m args below meth c 8 D cA A n0 s0 QM σ 58 [(0, .ref th), (1, va_rf v1), (2, va_rf v2), (3, va_rf v3), (5, .int (i32 v5))] [.int (i32 u0)] := by
  intro σ v1 v2 v3 v5 u0 g1 g2 g3 g5 gu0 h hGσ hYσ hE hth H locs ls hH hl hc
  have B := K.1
  have hl9 := K.2.2.2.2.2.2
  unfold w_X11_matchRow_58 at h
  refine lv_iconst (v := i32 1) B.1 B.2.1 dX11_matchRow_58 (by decide) ?_
  refine lv_iload B.1 B.2.1 dX11_matchRow_59 (lv_at hl 4 rfl) ?_
  refine lv_ishl B.1 B.2.1 dX11_matchRow_61 ?_
  refine W.eq (g2 := F0 m 62 ls [.int (i32 (shlI 1 v5)), .int (i32 u0)]) (by simp only [andI, orI, shlI, shrI, i32_self]) ?_
  refine lv_goto (tgt := 66) B.1 B.2.1 dX11_matchRow_62 (by decide) ?_
  exact a_X11_matchRow_66 K hQ hX hTh hK6 _ _ _ _ _ _ _ g1 g2 g3 g5 (rng_shlI _ _) gu0 h hGσ hYσ hE hth _ _ _ hH (lv_sub (l' := [(0, .ref th), (1, va_rf v1), (2, va_rf v2), (3, va_rf v3), (5, .int (i32 v5))]) hl [0, 1, 2, 3, 4] rfl) hc
set_option maxRecDepth 20000 in
theorem a_X11_matchRow_49 {Q : Sg → Unit → Prop} {X : Sg → String → Prop} {th : Nat} (K : MD l R p s m args c cX11_matchRow 8 RX11 D cA tys A n0 s0 8 135 []) (hQ : CQV p l e R s m args below meth c cX11_matchRow D cA A n0 s0 QM σi Q) (hX : CX p l e R s m args below meth c 8 D cA A n0 s0 QM σi X) (hTh : CT p l e R s m args below meth c cX11_matchRow 8 D cA A n0 s0 QM σi RX11 X) {K6 : Sg → Option Nat → Option Nat → Option Nat → Int → Int → Prop} (hK6 : ∀ (σ : Sg) (v1 : Option Nat) (v2 : Option Nat) (v3 : Option Nat) (v4 : Int) (v5 : Int) (g1 : tyV σ 5 v1) (g2 : tyV σ 10 v2) (g3 : tyV σ 0 v3) (g4 : rng v4) (g5 : rng v5), K6 σ v1 v2 v3 v4 v5 → RG σ → TY σ → Ext σi σ → kO σ th 11 → JJ p l e R s m args below meth c 8 D cA A n0 s0 QM σ 6 [(0, .ref th), (1, va_rf v1), (2, va_rf v2), (3, va_rf v3), (4, .int (i32 v4)), (5, .int (i32 v5))] []) : ∀ (σ : Sg) (v1 : Option Nat) (v2 : Option Nat) (v3 : Option Nat) (v4 : Int) (v5 : Int) (v6 : Int64) (g1 : tyV σ 5 v1) (g2 : tyV σ 10 v2) (g3 : tyV σ 0 v3) (g4 : rng v4) (g5 : rng v5), w_X11_matchRow_49 th K6 Q X σ v1 v2 v3 v4 v5 v6 → RG σ → TY σ → Ext σi σ → kO σ th 11 → JJ p l e R s m args below meth c 8 D cA A n0 s0 QM σ 49 [(0, .ref th), (1, va_rf v1), (2, va_rf v2), (3, va_rf v3), (4, .int (i32 v4)), (5, .int (i32 v5)), (6, .long v6)] [] := by
  intro σ v1 v2 v3 v4 v5 v6 g1 g2 g3 g4 g5 h hGσ hYσ hE hth H locs ls hH hl hc
  have B := K.1
  have hl9 := K.2.2.2.2.2.2
  unfold w_X11_matchRow_49 at h
  refine lv_iload B.1 B.2.1 dX11_matchRow_49 (lv_at hl 4 rfl) ?_
  refine lv_lload B.1 B.2.1 dX11_matchRow_51 (lv_at hl 6 rfl) ?_
  refine lv_lconst (v := 0) B.1 B.2.1 dX11_matchRow_53 (by decide) ?_
  refine W.lcmp B.1 B.2.1 dX11_matchRow_54 ?_
  refine lv_if_eq (tgt := 65) B.1 B.2.1 dX11_matchRow_55 (by decide) (fun h9 => ?_) (fun h9 => ?_)
  · rw [if_pos ((lg_cmp_eq _ _).mp h9)] at h
    exact a_X11_matchRow_65 K hQ hX hTh hK6 _ _ _ _ _ _ g1 g2 g3 g5 g4 h hGσ hYσ hE hth _ _ _ hH (lv_sub (l' := [(0, .ref th), (1, va_rf v1), (2, va_rf v2), (3, va_rf v3), (5, .int (i32 v5))]) hl [0, 1, 2, 3, 5] rfl) hc
  · rw [if_neg (fun q => h9 ((lg_cmp_eq _ _).mpr q))] at h
    exact a_X11_matchRow_58 K hQ hX hTh hK6 _ _ _ _ _ _ g1 g2 g3 g5 g4 h hGσ hYσ hE hth _ _ _ hH (lv_sub (l' := [(0, .ref th), (1, va_rf v1), (2, va_rf v2), (3, va_rf v3), (5, .int (i32 v5))]) hl [0, 1, 2, 3, 5] rfl) hc
set_option maxRecDepth 20000 in
theorem a_X11_matchRow_42 {Q : Sg → Unit → Prop} {X : Sg → String → Prop} {th : Nat} (K : MD l R p s m args c cX11_matchRow 8 RX11 D cA tys A n0 s0 8 135 []) (hQ : CQV p l e R s m args below meth c cX11_matchRow D cA A n0 s0 QM σi Q) (hX : CX p l e R s m args below meth c 8 D cA A n0 s0 QM σi X) (hTh : CT p l e R s m args below meth c cX11_matchRow 8 D cA A n0 s0 QM σi RX11 X) : ∀ (σ : Sg) (v2 : Option Nat) (v3 : Option Nat) (g2 : tyV σ 10 v2) (g3 : tyV σ 0 v3), w_X11_matchRow_42 th Q X σ v2 v3 → RG σ → TY σ → Ext σi σ → kO σ th 11 → JJ p l e R s m args below meth c 8 D cA A n0 s0 QM σ 42 [(0, .ref th), (2, va_rf v2), (3, va_rf v3)] [] := by
  intro σ v2 v3 g2 g3 h hGσ hYσ hE hth H locs ls hH hl hc
  have B := K.1
  have hl9 := K.2.2.2.2.2.2
  unfold w_X11_matchRow_42 at h
  refine lv_aload_n B.1 B.2.1 dX11_matchRow_42 rfl (lv_at hl 0 rfl) ?_
  refine lv_aload_nQ B.1 B.2.1 dX11_matchRow_43 rfl (lv_at hl 1 rfl) ?_
  refine lv_aload_nQ B.1 B.2.1 dX11_matchRow_44 rfl (lv_at hl 2 rfl) ?_
  refine W.eq (g2 := F0 m 45 ls [va_rf v3, va_rf v2, .ref th]) (rfl) ?_
  refine c_V B hH hl hc K.2.2.1 (C := RX11) (T := TX11) (N := 6) (ci := 11) (As := [va_rf v2, va_rf v3]) (ok_X11_putAside hl9 K.2.1 σ th v2 v3 g2 g3 hth hGσ hYσ h) wc_X11_53 2 hd_X11_putAside ⟨Nat.le_trans (Nat.le_of_ble_eq_true rfl) K.2.2.2.1, Nat.le_trans (Nat.le_of_ble_eq_true rfl) K.2.2.2.2.1⟩ hth.1 hth.2 (by decide) rfl rfl (rest := []) rfl (Nat.le_of_ble_eq_true rfl) dX11_matchRow_45 (fun σ35 w hq => ?_) (fun σ9 E9 hx9 => hX σ9 E9 _ _ _ (tb_out K.2.2.2.2.2.1 rfl) hx9.1 hx9.2.1 hx9.2.2.1 (hE.trans hx9.2.2.2))
  obtain ⟨rfl, h, hGσ35, hYσ35, xσ35⟩ := hq
  have h := h xσ35
  intro H locs ls hH hl hc
  refine W.eq (g2 := F0 m 48 ls []) (rfl) ?_
  try dsimp only at h
  exact hQ _ _ _ _ _ dX11_matchRow_48 hH hc h hGσ35 hYσ35 (hE.trans xσ35)
set_option maxRecDepth 20000 in
theorem a_X11_matchRow_15 {Q : Sg → Unit → Prop} {X : Sg → String → Prop} {th : Nat} (K : MD l R p s m args c cX11_matchRow 8 RX11 D cA tys A n0 s0 8 135 []) (hQ : CQV p l e R s m args below meth c cX11_matchRow D cA A n0 s0 QM σi Q) (hX : CX p l e R s m args below meth c 8 D cA A n0 s0 QM σi X) (hTh : CT p l e R s m args below meth c cX11_matchRow 8 D cA A n0 s0 QM σi RX11 X) {K6 : Sg → Option Nat → Option Nat → Option Nat → Int → Int → Prop} (hK6 : ∀ (σ : Sg) (v1 : Option Nat) (v2 : Option Nat) (v3 : Option Nat) (v4 : Int) (v5 : Int) (g1 : tyV σ 5 v1) (g2 : tyV σ 10 v2) (g3 : tyV σ 0 v3) (g4 : rng v4) (g5 : rng v5), K6 σ v1 v2 v3 v4 v5 → RG σ → TY σ → Ext σi σ → kO σ th 11 → JJ p l e R s m args below meth c 8 D cA A n0 s0 QM σ 6 [(0, .ref th), (1, va_rf v1), (2, va_rf v2), (3, va_rf v3), (4, .int (i32 v4)), (5, .int (i32 v5))] []) : ∀ (σ : Sg) (v1 : Option Nat) (v2 : Option Nat) (v3 : Option Nat) (v4 : Int) (v5 : Int) (g1 : tyV σ 5 v1) (g2 : tyV σ 10 v2) (g3 : tyV σ 0 v3) (g4 : rng v4) (g5 : rng v5), w_X11_matchRow_15 th K6 Q X σ v1 v2 v3 v4 v5 → RG σ → TY σ → Ext σi σ → kO σ th 11 → JJ p l e R s m args below meth c 8 D cA A n0 s0 QM σ 15 [(0, .ref th), (1, va_rf v1), (2, va_rf v2), (3, va_rf v3), (4, .int (i32 v4)), (5, .int (i32 v5))] [] := by
  intro σ v1 v2 v3 v4 v5 g1 g2 g3 g4 g5 h hGσ hYσ hE hth H locs ls hH hl hc
  have B := K.1
  have hl9 := K.2.2.2.2.2.2
  unfold w_X11_matchRow_15 at h
  refine lv_aload_n B.1 B.2.1 dX11_matchRow_15 rfl (lv_at hl 0 rfl) ?_
  refine f_getp B hH hth (by decide) rfl wu_X11 5 (by decide) wf_X11_136 rfl rfl dX11_matchRow_16 ?_
  refine lv_aload_nQ B.1 B.2.1 dX11_matchRow_19 rfl (lv_at hl 1 rfl) ?_
  obtain ⟨a36, ea36, h⟩ := h
  have ka36 : kO σ a36 5 := g1 a36 ea36
  have h := h ka36
  refine W.eq (g2 := F0 m 20 ls [.ref a36, va_rf (gP σ th 5)]) (by rw [ea36]; rfl) ?_
  refine f_getp B hH ka36 (by decide) rfl wu_X5 1 (by decide) wf_X11_179 rfl rfl dX11_matchRow_20 ?_
  refine lv_iload B.1 B.2.1 dX11_matchRow_23 (lv_at hl 5 rfl) ?_
  obtain ⟨a37, ea37, h⟩ := h
  have ka37 : kO σ a37 100 := (hYσ.get ka36 (by decide)) a37 ea37
  have h := h ka37
  obtain ⟨q1, h⟩ := h
  refine W.eq (g2 := F0 m 25 ls [.int (i32 v5), .ref a37, va_rf (gP σ th 5)]) (by rw [ea37]; rfl) ?_
  refine y_iald B K.2.1 hH ka37 q1 dX11_matchRow_25 (hYσ.2 _) ?_
  refine lv_aload_nQ B.1 B.2.1 dX11_matchRow_26 rfl (lv_at hl 3 rfl) ?_
  obtain ⟨a40, ea40, h⟩ := h
  have ka40 : kO σ a40 4 := (hYσ.get hth (by decide)) a40 ea40
  have h := h ka40
  refine W.eq (g2 := F0 m 27 ls [va_rf v3, .int (i32 (gI σ a37 v5.toNat)), .ref a40]) (by rw [ea40]; rfl) ?_
  refine c_V B hH hl hc K.2.2.1 (C := RX4) (T := TX4) (N := 14) (ci := 4) (As := [.int (i32 (gI σ a37 v5.toNat)), va_rf v3]) (ok_X4_value hl9 K.2.1 σ a40 (gI σ a37 v5.toNat) v3 (hGσ _ _) g3 ka40 hGσ hYσ h) wc_X11_183 2 hd_X4_value ⟨Nat.le_trans (Nat.le_of_ble_eq_true rfl) K.2.2.2.1, Nat.le_trans (Nat.le_of_ble_eq_true rfl) K.2.2.2.2.1⟩ ka40.1 ka40.2 (by decide) rfl rfl (rest := []) rfl (Nat.le_of_ble_eq_true rfl) dX11_matchRow_27 (fun σ38 w hq => ?_) (fun σ9 E9 hx9 => hX σ9 E9 _ _ _ (tb_out K.2.2.2.2.2.1 rfl) hx9.1 hx9.2.1 hx9.2.2.1 (hE.trans hx9.2.2.2))
  obtain ⟨r39, rfl, h, hGσ38, hYσ38, xσ38⟩ := hq
  have h := h xσ38
  intro H locs ls hH hl hc
  refine W.eq (g2 := F0 m 30 ls [.long r39]) (rfl) ?_
  try dsimp only at h
  refine lv_lstore (lv' := [(6, .long r39), (0, .ref th), (1, va_rf v1), (2, va_rf v2), (3, va_rf v3), (4, .int (i32 v4)), (5, .int (i32 v5))]) B.1 B.2.1 dX11_matchRow_30 hl (by decide) rfl (fun ls hl => ?_)
  refine lv_aload_n B.1 B.2.1 dX11_matchRow_32 rfl (lv_at hl 1 rfl) ?_
  refine f_getp B hH (hth.up xσ38) (by decide) rfl wu_X11 5 (by decide) wf_X11_136 rfl rfl dX11_matchRow_33 ?_
  obtain ⟨a41, ea41, h⟩ := h
  have ka41 : kO σ38 a41 4 := (hYσ38.get (hth.up xσ38) (by decide)) a41 ea41
  have h := h ka41
  refine W.eq (g2 := F0 m 36 ls [.ref a41]) (by rw [ea41]; rfl) ?_
  refine f_geti B hH ka41 (by decide) rfl wu_X4 10 (by decide) wf_X11_187 rfl rfl dX11_matchRow_36 ?_
  refine lv_if_eq (tgt := 49) B.1 B.2.1 dX11_matchRow_39 (by decide) (fun h9 => ?_) (fun h9 => ?_)
  · rw [if_pos ((z_eq (hGσ38 _ _)).mp h9)] at h
    exact a_X11_matchRow_49 K hQ hX hTh hK6 _ _ _ _ _ _ _ (g1.up xσ38) (g2.up xσ38) (g3.up xσ38) g4 g5 h hGσ38 hYσ38 (hE.trans xσ38) (hth.up xσ38) _ _ _ hH (lv_sub (l' := [(0, .ref th), (1, va_rf v1), (2, va_rf v2), (3, va_rf v3), (4, .int (i32 v4)), (5, .int (i32 v5)), (6, .long r39)]) hl [1, 2, 3, 4, 5, 6, 0] rfl) hc
  · rw [if_neg (fun q => h9 ((z_eq (hGσ38 _ _)).mpr q))] at h
    exact a_X11_matchRow_42 K hQ hX hTh _ _ _ (g2.up xσ38) (g3.up xσ38) h hGσ38 hYσ38 (hE.trans xσ38) (hth.up xσ38) _ _ _ hH (lv_sub (l' := [(0, .ref th), (2, va_rf v2), (3, va_rf v3)]) hl [1, 3, 4] rfl) hc
set_option maxRecDepth 20000 in
theorem a_X11_matchRow_6 {Q : Sg → Unit → Prop} {X : Sg → String → Prop} {th : Nat} (K : MD l R p s m args c cX11_matchRow 8 RX11 D cA tys A n0 s0 8 135 []) (hQ : CQV p l e R s m args below meth c cX11_matchRow D cA A n0 s0 QM σi Q) (hX : CX p l e R s m args below meth c 8 D cA A n0 s0 QM σi X) (hTh : CT p l e R s m args below meth c cX11_matchRow 8 D cA A n0 s0 QM σi RX11 X) {K6 : Sg → Option Nat → Option Nat → Option Nat → Int → Int → Prop} (hK6 : ∀ (σ : Sg) (v1 : Option Nat) (v2 : Option Nat) (v3 : Option Nat) (v4 : Int) (v5 : Int) (g1 : tyV σ 5 v1) (g2 : tyV σ 10 v2) (g3 : tyV σ 0 v3) (g4 : rng v4) (g5 : rng v5), K6 σ v1 v2 v3 v4 v5 → RG σ → TY σ → Ext σi σ → kO σ th 11 → JJ p l e R s m args below meth c 8 D cA A n0 s0 QM σ 6 [(0, .ref th), (1, va_rf v1), (2, va_rf v2), (3, va_rf v3), (4, .int (i32 v4)), (5, .int (i32 v5))] []) : ∀ (σ : Sg) (v1 : Option Nat) (v2 : Option Nat) (v3 : Option Nat) (v4 : Int) (v5 : Int) (g1 : tyV σ 5 v1) (g2 : tyV σ 10 v2) (g3 : tyV σ 0 v3) (g4 : rng v4) (g5 : rng v5), w_X11_matchRow_6 th K6 Q X σ v1 v2 v3 v4 v5 → RG σ → TY σ → Ext σi σ → kO σ th 11 → JJ p l e R s m args below meth c 8 D cA A n0 s0 QM σ 6 [(0, .ref th), (1, va_rf v1), (2, va_rf v2), (3, va_rf v3), (4, .int (i32 v4)), (5, .int (i32 v5))] [] := by
  intro σ v1 v2 v3 v4 v5 g1 g2 g3 g4 g5 h hGσ hYσ hE hth H locs ls hH hl hc
  have B := K.1
  have hl9 := K.2.2.2.2.2.2
  unfold w_X11_matchRow_6 at h
  refine lv_iload B.1 B.2.1 dX11_matchRow_6 (lv_at hl 5 rfl) ?_
  refine lv_aload_nQ B.1 B.2.1 dX11_matchRow_8 rfl (lv_at hl 1 rfl) ?_
  obtain ⟨a42, ea42, h⟩ := h
  have ka42 : kO σ a42 5 := g1 a42 ea42
  have h := h ka42
  refine W.eq (g2 := F0 m 9 ls [.ref a42, .int (i32 v5)]) (by rw [ea42]; rfl) ?_
  refine f_geti B hH ka42 (by decide) rfl wu_X5 4 (by decide) wf_X11_198 rfl rfl dX11_matchRow_9 ?_
  refine lv_icmp_ge (tgt := 75) B.1 B.2.1 dX11_matchRow_12 (by decide) (fun h9 => ?_) (fun h9 => ?_)
  · rw [if_pos ((i32_le (hGσ _ _) g5).mp h9)] at h
    exact a_X11_matchRow_75 K hQ hX hTh _ _ _ _ _ g1 g2 g3 g4 h hGσ hYσ hE hth _ _ _ hH (lv_sub (l' := [(0, .ref th), (1, va_rf v1), (2, va_rf v2), (3, va_rf v3), (4, .int (i32 v4))]) hl [0, 1, 2, 3, 4] rfl) hc
  · rw [if_neg (fun q => h9 ((i32_le (hGσ _ _) g5).mpr q))] at h
    exact a_X11_matchRow_15 K hQ hX hTh hK6 _ _ _ _ _ _ g1 g2 g3 g4 g5 h hGσ hYσ hE hth _ _ _ hH (lv_sub (l' := [(0, .ref th), (1, va_rf v1), (2, va_rf v2), (3, va_rf v3), (4, .int (i32 v4)), (5, .int (i32 v5))]) hl [0, 1, 2, 3, 4, 5] rfl) hc
theorem al_X11_matchRow_6 {Q : Sg → Unit → Prop} {X : Sg → String → Prop} {th : Nat} (K : MD l R p s m args c cX11_matchRow 8 RX11 D cA tys A n0 s0 8 135 []) (hQ : CQV p l e R s m args below meth c cX11_matchRow D cA A n0 s0 QM σi Q) (hX : CX p l e R s m args below meth c 8 D cA A n0 s0 QM σi X) (hTh : CT p l e R s m args below meth c cX11_matchRow 8 D cA A n0 s0 QM σi RX11 X) : ∀ (n : Nat), ∀ (σ : Sg) (v1 : Option Nat) (v2 : Option Nat) (v3 : Option Nat) (v4 : Int) (v5 : Int) (g1 : tyV σ 5 v1) (g2 : tyV σ 10 v2) (g3 : tyV σ 0 v3) (g4 : rng v4) (g5 : rng v5), wl_X11_matchRow_6 th Q X n σ v1 v2 v3 v4 v5 → RG σ → TY σ → Ext σi σ → kO σ th 11 → JJ p l e R s m args below meth c 8 D cA A n0 s0 QM σ 6 [(0, .ref th), (1, va_rf v1), (2, va_rf v2), (3, va_rf v3), (4, .int (i32 v4)), (5, .int (i32 v5))] [] := by
  intro n
  induction n with
  | zero => intro σ v1 v2 v3 v4 v5 g1 g2 g3 g4 g5 h; exact h.elim
  | succ n ih => exact fun σ v1 v2 v3 v4 v5 g1 g2 g3 g4 g5 h => a_X11_matchRow_6 K hQ hX hTh ih σ v1 v2 v3 v4 v5 g1 g2 g3 g4 g5 h
set_option maxRecDepth 20000 in
theorem a_X11_matchRow_0 {Q : Sg → Unit → Prop} {X : Sg → String → Prop} {th : Nat} (K : MD l R p s m args c cX11_matchRow 8 RX11 D cA tys A n0 s0 8 135 []) (hQ : CQV p l e R s m args below meth c cX11_matchRow D cA A n0 s0 QM σi Q) (hX : CX p l e R s m args below meth c 8 D cA A n0 s0 QM σi X) (hTh : CT p l e R s m args below meth c cX11_matchRow 8 D cA A n0 s0 QM σi RX11 X) : ∀ (σ : Sg) (v1 : Option Nat) (v2 : Option Nat) (v3 : Option Nat) (g1 : tyV σ 5 v1) (g2 : tyV σ 10 v2) (g3 : tyV σ 0 v3), w_X11_matchRow_0 th Q X σ v1 v2 v3 → RG σ → TY σ → Ext σi σ → kO σ th 11 → JJ p l e R s m args below meth c 8 D cA A n0 s0 QM σ 0 [(0, .ref th), (1, va_rf v1), (2, va_rf v2), (3, va_rf v3)] [] := by
  intro σ v1 v2 v3 g1 g2 g3 h hGσ hYσ hE hth H locs ls hH hl hc
  have B := K.1
  have hl9 := K.2.2.2.2.2.2
  unfold w_X11_matchRow_0 at h
  refine lv_iconst (v := i32 0) B.1 B.2.1 dX11_matchRow_0 (by decide) ?_
  refine lv_istore (lv' := [(4, .int (i32 0)), (0, .ref th), (1, va_rf v1), (2, va_rf v2), (3, va_rf v3)]) B.1 B.2.1 dX11_matchRow_1 hl (by decide) (by generalize v3 = w9; cases w9 <;> rfl) (fun ls hl => ?_)
  refine lv_iconst (v := i32 0) B.1 B.2.1 dX11_matchRow_3 (by decide) ?_
  refine lv_istore (lv' := [(5, .int (i32 0)), (4, .int (i32 0)), (0, .ref th), (1, va_rf v1), (2, va_rf v2), (3, va_rf v3)]) B.1 B.2.1 dX11_matchRow_4 hl (by decide) rfl (fun ls hl => ?_)
  obtain ⟨n9, h⟩ := h
  exact al_X11_matchRow_6 K hQ hX hTh n9 _ _ _ _ _ _ g1 g2 g3 (by unfold rng; omega) (by unfold rng; omega) h hGσ hYσ hE hth _ _ _ hH (lv_sub (l' := [(0, .ref th), (1, va_rf v1), (2, va_rf v2), (3, va_rf v3), (4, .int (i32 0)), (5, .int (i32 0))]) hl [2, 3, 4, 5, 1, 0] rfl) hc
theorem ok_X11_matchRow (hl0 : l.stackTraces = false) (hT : TyC cA tys) {Q : Sg → Unit → Prop} {X : Sg → String → Prop} (σ : Sg) (th : Nat) (v1 : Option Nat) (v2 : Option Nat) (v3 : Option Nat) (g1 : tyV σ 5 v1) (g2 : tyV σ 10 v2) (g3 : tyV σ 0 v3) (hth : kO σ th 11) (hG : RG σ) (hY : TY σ) (h : wp_X11_matchRow th v1 v2 v3 σ Q X) : Ok l D cA tys A yX11_matchRow (.code yX11_matchRow cX11_matchRow 8 none) 8 135 [.ref th, va_rf v1, va_rf v2, va_rf v3] σ (QcV σ Q) (QxC σ X) := by
  unfold wp_X11_matchRow at h
  exact oc_V hl0 (by decide) (by cases v1 <;> cases v2 <;> cases v3 <;> exact Nat.le_of_ble_eq_true rfl) hT (fun p e R s m args below meth c K hQ hX hTh hin9 H locs ls hH hl hc => a_X11_matchRow_0 K hQ hX hTh σ v1 v2 v3 g1 g2 g3 h hG hY (Ext.rfl' σ) hth H locs ls hH (lv_sub (l' := [(0, .ref th), (1, va_rf v1), (2, va_rf v2), (3, va_rf v3)]) hl [0, 1, 2, 3] (by cases v1 <;> cases v2 <;> cases v3 <;> rfl)) hc)
theorem dX11_measure_0 : decode cX11_measure 0 = .ok (.iconst 0, 1) := by decide +kernel
theorem dX11_measure_1 : decode cX11_measure 1 = .ok (.istore_n 3, 1) := by decide +kernel
theorem dX11_measure_2 : decode cX11_measure 2 = .ok (.iload_n 3, 1) := by decide +kernel
theorem dX11_measure_3 : decode cX11_measure 3 = .ok (.aload_n 1, 1) := by decide +kernel
theorem dX11_measure_4 : decode cX11_measure 4 = .ok (.getfield 198, 3) := by decide +kernel
theorem dX11_measure_7 : decode cX11_measure 7 = .ok (.if_icmp .ge 62, 3) := by decide +kernel
theorem dX11_measure_10 : decode cX11_measure 10 = .ok (.iload_n 3, 1) := by decide +kernel
theorem dX11_measure_11 : decode cX11_measure 11 = .ok (.iconst 4, 1) := by decide +kernel
theorem dX11_measure_12 : decode cX11_measure 12 = .ok (.if_icmp .ge 57, 3) := by decide +kernel
theorem dX11_measure_15 : decode cX11_measure 15 = .ok (.aload_n 0, 1) := by decide +kernel
theorem dX11_measure_16 : decode cX11_measure 16 = .ok (.getfield 18, 3) := by decide +kernel
theorem dX11_measure_19 : decode cX11_measure 19 = .ok (.iload_n 3, 1) := by decide +kernel
theorem dX11_measure_20 : decode cX11_measure 20 = .ok (.lconst 1, 1) := by decide +kernel
theorem dX11_measure_21 : decode cX11_measure 21 = .ok (.lastore, 1) := by decide +kernel
theorem dX11_measure_22 : decode cX11_measure 22 = .ok (.aload_n 1, 1) := by decide +kernel
theorem dX11_measure_23 : decode cX11_measure 23 = .ok (.getfield 216, 3) := by decide +kernel
theorem dX11_measure_26 : decode cX11_measure 26 = .ok (.iload_n 3, 1) := by decide +kernel
theorem dX11_measure_27 : decode cX11_measure 27 = .ok (.iaload, 1) := by decide +kernel
theorem dX11_measure_28 : decode cX11_measure 28 = .ok (.ifCond .eq 35, 3) := by decide +kernel
theorem dX11_measure_31 : decode cX11_measure 31 = .ok (.aload_n 0, 1) := by decide +kernel
theorem dX11_measure_32 : decode cX11_measure 32 = .ok (.getfield 18, 3) := by decide +kernel
theorem dX11_measure_35 : decode cX11_measure 35 = .ok (.iload_n 3, 1) := by decide +kernel
theorem dX11_measure_36 : decode cX11_measure 36 = .ok (.aload_n 0, 1) := by decide +kernel
theorem dX11_measure_37 : decode cX11_measure 37 = .ok (.getfield 136, 3) := by decide +kernel
theorem dX11_measure_40 : decode cX11_measure 40 = .ok (.aload_n 1, 1) := by decide +kernel
theorem dX11_measure_41 : decode cX11_measure 41 = .ok (.getfield 179, 3) := by decide +kernel
theorem dX11_measure_44 : decode cX11_measure 44 = .ok (.iload_n 3, 1) := by decide +kernel
theorem dX11_measure_45 : decode cX11_measure 45 = .ok (.iaload, 1) := by decide +kernel
theorem dX11_measure_46 : decode cX11_measure 46 = .ok (.aload_n 2, 1) := by decide +kernel
theorem dX11_measure_47 : decode cX11_measure 47 = .ok (.invokevirtual 183, 3) := by decide +kernel
theorem dX11_measure_50 : decode cX11_measure 50 = .ok (.lastore, 1) := by decide +kernel
theorem dX11_measure_51 : decode cX11_measure 51 = .ok (.aload_n 0, 1) := by decide +kernel
theorem dX11_measure_52 : decode cX11_measure 52 = .ok (.getfield 136, 3) := by decide +kernel
theorem dX11_measure_55 : decode cX11_measure 55 = .ok (.getfield 187, 3) := by decide +kernel
theorem dX11_measure_58 : decode cX11_measure 58 = .ok (.ifCond .eq 5, 3) := by decide +kernel
theorem dX11_measure_61 : decode cX11_measure 61 = .ok (.iconst 0, 1) := by decide +kernel
theorem dX11_measure_62 : decode cX11_measure 62 = .ok (.ireturn, 1) := by decide +kernel
theorem dX11_measure_63 : decode cX11_measure 63 = .ok (.iinc 3 1, 3) := by decide +kernel
theorem dX11_measure_66 : decode cX11_measure 66 = .ok (.goto (-64), 3) := by decide +kernel
theorem dX11_measure_69 : decode cX11_measure 69 = .ok (.iconst 1, 1) := by decide +kernel
theorem dX11_measure_70 : decode cX11_measure 70 = .ok (.ireturn, 1) := by decide +kernel
set_option maxRecDepth 20000 in
theorem a_X11_measure_69 {Q : Sg → Int → Prop} {X : Sg → String → Prop} {th : Nat} (K : MD l R p s m args c cX11_measure 4 RX11 D cA tys A n0 s0 3 73 []) (hQ : CQZ p l e R s m args below meth c cX11_measure D cA A n0 s0 QM σi Q) (hX : CX p l e R s m args below meth c 4 D cA A n0 s0 QM σi X) (hTh : CT p l e R s m args below meth c cX11_measure 4 D cA A n0 s0 QM σi RX11 X) : ∀ (σ : Sg), w_X11_measure_69 th Q X σ → RG σ → TY σ → Ext σi σ → kO σ th 11 → JJ p l e R s m args below meth c 4 D cA A n0 s0 QM σ 69 [(0, .ref th)] [] := by
  intro σ h hGσ hYσ hE hth H locs ls hH hl hc
  have B := K.1
  have hl9 := K.2.2.2.2.2.2
  unfold w_X11_measure_69 at h
  refine lv_iconst (v := i32 1) B.1 B.2.1 dX11_measure_69 (by decide) ?_
  exact hQ _ _ _ _ _ _ (by unfold rng; omega) (Or.inr rfl) dX11_measure_70 hH hc h hGσ hYσ hE
set_option maxRecDepth 20000 in
theorem a_X11_measure_63 {Q : Sg → Int → Prop} {X : Sg → String → Prop} {th : Nat} (K : MD l R p s m args c cX11_measure 4 RX11 D cA tys A n0 s0 3 73 []) (hQ : CQZ p l e R s m args below meth c cX11_measure D cA A n0 s0 QM σi Q) (hX : CX p l e R s m args below meth c 4 D cA A n0 s0 QM σi X) (hTh : CT p l e R s m args below meth c cX11_measure 4 D cA A n0 s0 QM σi RX11 X) {K2 : Sg → Option Nat → Option Nat → Int → Prop} (hK2 : ∀ (σ : Sg) (v1 : Option Nat) (v2 : Option Nat) (v3 : Int) (g1 : tyV σ 5 v1) (g2 : tyV σ 0 v2) (g3 : rng v3), K2 σ v1 v2 v3 → RG σ → TY σ → Ext σi σ → kO σ th 11 → JJ p l e R s m args below meth c 4 D cA A n0 s0 QM σ 2 [(0, .ref th), (1, va_rf v1), (2, va_rf v2), (3, .int (i32 v3))] []) : ∀ (σ : Sg) (v1 : Option Nat) (v2 : Option Nat) (v3 : Int) (g1 : tyV σ 5 v1) (g2 : tyV σ 0 v2) (g3 : rng v3), w_X11_measure_63 th K2 Q X σ v1 v2 v3 → RG σ → TY σ → Ext σi σ → kO σ th 11 → JJ p l e R s m args below meth c 4 D cA A n0 s0 QM σ 63 [(0, .ref th), (1, va_rf v1), (2, va_rf v2), (3, .int (i32 v3))] [] := by
  intro σ v1 v2 v3 g1 g2 g3 h hGσ hYσ hE hth H locs ls hH hl hc
  have B := K.1
  have hl9 := K.2.2.2.2.2.2
  unfold w_X11_measure_63 at h
  obtain ⟨q1, h⟩ := h
  refine lv_iinc (k := 3) (v := i32 (v3 + 1)) (lv' := [(3, .int (i32 (v3 + 1))), (0, .ref th), (1, va_rf v1), (2, va_rf v2)]) B.1 B.2.1 dX11_measure_63 hl rfl (i32_add _ _) (by decide) (by generalize v2 = w9; cases w9 <;> rfl) (fun ls hl => ?_)
  refine lv_goto (tgt := 2) B.1 B.2.1 dX11_measure_66 (by decide) ?_
  exact hK2 _ _ _ _ g1 g2 q1 h hGσ hYσ hE hth _ _ _ hH (lv_sub (l' := [(0, .ref th), (1, va_rf v1), (2, va_rf v2), (3, .int (i32 (v3 + 1)))]) hl [1, 2, 3, 0] rfl) hc
set_option maxRecDepth 20000 in
theorem a_X11_measure_61 {Q : Sg → Int → Prop} {X : Sg → String → Prop} {th : Nat} (K : MD l R p s m args c cX11_measure 4 RX11 D cA tys A n0 s0 3 73 []) (hQ : CQZ p l e R s m args below meth c cX11_measure D cA A n0 s0 QM σi Q) (hX : CX p l e R s m args below meth c 4 D cA A n0 s0 QM σi X) (hTh : CT p l e R s m args below meth c cX11_measure 4 D cA A n0 s0 QM σi RX11 X) : ∀ (σ : Sg), w_X11_measure_61 th Q X σ → RG σ → TY σ → Ext σi σ → kO σ th 11 → JJ p l e R s m args below meth c 4 D cA A n0 s0 QM σ 61 [(0, .ref th)] [] := by
  intro σ h hGσ hYσ hE hth H locs ls hH hl hc
  have B := K.1
  have hl9 := K.2.2.2.2.2.2
  unfold w_X11_measure_61 at h
  refine lv_iconst (v := i32 0) B.1 B.2.1 dX11_measure_61 (by decide) ?_
  exact hQ _ _ _ _ _ _ (by unfold rng; omega) (Or.inl rfl) dX11_measure_62 hH hc h hGσ hYσ hE
set_option maxRecDepth 20000 in
theorem a_X11_measure_31 {Q : Sg → Int → Prop} {X : Sg → String → Prop} {th : Nat} (K : MD l R p s m args c cX11_measure 4 RX11 D cA tys A n0 s0 3 73 []) (hQ : CQZ p l e R s m args below meth c cX11_measure D cA A n0 s0 QM σi Q) (hX : CX p l e R s m args below meth c 4 D cA A n0 s0 QM σi X) (hTh : CT p l e R s m args below meth c cX11_measure 4 D cA A n0 s0 QM σi RX11 X) {K2 : Sg → Option Nat → Option Nat → Int → Prop} (hK2 : ∀ (σ : Sg) (v1 : Option Nat) (v2 : Option Nat) (v3 : Int) (g1 : tyV σ 5 v1) (g2 : tyV σ 0 v2) (g3 : rng v3), K2 σ v1 v2 v3 → RG σ → TY σ → Ext σi σ → kO σ th 11 → JJ p l e R s m args below meth c 4 D cA A n0 s0 QM σ 2 [(0, .ref th), (1, va_rf v1), (2, va_rf v2), (3, .int (i32 v3))] []) : ∀ (σ : Sg) (v1 : Option Nat) (v2 : Option Nat) (v3 : Int) (g1 : tyV σ 5 v1) (g2 : tyV σ 0 v2) (g3 : rng v3), w_X11_measure_31 th K2 Q X σ v1 v2 v3 → RG σ → TY σ → Ext σi σ → kO σ th 11 → JJ p l e R s m args below meth c 4 D cA A n0 s0 QM σ 31 [(0, .ref th), (1, va_rf v1), (2, va_rf v2), (3, .int (i32 v3))] [] := by
  intro σ v1 v2 v3 g1 g2 g3 h hGσ hYσ hE hth H locs ls hH hl hc
  have B := K.1
  have hl9 := K.2.2.2.2.2.2
  unfold w_X11_measure_31 at h
  refine lv_aload_n B.1 B.2.1 dX11_measure_31 rfl (lv_at hl 0 rfl) ?_
  refine f_getp B hH hth (by decide) rfl wu_X11 3 (by decide) wf_X11_18 rfl rfl dX11_measure_32 ?_
  refine lv_iload_n B.1 B.2.1 dX11_measure_35 rfl (lv_at hl 3 rfl) ?_
  refine lv_aload_n B.1 B.2.1 dX11_measure_36 rfl (lv_at hl 0 rfl) ?_
  refine f_getp B hH hth (by decide) rfl wu_X11 5 (by decide) wf_X11_136 rfl rfl dX11_measure_37 ?_
  refine lv_aload_nQ B.1 B.2.1 dX11_measure_40 rfl (lv_at hl 1 rfl) ?_
  obtain ⟨a27, ea27, h⟩ := h
  have ka27 : kO σ a27 5 := g1 a27 ea27
  have h := h ka27
  refine W.eq (g2 := F0 m 41 ls [.ref a27, va_rf (gP σ th 5), .int (i32 v3), va_rf (gP σ th 3)]) (by rw [ea27]; rfl) ?_
  refine f_getp B hH ka27 (by decide) rfl wu_X5 1 (by decide) wf_X11_179 rfl rfl dX11_measure_41 ?_
  refine lv_iload_n B.1 B.2.1 dX11_measure_44 rfl (lv_at hl 3 rfl) ?_
  obtain ⟨a28, ea28, h⟩ := h
  have ka28 : kO σ a28 100 := (hYσ.get ka27 (by decide)) a28 ea28
  have h := h ka28
  obtain ⟨q1, h⟩ := h
  refine W.eq (g2 := F0 m 45 ls [.int (i32 v3), .ref a28, va_rf (gP σ th 5), .int (i32 v3), va_rf (gP σ th 3)]) (by rw [ea28]; rfl) ?_
  refine y_iald B K.2.1 hH ka28 q1 dX11_measure_45 (hYσ.2 _) ?_
  refine lv_aload_nQ B.1 B.2.1 dX11_measure_46 rfl (lv_at hl 2 rfl) ?_
  obtain ⟨a31, ea31, h⟩ := h
  have ka31 : kO σ a31 4 := (hYσ.get hth (by decide)) a31 ea31
  have h := h ka31
  refine W.eq (g2 := F0 m 47 ls [va_rf v2, .int (i32 (gI σ a28 v3.toNat)), .ref a31, .int (i32 v3), va_rf (gP σ th 3)]) (by rw [ea31]; rfl) ?_
  refine c_V B hH hl hc K.2.2.1 (C := RX4) (T := TX4) (N := 14) (ci := 4) (As := [.int (i32 (gI σ a28 v3.toNat)), va_rf v2]) (ok_X4_value hl9 K.2.1 σ a31 (gI σ a28 v3.toNat) v2 (hGσ _ _) g2 ka31 hGσ hYσ h) wc_X11_183 2 hd_X4_value ⟨Nat.le_trans (Nat.le_of_ble_eq_true rfl) K.2.2.2.1, Nat.le_trans (Nat.le_of_ble_eq_true rfl) K.2.2.2.2.1⟩ ka31.1 ka31.2 (by decide) rfl rfl (rest := [.int (i32 v3), va_rf (gP σ th 3)]) rfl (by simp only [List.map_cons, List.map_nil, rf_cat]; exact Nat.le_of_ble_eq_true rfl) dX11_measure_47 (fun σ29 w hq => ?_) (fun σ9 E9 hx9 => hX σ9 E9 _ _ _ (tb_out K.2.2.2.2.2.1 rfl) hx9.1 hx9.2.1 hx9.2.2.1 (hE.trans hx9.2.2.2))
  obtain ⟨r30, rfl, h, hGσ29, hYσ29, xσ29⟩ := hq
  have h := h xσ29
  intro H locs ls hH hl hc
  refine W.eq (g2 := F0 m 50 ls [.long r30, .int (i32 v3), va_rf (gP σ th 3)]) (rfl) ?_
  try dsimp only at h
  obtain ⟨a32, ea32, h⟩ := h
  have ka32 : kO σ29 a32 101 := ((hYσ.get hth (by decide)).up xσ29) a32 ea32
  have h := h ka32
  obtain ⟨q2, h⟩ := h
  obtain ⟨σ33, eσ33⟩ : ∃ z, z = pJ σ29 a32 v3.toNat r30 := ⟨_, rfl⟩
  have h := h σ33 eσ33
  refine W.eq (g2 := F0 m 50 ls [.long r30, .int (i32 v3), .ref a32]) (by rw [ea32]; rfl) ?_
  refine y_last B K.2.1 hH ka32 q2 dX11_measure_50 (hYσ29.2 _) (fun H locs hH => ?_)
  have hH : Hd D cA A s (pJ σ29 a32 v3.toNat r30) H locs := hH
  rw [← eσ33] at hH
  have hGσ33 : RG σ33 := by rw [eσ33]; exact hGσ29.pJ
  have hYσ33 : TY σ33 := by rw [eσ33]; exact hYσ29.pJ
  have xσ33 : Ext σ29 σ33 := by rw [eσ33]; exact Ext.pJ
  have hc : CB n0 s0 σ33 := by rw [eσ33]; exact hc
  rw [show gc σ29 = gc σ33 by rw [eσ33]; try rfl, show gs σ29 = gs σ33 by rw [eσ33]; try rfl]
  refine lv_aload_n B.1 B.2.1 dX11_measure_51 rfl (lv_at hl 0 rfl) ?_
  refine f_getp B hH (hth.up (xσ29.trans xσ33)) (by decide) rfl wu_X11 5 (by decide) wf_X11_136 rfl rfl dX11_measure_52 ?_
  obtain ⟨a34, ea34, h⟩ := h
  have ka34 : kO σ33 a34 4 := (hYσ33.get (hth.up (xσ29.trans xσ33)) (by decide)) a34 ea34
  have h := h ka34
  refine W.eq (g2 := F0 m 55 ls [.ref a34]) (by rw [ea34]; rfl) ?_
  refine f_geti B hH ka34 (by decide) rfl wu_X4 10 (by decide) wf_X11_187 rfl rfl dX11_measure_55 ?_
  refine lv_if_eq (tgt := 63) B.1 B.2.1 dX11_measure_58 (by decide) (fun h9 => ?_) (fun h9 => ?_)
  · rw [if_pos ((z_eq (hGσ33 _ _)).mp h9)] at h
    exact a_X11_measure_63 K hQ hX hTh hK2 _ _ _ _ (g1.up (xσ29.trans xσ33)) (g2.up (xσ29.trans xσ33)) g3 h hGσ33 hYσ33 ((hE.trans xσ29).trans xσ33) (hth.up (xσ29.trans xσ33)) _ _ _ hH (lv_sub (l' := [(0, .ref th), (1, va_rf v1), (2, va_rf v2), (3, .int (i32 v3))]) hl [0, 1, 2, 3] rfl) hc
  · rw [if_neg (fun q => h9 ((z_eq (hGσ33 _ _)).mpr q))] at h
    exact a_X11_measure_61 K hQ hX hTh _ h hGσ33 hYσ33 ((hE.trans xσ29).trans xσ33) (hth.up (xσ29.trans xσ33)) _ _ _ hH (lv_sub (l' := [(0, .ref th)]) hl [0] rfl) hc
set_option maxRecDepth 20000 in
theorem a_X11_measure_15 {Q : Sg → Int → Prop} {X : Sg → String → Prop} {th : Nat} (K : MD l R p s m args c cX11_measure 4 RX11 D cA tys A n0 s0 3 73 []) (hQ : CQZ p l e R s m args below meth c cX11_measure D cA A n0 s0 QM σi Q) (hX : CX p l e R s m args below meth c 4 D cA A n0 s0 QM σi X) (hTh : CT p l e R s m args below meth c cX11_measure 4 D cA A n0 s0 QM σi RX11 X) {K2 : Sg → Option Nat → Option Nat → Int → Prop} (hK2 : ∀ (σ : Sg) (v1 : Option Nat) (v2 : Option Nat) (v3 : Int) (g1 : tyV σ 5 v1) (g2 : tyV σ 0 v2) (g3 : rng v3), K2 σ v1 v2 v3 → RG σ → TY σ → Ext σi σ → kO σ th 11 → JJ p l e R s m args below meth c 4 D cA A n0 s0 QM σ 2 [(0, .ref th), (1, va_rf v1), (2, va_rf v2), (3, .int (i32 v3))] []) : ∀ (σ : Sg) (v1 : Option Nat) (v2 : Option Nat) (v3 : Int) (g1 : tyV σ 5 v1) (g2 : tyV σ 0 v2) (g3 : rng v3), w_X11_measure_15 th K2 Q X σ v1 v2 v3 → RG σ → TY σ → Ext σi σ → kO σ th 11 → JJ p l e R s m args below meth c 4 D cA A n0 s0 QM σ 15 [(0, .ref th), (1, va_rf v1), (2, va_rf v2), (3, .int (i32 v3))] [] := by
  intro σ v1 v2 v3 g1 g2 g3 h hGσ hYσ hE hth H locs ls hH hl hc
  have B := K.1
  have hl9 := K.2.2.2.2.2.2
  unfold w_X11_measure_15 at h
  refine lv_aload_n B.1 B.2.1 dX11_measure_15 rfl (lv_at hl 0 rfl) ?_
  refine f_getp B hH hth (by decide) rfl wu_X11 3 (by decide) wf_X11_18 rfl rfl dX11_measure_16 ?_
  refine lv_iload_n B.1 B.2.1 dX11_measure_19 rfl (lv_at hl 3 rfl) ?_
  refine lv_lconst (v := 1) B.1 B.2.1 dX11_measure_20 (by decide) ?_
  obtain ⟨a35, ea35, h⟩ := h
  have ka35 : kO σ a35 101 := (hYσ.get hth (by decide)) a35 ea35
  have h := h ka35
  obtain ⟨q1, h⟩ := h
  obtain ⟨σ36, eσ36⟩ : ∃ z, z = pJ σ a35 v3.toNat 1 := ⟨_, rfl⟩
  have h := h σ36 eσ36
  refine W.eq (g2 := F0 m 21 ls [.long 1, .int (i32 v3), .ref a35]) (by rw [ea35]; rfl) ?_
  refine y_last B K.2.1 hH ka35 q1 dX11_measure_21 (hYσ.2 _) (fun H locs hH => ?_)
  have hH : Hd D cA A s (pJ σ a35 v3.toNat 1) H locs := hH
  rw [← eσ36] at hH
  have hGσ36 : RG σ36 := by rw [eσ36]; exact hGσ.pJ
  have hYσ36 : TY σ36 := by rw [eσ36]; exact hYσ.pJ
  have xσ36 : Ext σ σ36 := by rw [eσ36]; exact Ext.pJ
  have hc : CB n0 s0 σ36 := by rw [eσ36]; exact hc
  rw [show gc σ = gc σ36 by rw [eσ36]; try rfl, show gs σ = gs σ36 by rw [eσ36]; try rfl]
  refine lv_aload_nQ B.1 B.2.1 dX11_measure_22 rfl (lv_at hl 1 rfl) ?_
  obtain ⟨a37, ea37, h⟩ := h
  have ka37 : kO σ36 a37 5 := (g1.up xσ36) a37 ea37
  have h := h ka37
  refine W.eq (g2 := F0 m 23 ls [.ref a37]) (by rw [ea37]; rfl) ?_
  refine f_getp B hH ka37 (by decide) rfl wu_X5 2 (by decide) wf_X11_216 rfl rfl dX11_measure_23 ?_
  refine lv_iload_n B.1 B.2.1 dX11_measure_26 rfl (lv_at hl 3 rfl) ?_
  obtain ⟨a38, ea38, h⟩ := h
  have ka38 : kO σ36 a38 100 := (hYσ36.get ka37 (by decide)) a38 ea38
  have h := h ka38
  obtain ⟨q2, h⟩ := h
  refine W.eq (g2 := F0 m 27 ls [.int (i32 v3), .ref a38]) (by rw [ea38]; rfl) ?_
  refine y_iald B K.2.1 hH ka38 q2 dX11_measure_27 (hYσ36.2 _) ?_
  refine lv_if_eq (tgt := 63) B.1 B.2.1 dX11_measure_28 (by decide) (fun h9 => ?_) (fun h9 => ?_)
  · rw [if_pos ((z_eq (hGσ36 _ _)).mp h9)] at h
    exact a_X11_measure_63 K hQ hX hTh hK2 _ _ _ _ (g1.up xσ36) (g2.up xσ36) g3 h hGσ36 hYσ36 (hE.trans xσ36) (hth.up xσ36) _ _ _ hH (lv_sub (l' := [(0, .ref th), (1, va_rf v1), (2, va_rf v2), (3, .int (i32 v3))]) hl [0, 1, 2, 3] rfl) hc
  · rw [if_neg (fun q => h9 ((z_eq (hGσ36 _ _)).mpr q))] at h
    exact a_X11_measure_31 K hQ hX hTh hK2 _ _ _ _ (g1.up xσ36) (g2.up xσ36) g3 h hGσ36 hYσ36 (hE.trans xσ36) (hth.up xσ36) _ _ _ hH (lv_sub (l' := [(0, .ref th), (1, va_rf v1), (2, va_rf v2), (3, .int (i32 v3))]) hl [0, 1, 2, 3] rfl) hc
set_option maxRecDepth 20000 in
theorem a_X11_measure_10 {Q : Sg → Int → Prop} {X : Sg → String → Prop} {th : Nat} (K : MD l R p s m args c cX11_measure 4 RX11 D cA tys A n0 s0 3 73 []) (hQ : CQZ p l e R s m args below meth c cX11_measure D cA A n0 s0 QM σi Q) (hX : CX p l e R s m args below meth c 4 D cA A n0 s0 QM σi X) (hTh : CT p l e R s m args below meth c cX11_measure 4 D cA A n0 s0 QM σi RX11 X) {K2 : Sg → Option Nat → Option Nat → Int → Prop} (hK2 : ∀ (σ : Sg) (v1 : Option Nat) (v2 : Option Nat) (v3 : Int) (g1 : tyV σ 5 v1) (g2 : tyV σ 0 v2) (g3 : rng v3), K2 σ v1 v2 v3 → RG σ → TY σ → Ext σi σ → kO σ th 11 → JJ p l e R s m args below meth c 4 D cA A n0 s0 QM σ 2 [(0, .ref th), (1, va_rf v1), (2, va_rf v2), (3, .int (i32 v3))] []) : ∀ (σ : Sg) (v1 : Option Nat) (v2 : Option Nat) (v3 : Int) (g1 : tyV σ 5 v1) (g2 : tyV σ 0 v2) (g3 : rng v3), w_X11_measure_10 th K2 Q X σ v1 v2 v3 → RG σ → TY σ → Ext σi σ → kO σ th 11 → JJ p l e R s m args below meth c 4 D cA A n0 s0 QM σ 10 [(0, .ref th), (1, va_rf v1), (2, va_rf v2), (3, .int (i32 v3))] [] := by
  intro σ v1 v2 v3 g1 g2 g3 h hGσ hYσ hE hth H locs ls hH hl hc
  have B := K.1
  have hl9 := K.2.2.2.2.2.2
  unfold w_X11_measure_10 at h
  refine lv_iload_n B.1 B.2.1 dX11_measure_10 rfl (lv_at hl 3 rfl) ?_
  refine lv_iconst (v := i32 4) B.1 B.2.1 dX11_measure_11 (by decide) ?_
  refine lv_icmp_ge (tgt := 69) B.1 B.2.1 dX11_measure_12 (by decide) (fun h9 => ?_) (fun h9 => ?_)
  · rw [if_pos ((i32_le (by unfold rng; omega) g3).mp h9)] at h
    exact a_X11_measure_69 K hQ hX hTh _ h hGσ hYσ hE hth _ _ _ hH (lv_sub (l' := [(0, .ref th)]) hl [0] rfl) hc
  · rw [if_neg (fun q => h9 ((i32_le (by unfold rng; omega) g3).mpr q))] at h
    exact a_X11_measure_15 K hQ hX hTh hK2 _ _ _ _ g1 g2 g3 h hGσ hYσ hE hth _ _ _ hH (lv_sub (l' := [(0, .ref th), (1, va_rf v1), (2, va_rf v2), (3, .int (i32 v3))]) hl [0, 1, 2, 3] rfl) hc
set_option maxRecDepth 20000 in
theorem a_X11_measure_2 {Q : Sg → Int → Prop} {X : Sg → String → Prop} {th : Nat} (K : MD l R p s m args c cX11_measure 4 RX11 D cA tys A n0 s0 3 73 []) (hQ : CQZ p l e R s m args below meth c cX11_measure D cA A n0 s0 QM σi Q) (hX : CX p l e R s m args below meth c 4 D cA A n0 s0 QM σi X) (hTh : CT p l e R s m args below meth c cX11_measure 4 D cA A n0 s0 QM σi RX11 X) {K2 : Sg → Option Nat → Option Nat → Int → Prop} (hK2 : ∀ (σ : Sg) (v1 : Option Nat) (v2 : Option Nat) (v3 : Int) (g1 : tyV σ 5 v1) (g2 : tyV σ 0 v2) (g3 : rng v3), K2 σ v1 v2 v3 → RG σ → TY σ → Ext σi σ → kO σ th 11 → JJ p l e R s m args below meth c 4 D cA A n0 s0 QM σ 2 [(0, .ref th), (1, va_rf v1), (2, va_rf v2), (3, .int (i32 v3))] []) : ∀ (σ : Sg) (v1 : Option Nat) (v2 : Option Nat) (v3 : Int) (g1 : tyV σ 5 v1) (g2 : tyV σ 0 v2) (g3 : rng v3), w_X11_measure_2 th K2 Q X σ v1 v2 v3 → RG σ → TY σ → Ext σi σ → kO σ th 11 → JJ p l e R s m args below meth c 4 D cA A n0 s0 QM σ 2 [(0, .ref th), (1, va_rf v1), (2, va_rf v2), (3, .int (i32 v3))] [] := by
  intro σ v1 v2 v3 g1 g2 g3 h hGσ hYσ hE hth H locs ls hH hl hc
  have B := K.1
  have hl9 := K.2.2.2.2.2.2
  unfold w_X11_measure_2 at h
  refine lv_iload_n B.1 B.2.1 dX11_measure_2 rfl (lv_at hl 3 rfl) ?_
  refine lv_aload_nQ B.1 B.2.1 dX11_measure_3 rfl (lv_at hl 1 rfl) ?_
  obtain ⟨a39, ea39, h⟩ := h
  have ka39 : kO σ a39 5 := g1 a39 ea39
  have h := h ka39
  refine W.eq (g2 := F0 m 4 ls [.ref a39, .int (i32 v3)]) (by rw [ea39]; rfl) ?_
  refine f_geti B hH ka39 (by decide) rfl wu_X5 4 (by decide) wf_X11_198 rfl rfl dX11_measure_4 ?_
  refine lv_icmp_ge (tgt := 69) B.1 B.2.1 dX11_measure_7 (by decide) (fun h9 => ?_) (fun h9 => ?_)
  · rw [if_pos ((i32_le (hGσ _ _) g3).mp h9)] at h
    exact a_X11_measure_69 K hQ hX hTh _ h hGσ hYσ hE hth _ _ _ hH (lv_sub (l' := [(0, .ref th)]) hl [0] rfl) hc
  · rw [if_neg (fun q => h9 ((i32_le (hGσ _ _) g3).mpr q))] at h
    exact a_X11_measure_10 K hQ hX hTh hK2 _ _ _ _ g1 g2 g3 h hGσ hYσ hE hth _ _ _ hH (lv_sub (l' := [(0, .ref th), (1, va_rf v1), (2, va_rf v2), (3, .int (i32 v3))]) hl [0, 1, 2, 3] rfl) hc
theorem al_X11_measure_2 {Q : Sg → Int → Prop} {X : Sg → String → Prop} {th : Nat} (K : MD l R p s m args c cX11_measure 4 RX11 D cA tys A n0 s0 3 73 []) (hQ : CQZ p l e R s m args below meth c cX11_measure D cA A n0 s0 QM σi Q) (hX : CX p l e R s m args below meth c 4 D cA A n0 s0 QM σi X) (hTh : CT p l e R s m args below meth c cX11_measure 4 D cA A n0 s0 QM σi RX11 X) : ∀ (n : Nat), ∀ (σ : Sg) (v1 : Option Nat) (v2 : Option Nat) (v3 : Int) (g1 : tyV σ 5 v1) (g2 : tyV σ 0 v2) (g3 : rng v3), wl_X11_measure_2 th Q X n σ v1 v2 v3 → RG σ → TY σ → Ext σi σ → kO σ th 11 → JJ p l e R s m args below meth c 4 D cA A n0 s0 QM σ 2 [(0, .ref th), (1, va_rf v1), (2, va_rf v2), (3, .int (i32 v3))] [] := by
  intro n
  induction n with
  | zero => intro σ v1 v2 v3 g1 g2 g3 h; exact h.elim
  | succ n ih => exact fun σ v1 v2 v3 g1 g2 g3 h => a_X11_measure_2 K hQ hX hTh ih σ v1 v2 v3 g1 g2 g3 h
set_option maxRecDepth 20000 in
theorem a_X11_measure_0 {Q : Sg → Int → Prop} {X : Sg → String → Prop} {th : Nat} (K : MD l R p s m args c cX11_measure 4 RX11 D cA tys A n0 s0 3 73 []) (hQ : CQZ p l e R s m args below meth c cX11_measure D cA A n0 s0 QM σi Q) (hX : CX p l e R s m args below meth c 4 D cA A n0 s0 QM σi X) (hTh : CT p l e R s m args below meth c cX11_measure 4 D cA A n0 s0 QM σi RX11 X) : ∀ (σ : Sg) (v1 : Option Nat) (v2 : Option Nat) (g1 : tyV σ 5 v1) (g2 : tyV σ 0 v2), w_X11_measure_0 th Q X σ v1 v2 → RG σ → TY σ → Ext σi σ → kO σ th 11 → JJ p l e R s m args below meth c 4 D cA A n0 s0 QM σ 0 [(0, .ref th), (1, va_rf v1), (2, va_rf v2)] [] := by
  intro σ v1 v2 g1 g2 h hGσ hYσ hE hth H locs ls hH hl hc
  have B := K.1
  have hl9 := K.2.2.2.2.2.2
  unfold w_X11_measure_0 at h
  refine lv_iconst (v := i32 0) B.1 B.2.1 dX11_measure_0 (by decide) ?_
  refine lv_istore_n (lv' := [(3, .int (i32 0)), (0, .ref th), (1, va_rf v1), (2, va_rf v2)]) B.1 B.2.1 dX11_measure_1 rfl hl (by decide) (by generalize v2 = w9; cases w9 <;> rfl) (fun ls hl => ?_)
  obtain ⟨n9, h⟩ := h
  exact al_X11_measure_2 K hQ hX hTh n9 _ _ _ _ g1 g2 (by unfold rng; omega) h hGσ hYσ hE hth _ _ _ hH (lv_sub (l' := [(0, .ref th), (1, va_rf v1), (2, va_rf v2), (3, .int (i32 0))]) hl [1, 2, 3, 0] rfl) hc
theorem ok_X11_measure (hl0 : l.stackTraces = false) (hT : TyC cA tys) {Q : Sg → Int → Prop} {X : Sg → String → Prop} (σ : Sg) (th : Nat) (v1 : Option Nat) (v2 : Option Nat) (g1 : tyV σ 5 v1) (g2 : tyV σ 0 v2) (hth : kO σ th 11) (hG : RG σ) (hY : TY σ) (h : wp_X11_measure th v1 v2 σ Q X) : Ok l D cA tys A yX11_measure (.code yX11_measure cX11_measure 4 (some .boolean)) 3 73 [.ref th, va_rf v1, va_rf v2] σ (QcZ σ Q) (QxC σ X) := by
  unfold wp_X11_measure at h
  exact oc_Z hl0 (by decide) (by cases v1 <;> cases v2 <;> exact Nat.le_of_ble_eq_true rfl) hT (fun p e R s m args below meth c K hQ hX hTh H locs ls hH hl hc => a_X11_measure_0 K hQ hX hTh σ v1 v2 g1 g2 h hG hY (Ext.rfl' σ) hth H locs ls hH (lv_sub (l' := [(0, .ref th), (1, va_rf v1), (2, va_rf v2)]) hl [0, 1, 2] (by cases v1 <;> cases v2 <;> rfl)) hc)
theorem dX11_accept_0 : decode cX11_accept 0 = .ok (.aload_n 1, 1) := by decide +kernel
theorem dX11_accept_1 : decode cX11_accept 1 = .ok (.getfield 30, 3) := by decide +kernel
theorem dX11_accept_4 : decode cX11_accept 4 = .ok (.tableswitch 205 1 10 #[56, 67, 78, 90, 90, 121, 205, 133, 205, 144], 56) := by decide +kernel
theorem dX11_accept_60 : decode cX11_accept 60 = .ok (.aload_n 0, 1) := by decide +kernel
theorem dX11_accept_61 : decode cX11_accept 61 = .ok (.aload_n 1, 1) := by decide +kernel
theorem dX11_accept_62 : decode cX11_accept 62 = .ok (.aload_n 2, 1) := by decide +kernel
theorem dX11_accept_63 : decode cX11_accept 63 = .ok (.aload 4, 2) := by decide +kernel
theorem dX11_accept_65 : decode cX11_accept 65 = .ok (.invokevirtual 35, 3) := by decide +kernel
theorem dX11_accept_68 : decode cX11_accept 68 = .ok (.goto 176, 3) := by decide +kernel
theorem dX11_accept_71 : decode cX11_accept 71 = .ok (.aload_n 0, 1) := by decide +kernel
theorem dX11_accept_72 : decode cX11_accept 72 = .ok (.aload_n 1, 1) := by decide +kernel
theorem dX11_accept_73 : decode cX11_accept 73 = .ok (.aload_n 2, 1) := by decide +kernel
theorem dX11_accept_74 : decode cX11_accept 74 = .ok (.aload 4, 2) := by decide +kernel
theorem dX11_accept_76 : decode cX11_accept 76 = .ok (.invokevirtual 39, 3) := by decide +kernel
theorem dX11_accept_79 : decode cX11_accept 79 = .ok (.goto 165, 3) := by decide +kernel
theorem dX11_accept_82 : decode cX11_accept 82 = .ok (.aload_n 0, 1) := by decide +kernel
theorem dX11_accept_83 : decode cX11_accept 83 = .ok (.getfield 12, 3) := by decide +kernel
theorem dX11_accept_86 : decode cX11_accept 86 = .ok (.aload 4, 2) := by decide +kernel
theorem dX11_accept_88 : decode cX11_accept 88 = .ok (.invokevirtual 42, 3) := by decide +kernel
theorem dX11_accept_91 : decode cX11_accept 91 = .ok (.goto 153, 3) := by decide +kernel
theorem dX11_accept_94 : decode cX11_accept 94 = .ok (.aload_n 0, 1) := by decide +kernel
theorem dX11_accept_95 : decode cX11_accept 95 = .ok (.aload_n 1, 1) := by decide +kernel
theorem dX11_accept_96 : decode cX11_accept 96 = .ok (.aload 4, 2) := by decide +kernel
theorem dX11_accept_98 : decode cX11_accept 98 = .ok (.invokevirtual 46, 3) := by decide +kernel
theorem dX11_accept_101 : decode cX11_accept 101 = .ok (.ifCond .eq 14, 3) := by decide +kernel
theorem dX11_accept_104 : decode cX11_accept 104 = .ok (.aload_n 0, 1) := by decide +kernel
theorem dX11_accept_105 : decode cX11_accept 105 = .ok (.aload_n 1, 1) := by decide +kernel
theorem dX11_accept_106 : decode cX11_accept 106 = .ok (.aload_n 2, 1) := by decide +kernel
theorem dX11_accept_107 : decode cX11_accept 107 = .ok (.aload 4, 2) := by decide +kernel
theorem dX11_accept_109 : decode cX11_accept 109 = .ok (.invokevirtual 50, 3) := by decide +kernel
theorem dX11_accept_112 : decode cX11_accept 112 = .ok (.goto 132, 3) := by decide +kernel
theorem dX11_accept_115 : decode cX11_accept 115 = .ok (.aload_n 0, 1) := by decide +kernel
theorem dX11_accept_116 : decode cX11_accept 116 = .ok (.aload_n 2, 1) := by decide +kernel
theorem dX11_accept_117 : decode cX11_accept 117 = .ok (.aload 4, 2) := by decide +kernel
theorem dX11_accept_119 : decode cX11_accept 119 = .ok (.invokevirtual 53, 3) := by decide +kernel
theorem dX11_accept_122 : decode cX11_accept 122 = .ok (.goto 122, 3) := by decide +kernel
theorem dX11_accept_125 : decode cX11_accept 125 = .ok (.aload_n 0, 1) := by decide +kernel
theorem dX11_accept_126 : decode cX11_accept 126 = .ok (.aload_n 1, 1) := by decide +kernel
theorem dX11_accept_127 : decode cX11_accept 127 = .ok (.aload_n 2, 1) := by decide +kernel
theorem dX11_accept_128 : decode cX11_accept 128 = .ok (.iload_n 3, 1) := by decide +kernel
theorem dX11_accept_129 : decode cX11_accept 129 = .ok (.aload 4, 2) := by decide +kernel
theorem dX11_accept_131 : decode cX11_accept 131 = .ok (.invokevirtual 57, 3) := by decide +kernel
theorem dX11_accept_134 : decode cX11_accept 134 = .ok (.goto 110, 3) := by decide +kernel
theorem dX11_accept_137 : decode cX11_accept 137 = .ok (.aload_n 0, 1) := by decide +kernel
theorem dX11_accept_138 : decode cX11_accept 138 = .ok (.aload_n 1, 1) := by decide +kernel
theorem dX11_accept_139 : decode cX11_accept 139 = .ok (.aload_n 2, 1) := by decide +kernel
theorem dX11_accept_140 : decode cX11_accept 140 = .ok (.aload 4, 2) := by decide +kernel
theorem dX11_accept_142 : decode cX11_accept 142 = .ok (.invokevirtual 61, 3) := by decide +kernel
theorem dX11_accept_145 : decode cX11_accept 145 = .ok (.goto 99, 3) := by decide +kernel
theorem dX11_accept_148 : decode cX11_accept 148 = .ok (.aload 4, 2) := by decide +kernel
theorem dX11_accept_150 : decode cX11_accept 150 = .ok (.aload 4, 2) := by decide +kernel
theorem dX11_accept_152 : decode cX11_accept 152 = .ok (.getfield 64, 3) := by decide +kernel
theorem dX11_accept_155 : decode cX11_accept 155 = .ok (.aload_n 1, 1) := by decide +kernel
theorem dX11_accept_156 : decode cX11_accept 156 = .ok (.getfield 69, 3) := by decide +kernel
theorem dX11_accept_159 : decode cX11_accept 159 = .ok (.laload, 1) := by decide +kernel
theorem dX11_accept_160 : decode cX11_accept 160 = .ok (.putfield 72, 3) := by decide +kernel
theorem dX11_accept_163 : decode cX11_accept 163 = .ok (.iconst 1, 1) := by decide +kernel
theorem dX11_accept_164 : decode cX11_accept 164 = .ok (.aload_n 1, 1) := by decide +kernel
theorem dX11_accept_165 : decode cX11_accept 165 = .ok (.getfield 76, 3) := by decide +kernel
theorem dX11_accept_168 : decode cX11_accept 168 = .ok (.invokestatic 79, 3) := by decide +kernel
theorem dX11_accept_171 : decode cX11_accept 171 = .ok (.i2l, 1) := by decide +kernel
theorem dX11_accept_172 : decode cX11_accept 172 = .ok (.lstore 5, 2) := by decide +kernel
theorem dX11_accept_174 : decode cX11_accept 174 = .ok (.aload 4, 2) := by decide +kernel
theorem dX11_accept_176 : decode cX11_accept 176 = .ok (.aload 4, 2) := by decide +kernel
theorem dX11_accept_178 : decode cX11_accept 178 = .ok (.getfield 85, 3) := by decide +kernel
theorem dX11_accept_181 : decode cX11_accept 181 = .ok (.lload 5, 2) := by decide +kernel
theorem dX11_accept_183 : decode cX11_accept 183 = .ok (.invokestatic 88, 3) := by decide +kernel
theorem dX11_accept_186 : decode cX11_accept 186 = .ok (.lload 5, 2) := by decide +kernel
theorem dX11_accept_188 : decode cX11_accept 188 = .ok (.lmul, 1) := by decide +kernel
theorem dX11_accept_189 : decode cX11_accept 189 = .ok (.lload 5, 2) := by decide +kernel
theorem dX11_accept_191 : decode cX11_accept 191 = .ok (.ladd, 1) := by decide +kernel
theorem dX11_accept_192 : decode cX11_accept 192 = .ok (.lconst 1, 1) := by decide +kernel
theorem dX11_accept_193 : decode cX11_accept 193 = .ok (.lsub, 1) := by decide +kernel
theorem dX11_accept_194 : decode cX11_accept 194 = .ok (.putfield 92, 3) := by decide +kernel
theorem dX11_accept_197 : decode cX11_accept 197 = .ok (.aload_n 0, 1) := by decide +kernel
theorem dX11_accept_198 : decode cX11_accept 198 = .ok (.aload_n 1, 1) := by decide +kernel
theorem dX11_accept_199 : decode cX11_accept 199 = .ok (.aload_n 2, 1) := by decide +kernel
theorem dX11_accept_200 : decode cX11_accept 200 = .ok (.iconst 0, 1) := by decide +kernel
theorem dX11_accept_201 : decode cX11_accept 201 = .ok (.aload 4, 2) := by decide +kernel
theorem dX11_accept_203 : decode cX11_accept 203 = .ok (.invokevirtual 95, 3) := by decide +kernel
theorem dX11_accept_206 : decode cX11_accept 206 = .ok (.goto 38, 3) := by decide +kernel
theorem dX11_accept_209 : decode cX11_accept 209 = .ok (.aload 4, 2) := by decide +kernel
theorem dX11_accept_211 : decode cX11_accept 211 = .ok (.aload 4, 2) := by decide +kernel
theorem dX11_accept_213 : decode cX11_accept 213 = .ok (.getfield 64, 3) := by decide +kernel
theorem dX11_accept_216 : decode cX11_accept 216 = .ok (.iload_n 3, 1) := by decide +kernel
theorem dX11_accept_217 : decode cX11_accept 217 = .ok (.ifCond .ne 10, 3) := by decide +kernel
theorem dX11_accept_220 : decode cX11_accept 220 = .ok (.aload_n 1, 1) := by decide +kernel
theorem dX11_accept_221 : decode cX11_accept 221 = .ok (.getfield 69, 3) := by decide +kernel
theorem dX11_accept_224 : decode cX11_accept 224 = .ok (.goto 7, 3) := by decide +kernel
theorem dX11_accept_227 : decode cX11_accept 227 = .ok (.aload_n 1, 1) := by decide +kernel
theorem dX11_accept_228 : decode cX11_accept 228 = .ok (.getfield 98, 3) := by decide +kernel
theorem dX11_accept_231 : decode cX11_accept 231 = .ok (.laload, 1) := by decide +kernel
theorem dX11_accept_232 : decode cX11_accept 232 = .ok (.putfield 72, 3) := by decide +kernel
theorem dX11_accept_235 : decode cX11_accept 235 = .ok (.aload_n 0, 1) := by decide +kernel
theorem dX11_accept_236 : decode cX11_accept 236 = .ok (.aload_n 1, 1) := by decide +kernel
theorem dX11_accept_237 : decode cX11_accept 237 = .ok (.aload_n 2, 1) := by decide +kernel
theorem dX11_accept_238 : decode cX11_accept 238 = .ok (.iload_n 3, 1) := by decide +kernel
theorem dX11_accept_239 : decode cX11_accept 239 = .ok (.aload 4, 2) := by decide +kernel
theorem dX11_accept_241 : decode cX11_accept 241 = .ok (.invokevirtual 95, 3) := by decide +kernel
theorem dX11_accept_244 : decode cX11_accept 244 = .ok (.return_, 1) := by decide +kernel
set_option maxRecDepth 20000 in
theorem a_X11_accept_244 {Q : Sg → Unit → Prop} {X : Sg → String → Prop} {th : Nat} (K : MD l R p s m args c cX11_accept 7 RX11 D cA tys A n0 s0 10 197 []) (hQ : CQV p l e R s m args below meth c cX11_accept D cA A n0 s0 QM σi Q) (hX : CX p l e R s m args below meth c 7 D cA A n0 s0 QM σi X) (hTh : CT p l e R s m args below meth c cX11_accept 7 D cA A n0 s0 QM σi RX11 X) : ∀ (σ : Sg), w_X11_accept_244 th Q X σ → RG σ → TY σ → Ext σi σ → kO σ th 11 → JJ p l e R s m args below meth c 7 D cA A n0 s0 QM σ 244 [(0, .ref th)] [] := by
  intro σ h hGσ hYσ hE hth H locs ls hH hl hc
  have B := K.1
  have hl9 := K.2.2.2.2.2.2
  unfold w_X11_accept_244 at h
  exact hQ _ _ _ _ _ dX11_accept_244 hH hc h hGσ hYσ hE
set_option maxRecDepth 20000 in
theorem a_X11_accept_60 {Q : Sg → Unit → Prop} {X : Sg → String → Prop} {th : Nat} (K : MD l R p s m args c cX11_accept 7 RX11 D cA tys A n0 s0 10 197 []) (hQ : CQV p l e R s m args below meth c cX11_accept D cA A n0 s0 QM σi Q) (hX : CX p l e R s m args below meth c 7 D cA A n0 s0 QM σi X) (hTh : CT p l e R s m args below meth c cX11_accept 7 D cA A n0 s0 QM σi RX11 X) : ∀ (σ : Sg) (v1 : Option Nat) (v2 : Option Nat) (v4 : Option Nat) (g1 : tyV σ 5 v1) (g2 : tyV σ 10 v2) (g4 : tyV σ 0 v4), w_X11_accept_60 th Q X σ v1 v2 v4 → RG σ → TY σ → Ext σi σ → kO σ th 11 → JJ p l e R s m args below meth c 7 D cA A n0 s0 QM σ 60 [(0, .ref th), (1, va_rf v1), (2, va_rf v2), (4, va_rf v4)] [] := by
  intro σ v1 v2 v4 g1 g2 g4 h hGσ hYσ hE hth H locs ls hH hl hc
  have B := K.1
  have hl9 := K.2.2.2.2.2.2
  unfold w_X11_accept_60 at h
  refine lv_aload_n B.1 B.2.1 dX11_accept_60 rfl (lv_at hl 0 rfl) ?_
  refine lv_aload_nQ B.1 B.2.1 dX11_accept_61 rfl (lv_at hl 1 rfl) ?_
  refine lv_aload_nQ B.1 B.2.1 dX11_accept_62 rfl (lv_at hl 2 rfl) ?_
  refine lv_aloadQ B.1 B.2.1 dX11_accept_63 (lv_at hl 3 rfl) ?_
  refine W.eq (g2 := F0 m 65 ls [va_rf v4, va_rf v2, va_rf v1, .ref th]) (rfl) ?_
  refine c_V B hH hl hc K.2.2.1 (C := RX11) (T := TX11) (N := 6) (ci := 11) (As := [va_rf v1, va_rf v2, va_rf v4]) (ok_X11_filterRow hl9 K.2.1 σ th v1 v2 v4 g1 g2 g4 hth hGσ hYσ h) wc_X11_35 3 hd_X11_filterRow ⟨Nat.le_trans (Nat.le_of_ble_eq_true rfl) K.2.2.2.1, Nat.le_trans (Nat.le_of_ble_eq_true rfl) K.2.2.2.2.1⟩ hth.1 hth.2 (by decide) rfl rfl (rest := []) rfl (Nat.le_of_ble_eq_true rfl) dX11_accept_65 (fun σ57 w hq => ?_) (fun σ9 E9 hx9 => hX σ9 E9 _ _ _ (tb_out K.2.2.2.2.2.1 rfl) hx9.1 hx9.2.1 hx9.2.2.1 (hE.trans hx9.2.2.2))
  obtain ⟨rfl, h, hGσ57, hYσ57, xσ57⟩ := hq
  have h := h xσ57
  intro H locs ls hH hl hc
  refine W.eq (g2 := F0 m 68 ls []) (rfl) ?_
  try dsimp only at h
  refine lv_goto (tgt := 244) B.1 B.2.1 dX11_accept_68 (by decide) ?_
  exact a_X11_accept_244 K hQ hX hTh _ h hGσ57 hYσ57 (hE.trans xσ57) (hth.up xσ57) _ _ _ hH (lv_sub (l' := [(0, .ref th)]) hl [0] rfl) hc
set_option maxRecDepth 20000 in
theorem a_X11_accept_71 {Q : Sg → Unit → Prop} {X : Sg → String → Prop} {th : Nat} (K : MD l R p s m args c cX11_accept 7 RX11 D cA tys A n0 s0 10 197 []) (hQ : CQV p l e R s m args below meth c cX11_accept D cA A n0 s0 QM σi Q) (hX : CX p l e R s m args below meth c 7 D cA A n0 s0 QM σi X) (hTh : CT p l e R s m args below meth c cX11_accept 7 D cA A n0 s0 QM σi RX11 X) : ∀ (σ : Sg) (v1 : Option Nat) (v2 : Option Nat) (v4 : Option Nat) (g1 : tyV σ 5 v1) (g2 : tyV σ 10 v2) (g4 : tyV σ 0 v4), w_X11_accept_71 th Q X σ v1 v2 v4 → RG σ → TY σ → Ext σi σ → kO σ th 11 → JJ p l e R s m args below meth c 7 D cA A n0 s0 QM σ 71 [(0, .ref th), (1, va_rf v1), (2, va_rf v2), (4, va_rf v4)] [] := by
  intro σ v1 v2 v4 g1 g2 g4 h hGσ hYσ hE hth H locs ls hH hl hc
  have B := K.1
  have hl9 := K.2.2.2.2.2.2
  unfold w_X11_accept_71 at h
  refine lv_aload_n B.1 B.2.1 dX11_accept_71 rfl (lv_at hl 0 rfl) ?_
  refine lv_aload_nQ B.1 B.2.1 dX11_accept_72 rfl (lv_at hl 1 rfl) ?_
  refine lv_aload_nQ B.1 B.2.1 dX11_accept_73 rfl (lv_at hl 2 rfl) ?_
  refine lv_aloadQ B.1 B.2.1 dX11_accept_74 (lv_at hl 3 rfl) ?_
  refine W.eq (g2 := F0 m 76 ls [va_rf v4, va_rf v2, va_rf v1, .ref th]) (rfl) ?_
  refine c_V B hH hl hc K.2.2.1 (C := RX11) (T := TX11) (N := 6) (ci := 11) (As := [va_rf v1, va_rf v2, va_rf v4]) (ok_X11_mapRow hl9 K.2.1 σ th v1 v2 v4 g1 g2 g4 hth hGσ hYσ h) wc_X11_39 3 hd_X11_mapRow ⟨Nat.le_trans (Nat.le_of_ble_eq_true rfl) K.2.2.2.1, Nat.le_trans (Nat.le_of_ble_eq_true rfl) K.2.2.2.2.1⟩ hth.1 hth.2 (by decide) rfl rfl (rest := []) rfl (Nat.le_of_ble_eq_true rfl) dX11_accept_76 (fun σ58 w hq => ?_) (fun σ9 E9 hx9 => hX σ9 E9 _ _ _ (tb_out K.2.2.2.2.2.1 rfl) hx9.1 hx9.2.1 hx9.2.2.1 (hE.trans hx9.2.2.2))
  obtain ⟨rfl, h, hGσ58, hYσ58, xσ58⟩ := hq
  have h := h xσ58
  intro H locs ls hH hl hc
  refine W.eq (g2 := F0 m 79 ls []) (rfl) ?_
  try dsimp only at h
  refine lv_goto (tgt := 244) B.1 B.2.1 dX11_accept_79 (by decide) ?_
  exact a_X11_accept_244 K hQ hX hTh _ h hGσ58 hYσ58 (hE.trans xσ58) (hth.up xσ58) _ _ _ hH (lv_sub (l' := [(0, .ref th)]) hl [0] rfl) hc
set_option maxRecDepth 20000 in
theorem a_X11_accept_82 {Q : Sg → Unit → Prop} {X : Sg → String → Prop} {th : Nat} (K : MD l R p s m args c cX11_accept 7 RX11 D cA tys A n0 s0 10 197 []) (hQ : CQV p l e R s m args below meth c cX11_accept D cA A n0 s0 QM σi Q) (hX : CX p l e R s m args below meth c 7 D cA A n0 s0 QM σi X) (hTh : CT p l e R s m args below meth c cX11_accept 7 D cA A n0 s0 QM σi RX11 X) : ∀ (σ : Sg) (v4 : Option Nat) (g4 : tyV σ 0 v4), w_X11_accept_82 th Q X σ v4 → RG σ → TY σ → Ext σi σ → kO σ th 11 → JJ p l e R s m args below meth c 7 D cA A n0 s0 QM σ 82 [(0, .ref th), (4, va_rf v4)] [] := by
  intro σ v4 g4 h hGσ hYσ hE hth H locs ls hH hl hc
  have B := K.1
  have hl9 := K.2.2.2.2.2.2
  unfold w_X11_accept_82 at h
  refine lv_aload_n B.1 B.2.1 dX11_accept_82 rfl (lv_at hl 0 rfl) ?_
  refine f_getp B hH hth (by decide) rfl wu_X11 2 (by decide) wf_X11_12 rfl rfl dX11_accept_83 ?_
  refine lv_aloadQ B.1 B.2.1 dX11_accept_86 (lv_at hl 1 rfl) ?_
  obtain ⟨a60, ea60, h⟩ := h
  have ka60 : kO σ a60 1 := (hYσ.get hth (by decide)) a60 ea60
  have h := h ka60
  refine W.eq (g2 := F0 m 88 ls [va_rf v4, .ref a60]) (by rw [ea60]; rfl) ?_
  refine c_V B hH hl hc K.2.2.1 (C := RX1) (T := TX1) (N := 3) (ci := 1) (As := [va_rf v4]) (ok_X1_add hl9 K.2.1 σ a60 v4 g4 ka60 hGσ hYσ h) wc_X11_42 1 hd_X1_add ⟨Nat.le_trans (Nat.le_of_ble_eq_true rfl) K.2.2.2.1, Nat.le_trans (Nat.le_of_ble_eq_true rfl) K.2.2.2.2.1⟩ ka60.1 ka60.2 (by decide) rfl rfl (rest := []) rfl (Nat.le_of_ble_eq_true rfl) dX11_accept_88 (fun σ59 w hq => ?_) (fun σ9 E9 hx9 => hX σ9 E9 _ _ _ (tb_out K.2.2.2.2.2.1 rfl) hx9.1 hx9.2.1 hx9.2.2.1 (hE.trans hx9.2.2.2))
  obtain ⟨rfl, h, hGσ59, hYσ59, xσ59⟩ := hq
  have h := h xσ59
  intro H locs ls hH hl hc
  refine W.eq (g2 := F0 m 91 ls []) (rfl) ?_
  try dsimp only at h
  refine lv_goto (tgt := 244) B.1 B.2.1 dX11_accept_91 (by decide) ?_
  exact a_X11_accept_244 K hQ hX hTh _ h hGσ59 hYσ59 (hE.trans xσ59) (hth.up xσ59) _ _ _ hH (lv_sub (l' := [(0, .ref th)]) hl [0] rfl) hc
set_option maxRecDepth 20000 in
theorem a_X11_accept_115 {Q : Sg → Unit → Prop} {X : Sg → String → Prop} {th : Nat} (K : MD l R p s m args c cX11_accept 7 RX11 D cA tys A n0 s0 10 197 []) (hQ : CQV p l e R s m args below meth c cX11_accept D cA A n0 s0 QM σi Q) (hX : CX p l e R s m args below meth c 7 D cA A n0 s0 QM σi X) (hTh : CT p l e R s m args below meth c cX11_accept 7 D cA A n0 s0 QM σi RX11 X) : ∀ (σ : Sg) (v2 : Option Nat) (v4 : Option Nat) (g2 : tyV σ 10 v2) (g4 : tyV σ 0 v4), w_X11_accept_115 th Q X σ v2 v4 → RG σ → TY σ → Ext σi σ → kO σ th 11 → JJ p l e R s m args below meth c 7 D cA A n0 s0 QM σ 115 [(0, .ref th), (2, va_rf v2), (4, va_rf v4)] [] := by
  intro σ v2 v4 g2 g4 h hGσ hYσ hE hth H locs ls hH hl hc
  have B := K.1
  have hl9 := K.2.2.2.2.2.2
  unfold w_X11_accept_115 at h
  refine lv_aload_n B.1 B.2.1 dX11_accept_115 rfl (lv_at hl 0 rfl) ?_
  refine lv_aload_nQ B.1 B.2.1 dX11_accept_116 rfl (lv_at hl 1 rfl) ?_
  refine lv_aloadQ B.1 B.2.1 dX11_accept_117 (lv_at hl 2 rfl) ?_
  refine W.eq (g2 := F0 m 119 ls [va_rf v4, va_rf v2, .ref th]) (rfl) ?_
  refine c_V B hH hl hc K.2.2.1 (C := RX11) (T := TX11) (N := 6) (ci := 11) (As := [va_rf v2, va_rf v4]) (ok_X11_putAside hl9 K.2.1 σ th v2 v4 g2 g4 hth hGσ hYσ h) wc_X11_53 2 hd_X11_putAside ⟨Nat.le_trans (Nat.le_of_ble_eq_true rfl) K.2.2.2.1, Nat.le_trans (Nat.le_of_ble_eq_true rfl) K.2.2.2.2.1⟩ hth.1 hth.2 (by decide) rfl rfl (rest := []) rfl (Nat.le_of_ble_eq_true rfl) dX11_accept_119 (fun σ61 w hq => ?_) (fun σ9 E9 hx9 => hX σ9 E9 _ _ _ (tb_out K.2.2.2.2.2.1 rfl) hx9.1 hx9.2.1 hx9.2.2.1 (hE.trans hx9.2.2.2))
  obtain ⟨rfl, h, hGσ61, hYσ61, xσ61⟩ := hq
  have h := h xσ61
  intro H locs ls hH hl hc
  refine W.eq (g2 := F0 m 122 ls []) (rfl) ?_
  try dsimp only at h
  refine lv_goto (tgt := 244) B.1 B.2.1 dX11_accept_122 (by decide) ?_
  exact a_X11_accept_244 K hQ hX hTh _ h hGσ61 hYσ61 (hE.trans xσ61) (hth.up xσ61) _ _ _ hH (lv_sub (l' := [(0, .ref th)]) hl [0] rfl) hc
set_option maxRecDepth 20000 in
theorem a_X11_accept_104 {Q : Sg → Unit → Prop} {X : Sg → String → Prop} {th : Nat} (K : MD l R p s m args c cX11_accept 7 RX11 D cA tys A n0 s0 10 197 []) (hQ : CQV p l e R s m args below meth c cX11_accept D cA A n0 s0 QM σi Q) (hX : CX p l e R s m args below meth c 7 D cA A n0 s0 QM σi X) (hTh : CT p l e R s m args below meth c cX11_accept 7 D cA A n0 s0 QM σi RX11 X) : ∀ (σ : Sg) (v1 : Option Nat) (v2 : Option Nat) (v4 : Option Nat) (g1 : tyV σ 5 v1) (g2 : tyV σ 10 v2) (g4 : tyV σ 0 v4), w_X11_accept_104 th Q X σ v1 v2 v4 → RG σ → TY σ → Ext σi σ → kO σ th 11 → JJ p l e R s m args below meth c 7 D cA A n0 s0 QM σ 104 [(0, .ref th), (1, va_rf v1), (2, va_rf v2), (4, va_rf v4)] [] := by
  intro σ v1 v2 v4 g1 g2 g4 h hGσ hYσ hE hth H locs ls hH hl hc
  have B := K.1
  have hl9 := K.2.2.2.2.2.2
  unfold w_X11_accept_104 at h
  refine lv_aload_n B.1 B.2.1 dX11_accept_104 rfl (lv_at hl 0 rfl) ?_
  refine lv_aload_nQ B.1 B.2.1 dX11_accept_105 rfl (lv_at hl 1 rfl) ?_
  refine lv_aload_nQ B.1 B.2.1 dX11_accept_106 rfl (lv_at hl 2 rfl) ?_
  refine lv_aloadQ B.1 B.2.1 dX11_accept_107 (lv_at hl 3 rfl) ?_
  refine W.eq (g2 := F0 m 109 ls [va_rf v4, va_rf v2, va_rf v1, .ref th]) (rfl) ?_
  refine c_V B hH hl hc K.2.2.1 (C := RX11) (T := TX11) (N := 6) (ci := 11) (As := [va_rf v1, va_rf v2, va_rf v4]) (ok_X11_foldRow hl9 K.2.1 σ th v1 v2 v4 g1 g2 g4 hth hGσ hYσ h) wc_X11_50 3 hd_X11_foldRow ⟨Nat.le_trans (Nat.le_of_ble_eq_true rfl) K.2.2.2.1, Nat.le_trans (Nat.le_of_ble_eq_true rfl) K.2.2.2.2.1⟩ hth.1 hth.2 (by decide) rfl rfl (rest := []) rfl (Nat.le_of_ble_eq_true rfl) dX11_accept_109 (fun σ62 w hq => ?_) (fun σ9 E9 hx9 => hX σ9 E9 _ _ _ (tb_out K.2.2.2.2.2.1 rfl) hx9.1 hx9.2.1 hx9.2.2.1 (hE.trans hx9.2.2.2))
  obtain ⟨rfl, h, hGσ62, hYσ62, xσ62⟩ := hq
  have h := h xσ62
  intro H locs ls hH hl hc
  refine W.eq (g2 := F0 m 112 ls []) (rfl) ?_
  try dsimp only at h
  refine lv_goto (tgt := 244) B.1 B.2.1 dX11_accept_112 (by decide) ?_
  exact a_X11_accept_244 K hQ hX hTh _ h hGσ62 hYσ62 (hE.trans xσ62) (hth.up xσ62) _ _ _ hH (lv_sub (l' := [(0, .ref th)]) hl [0] rfl) hc
set_option maxRecDepth 20000 in
theorem a_X11_accept_94 {Q : Sg → Unit → Prop} {X : Sg → String → Prop} {th : Nat} (K : MD l R p s m args c cX11_accept 7 RX11 D cA tys A n0 s0 10 197 []) (hQ : CQV p l e R s m args below meth c cX11_accept D cA A n0 s0 QM σi Q) (hX : CX p l e R s m args below meth c 7 D cA A n0 s0 QM σi X) (hTh : CT p l e R s m args below meth c cX11_accept 7 D cA A n0 s0 QM σi RX11 X) : ∀ (σ : Sg) (v1 : Option Nat) (v2 : Option Nat) (v4 : Option Nat) (g1 : tyV σ 5 v1) (g2 : tyV σ 10 v2) (g4 : tyV σ 0 v4), w_X11_accept_94 th Q X σ v1 v2 v4 → RG σ → TY σ → Ext σi σ → kO σ th 11 → JJ p l e R s m args below meth c 7 D cA A n0 s0 QM σ 94 [(0, .ref th), (1, va_rf v1), (2, va_rf v2), (4, va_rf v4)] [] := by
  intro σ v1 v2 v4 g1 g2 g4 h hGσ hYσ hE hth H locs ls hH hl hc
  have B := K.1
  have hl9 := K.2.2.2.2.2.2
  unfold w_X11_accept_94 at h
  refine lv_aload_n B.1 B.2.1 dX11_accept_94 rfl (lv_at hl 0 rfl) ?_
  refine lv_aload_nQ B.1 B.2.1 dX11_accept_95 rfl (lv_at hl 1 rfl) ?_
  refine lv_aloadQ B.1 B.2.1 dX11_accept_96 (lv_at hl 3 rfl) ?_
  refine W.eq (g2 := F0 m 98 ls [va_rf v4, va_rf v1, .ref th]) (rfl) ?_
  refine c_V B hH hl hc K.2.2.1 (C := RX11) (T := TX11) (N := 6) (ci := 11) (As := [va_rf v1, va_rf v4]) (ok_X11_measure hl9 K.2.1 σ th v1 v4 g1 g4 hth hGσ hYσ h) wc_X11_46 2 hd_X11_measure ⟨Nat.le_trans (Nat.le_of_ble_eq_true rfl) K.2.2.2.1, Nat.le_trans (Nat.le_of_ble_eq_true rfl) K.2.2.2.2.1⟩ hth.1 hth.2 (by decide) rfl rfl (rest := []) rfl (Nat.le_of_ble_eq_true rfl) dX11_accept_98 (fun σ63 w hq => ?_) (fun σ9 E9 hx9 => hX σ9 E9 _ _ _ (tb_out K.2.2.2.2.2.1 rfl) hx9.1 hx9.2.1 hx9.2.2.1 (hE.trans hx9.2.2.2))
  obtain ⟨r64, rfl, ⟨gr64, gzr64⟩, h, hGσ63, hYσ63, xσ63⟩ := hq
  have h := h xσ63
  intro H locs ls hH hl hc
  refine W.eq (g2 := F0 m 101 ls [.int (i32 r64)]) (rfl) ?_
  try dsimp only at h
  refine lv_if_eq (tgt := 115) B.1 B.2.1 dX11_accept_101 (by decide) (fun h9 => ?_) (fun h9 => ?_)
  · rw [if_pos ((z_eq gr64).mp h9)] at h
    exact a_X11_accept_115 K hQ hX hTh _ _ _ (g2.up xσ63) (g4.up xσ63) h hGσ63 hYσ63 (hE.trans xσ63) (hth.up xσ63) _ _ _ hH (lv_sub (l' := [(0, .ref th), (2, va_rf v2), (4, va_rf v4)]) hl [0, 2, 3] rfl) hc
  · rw [if_neg (fun q => h9 ((z_eq gr64).mpr q))] at h
    exact a_X11_accept_104 K hQ hX hTh _ _ _ _ (g1.up xσ63) (g2.up xσ63) (g4.up xσ63) h hGσ63 hYσ63 (hE.trans xσ63) (hth.up xσ63) _ _ _ hH (lv_sub (l' := [(0, .ref th), (1, va_rf v1), (2, va_rf v2), (4, va_rf v4)]) hl [0, 1, 2, 3] rfl) hc
set_option maxRecDepth 20000 in
theorem a_X11_accept_125 {Q : Sg → Unit → Prop} {X : Sg → String → Prop} {th : Nat} (K : MD l R p s m args c cX11_accept 7 RX11 D cA tys A n0 s0 10 197 []) (hQ : CQV p l e R s m args below meth c cX11_accept D cA A n0 s0 QM σi Q) (hX : CX p l e R s m args below meth c 7 D cA A n0 s0 QM σi X) (hTh : CT p l e R s m args below meth c cX11_accept 7 D cA A n0 s0 QM σi RX11 X) : ∀ (σ : Sg) (v1 : Option Nat) (v2 : Option Nat) (v3 : Int) (v4 : Option Nat) (g1 : tyV σ 5 v1) (g2 : tyV σ 10 v2) (g3 : rng v3) (g4 : tyV σ 0 v4), w_X11_accept_125 th Q X σ v1 v2 v3 v4 → RG σ → TY σ → Ext σi σ → kO σ th 11 → JJ p l e R s m args below meth c 7 D cA A n0 s0 QM σ 125 [(0, .ref th), (1, va_rf v1), (2, va_rf v2), (3, .int (i32 v3)), (4, va_rf v4)] [] := by
  intro σ v1 v2 v3 v4 g1 g2 g3 g4 h hGσ hYσ hE hth H locs ls hH hl hc
  have B := K.1
  have hl9 := K.2.2.2.2.2.2
  unfold w_X11_accept_125 at h
  refine lv_aload_n B.1 B.2.1 dX11_accept_125 rfl (lv_at hl 0 rfl) ?_
  refine lv_aload_nQ B.1 B.2.1 dX11_accept_126 rfl (lv_at hl 1 rfl) ?_
  refine lv_aload_nQ B.1 B.2.1 dX11_accept_127 rfl (lv_at hl 2 rfl) ?_
  refine lv_iload_n B.1 B.2.1 dX11_accept_128 rfl (lv_at hl 3 rfl) ?_
  refine lv_aloadQ B.1 B.2.1 dX11_accept_129 (lv_at hl 4 rfl) ?_
  refine W.eq (g2 := F0 m 131 ls [va_rf v4, .int (i32 v3), va_rf v2, va_rf v1, .ref th]) (rfl) ?_
  refine c_V B hH hl hc K.2.2.1 (C := RX11) (T := TX11) (N := 6) (ci := 11) (As := [va_rf v1, va_rf v2, .int (i32 v3), va_rf v4]) (ok_X11_joinRow hl9 K.2.1 σ th v1 v2 v3 v4 g1 g2 g3 g4 hth hGσ hYσ h) wc_X11_57 4 hd_X11_joinRow ⟨Nat.le_trans (Nat.le_of_ble_eq_true rfl) K.2.2.2.1, Nat.le_trans (Nat.le_of_ble_eq_true rfl) K.2.2.2.2.1⟩ hth.1 hth.2 (by decide) rfl rfl (rest := []) rfl (Nat.le_of_ble_eq_true rfl) dX11_accept_131 (fun σ65 w hq => ?_) (fun σ9 E9 hx9 => hX σ9 E9 _ _ _ (tb_out K.2.2.2.2.2.1 rfl) hx9.1 hx9.2.1 hx9.2.2.1 (hE.trans hx9.2.2.2))
  obtain ⟨rfl, h, hGσ65, hYσ65, xσ65⟩ := hq
  have h := h xσ65
  intro H locs ls hH hl hc
  refine W.eq (g2 := F0 m 134 ls []) (rfl) ?_
  try dsimp only at h
  refine lv_goto (tgt := 244) B.1 B.2.1 dX11_accept_134 (by decide) ?_
  exact a_X11_accept_244 K hQ hX hTh _ h hGσ65 hYσ65 (hE.trans xσ65) (hth.up xσ65) _ _ _ hH (lv_sub (l' := [(0, .ref th)]) hl [0] rfl) hc
set_option maxRecDepth 20000 in
theorem a_X11_accept_137 {Q : Sg → Unit → Prop} {X : Sg → String → Prop} {th : Nat} (K : MD l R p s m args c cX11_accept 7 RX11 D cA tys A n0 s0 10 197 []) (hQ : CQV p l e R s m args below meth c cX11_accept D cA A n0 s0 QM σi Q) (hX : CX p l e R s m args below meth c 7 D cA A n0 s0 QM σi X) (hTh : CT p l e R s m args below meth c cX11_accept 7 D cA A n0 s0 QM σi RX11 X) : ∀ (σ : Sg) (v1 : Option Nat) (v2 : Option Nat) (v4 : Option Nat) (g1 : tyV σ 5 v1) (g2 : tyV σ 10 v2) (g4 : tyV σ 0 v4), w_X11_accept_137 th Q X σ v1 v2 v4 → RG σ → TY σ → Ext σi σ → kO σ th 11 → JJ p l e R s m args below meth c 7 D cA A n0 s0 QM σ 137 [(0, .ref th), (1, va_rf v1), (2, va_rf v2), (4, va_rf v4)] [] := by
  intro σ v1 v2 v4 g1 g2 g4 h hGσ hYσ hE hth H locs ls hH hl hc
  have B := K.1
  have hl9 := K.2.2.2.2.2.2
  unfold w_X11_accept_137 at h
  refine lv_aload_n B.1 B.2.1 dX11_accept_137 rfl (lv_at hl 0 rfl) ?_
  refine lv_aload_nQ B.1 B.2.1 dX11_accept_138 rfl (lv_at hl 1 rfl) ?_
  refine lv_aload_nQ B.1 B.2.1 dX11_accept_139 rfl (lv_at hl 2 rfl) ?_
  refine lv_aloadQ B.1 B.2.1 dX11_accept_140 (lv_at hl 3 rfl) ?_
  refine W.eq (g2 := F0 m 142 ls [va_rf v4, va_rf v2, va_rf v1, .ref th]) (rfl) ?_
  refine c_V B hH hl hc K.2.2.1 (C := RX11) (T := TX11) (N := 6) (ci := 11) (As := [va_rf v1, va_rf v2, va_rf v4]) (ok_X11_matchRow hl9 K.2.1 σ th v1 v2 v4 g1 g2 g4 hth hGσ hYσ h) wc_X11_61 3 hd_X11_matchRow ⟨Nat.le_trans (Nat.le_of_ble_eq_true rfl) K.2.2.2.1, Nat.le_trans (Nat.le_of_ble_eq_true rfl) K.2.2.2.2.1⟩ hth.1 hth.2 (by decide) rfl rfl (rest := []) rfl (Nat.le_of_ble_eq_true rfl) dX11_accept_142 (fun σ66 w hq => ?_) (fun σ9 E9 hx9 => hX σ9 E9 _ _ _ (tb_out K.2.2.2.2.2.1 rfl) hx9.1 hx9.2.1 hx9.2.2.1 (hE.trans hx9.2.2.2))
  obtain ⟨rfl, h, hGσ66, hYσ66, xσ66⟩ := hq
  have h := h xσ66
  intro H locs ls hH hl hc
  refine W.eq (g2 := F0 m 145 ls []) (rfl) ?_
  try dsimp only at h
  refine lv_goto (tgt := 244) B.1 B.2.1 dX11_accept_145 (by decide) ?_
  exact a_X11_accept_244 K hQ hX hTh _ h hGσ66 hYσ66 (hE.trans xσ66) (hth.up xσ66) _ _ _ hH (lv_sub (l' := [(0, .ref th)]) hl [0] rfl) hc
set_option maxRecDepth 20000 in
theorem a_X11_accept_148 {Q : Sg → Unit → Prop} {X : Sg → String → Prop} {th : Nat} (K : MD l R p s m args c cX11_accept 7 RX11 D cA tys A n0 s0 10 197 []) (hQ : CQV p l e R s m args below meth c cX11_accept D cA A n0 s0 QM σi Q) (hX : CX p l e R s m args below meth c 7 D cA A n0 s0 QM σi X) (hTh : CT p l e R s m args below meth c cX11_accept 7 D cA A n0 s0 QM σi RX11 X) : ∀ (σ : Sg) (v1 : Option Nat) (v2 : Option Nat) (v4 : Option Nat) (g1 : tyV σ 5 v1) (g2 : tyV σ 10 v2) (g4 : tyV σ 0 v4), w_X11_accept_148 th Q X σ v1 v2 v4 → RG σ → TY σ → Ext σi σ → kO σ th 11 → JJ p l e R s m args below meth c 7 D cA A n0 s0 QM σ 148 [(0, .ref th), (1, va_rf v1), (2, va_rf v2), (4, va_rf v4)] [] := by
  intro σ v1 v2 v4 g1 g2 g4 h hGσ hYσ hE hth H locs ls hH hl hc
  have B := K.1
  have hl9 := K.2.2.2.2.2.2
  unfold w_X11_accept_148 at h
  refine lv_aloadQ B.1 B.2.1 dX11_accept_148 (lv_at hl 3 rfl) ?_
  refine lv_aloadQ B.1 B.2.1 dX11_accept_150 (lv_at hl 3 rfl) ?_
  obtain ⟨a67, ea67, h⟩ := h
  have ka67 : kO σ a67 0 := g4 a67 ea67
  have h := h ka67
  refine W.eq (g2 := F0 m 152 ls [.ref a67, va_rf v4]) (by rw [ea67]; rfl) ?_
  refine f_getp B hH ka67 (by decide) rfl wu_X0 0 (by decide) wf_X11_64 rfl rfl dX11_accept_152 ?_
  refine lv_aload_nQ B.1 B.2.1 dX11_accept_155 rfl (lv_at hl 1 rfl) ?_
  obtain ⟨a68, ea68, h⟩ := h
  have ka68 : kO σ a68 5 := g1 a68 ea68
  have h := h ka68
  refine W.eq (g2 := F0 m 156 ls [.ref a68, va_rf (gP σ a67 0), va_rf v4]) (by rw [ea68]; rfl) ?_
  refine f_geti B hH ka68 (by decide) rfl wu_X5 13 (by decide) wf_X11_69 rfl rfl dX11_accept_156 ?_
  obtain ⟨a69, ea69, h⟩ := h
  have ka69 : kO σ a69 101 := (hYσ.get ka67 (by decide)) a69 ea69
  have h := h ka69
  obtain ⟨q1, h⟩ := h
  refine W.eq (g2 := F0 m 159 ls [.int (i32 (gI σ a68 13)), .ref a69, va_rf v4]) (by rw [ea69]; rfl) ?_
  refine y_lald B K.2.1 hH ka69 q1 dX11_accept_159 (hYσ.2 _) ?_
  obtain ⟨σ70, eσ70⟩ : ∃ z, z = pJ σ a67 7 (gJ σ a69 (gI σ a68 13).toNat) := ⟨_, rfl⟩
  have h := h σ70 eσ70
  refine W.eq (g2 := F0 m 160 ls [.long (gJ σ a69 (gI σ a68 13).toNat), .ref a67]) (by rw [ea67]; rfl) ?_
  refine f_putl B hH ka67 (by decide) rfl wu_X0 tyX0 tyX0_ok nmX0 7 (by decide) wf_X11_72 rfl (ty := .long) rfl rfl rfl rfl rfl dX11_accept_160 (fun H locs hH => ?_)
  have hH : Hd D cA A s (pJ σ a67 7 (gJ σ a69 (gI σ a68 13).toNat)) H locs := hH
  rw [← eσ70] at hH
  have hGσ70 : RG σ70 := by rw [eσ70]; exact hGσ.pJ
  have hYσ70 : TY σ70 := by rw [eσ70]; exact hYσ.pJ
  have xσ70 : Ext σ σ70 := by rw [eσ70]; exact Ext.pJ
  have hc : CB n0 s0 σ70 := by rw [eσ70]; exact hc
  rw [show gc σ = gc σ70 by rw [eσ70]; try rfl, show gs σ = gs σ70 by rw [eσ70]; try rfl]
  refine lv_iconst (v := i32 1) B.1 B.2.1 dX11_accept_163 (by decide) ?_
  refine lv_aload_nQ B.1 B.2.1 dX11_accept_164 rfl (lv_at hl 1 rfl) ?_
  refine W.eq (g2 := F0 m 165 ls [.ref a68, .int (i32 1)]) (by rw [ea68]; rfl) ?_
  refine f_geti B hH (ka68.up xσ70) (by decide) rfl wu_X5 11 (by decide) wf_X11_76 rfl rfl dX11_accept_165 ?_
  refine c_S B hH hl hc K.2.2.1 (As := [.int (i32 1), .int (i32 (gI σ70 a68 11))]) (okC_J9_max_7cf53 hl9 K.2.1 σ70 1 (gI σ70 a68 11) (by unfold rng; omega) (hGσ70 _ _) hGσ70 hYσ70 h) wc_X11_79 2 hdC_J9_max_7cf53 ⟨Nat.le_trans (Nat.le_of_ble_eq_true rfl) K.2.2.2.1, Nat.le_trans (Nat.le_of_ble_eq_true rfl) K.2.2.2.2.1⟩ rfl (rest := []) rfl (Nat.le_of_ble_eq_true rfl) dX11_accept_168 (fun σ71 w hq => ?_) (fun σ9 E9 hx9 => hX σ9 E9 _ _ _ (tb_out K.2.2.2.2.2.1 rfl) hx9.1 hx9.2.1 hx9.2.2.1 ((hE.trans xσ70).trans hx9.2.2.2))
  obtain ⟨r72, rfl, gr72, h, hGσ71, hYσ71, xσ71⟩ := hq
  have h := h xσ71
  intro H locs ls hH hl hc
  refine W.eq (g2 := F0 m 171 ls [.int (i32 r72)]) (rfl) ?_
  try dsimp only at h
  refine lv_i2l B.1 B.2.1 dX11_accept_171 (i32_i64 gr72) ?_
  refine lv_lstore (lv' := [(5, .long (Int64.ofInt r72)), (0, .ref th), (1, va_rf v1), (2, va_rf v2), (4, va_rf v4)]) B.1 B.2.1 dX11_accept_172 hl (by decide) (by generalize v4 = w9; cases w9 <;> rfl) (fun ls hl => ?_)
  refine lv_aloadQ B.1 B.2.1 dX11_accept_174 (lv_at hl 4 rfl) ?_
  refine lv_aloadQ B.1 B.2.1 dX11_accept_176 (lv_at hl 4 rfl) ?_
  refine W.eq (g2 := F0 m 178 ls [.ref a67, va_rf v4]) (by rw [ea67]; rfl) ?_
  refine f_getl B hH (ka67.up (xσ70.trans xσ71)) (by decide) rfl wu_X0 5 (by decide) wf_X11_85 rfl rfl dX11_accept_178 ?_
  refine lv_lload B.1 B.2.1 dX11_accept_181 (lv_at hl 0 rfl) ?_
  refine c_S B hH hl hc K.2.2.1 (As := [.long (gJ σ71 a67 5), .long (Int64.ofInt r72)]) (okC_J9_floorDiv_f86c9 hl9 K.2.1 σ71 (gJ σ71 a67 5) (Int64.ofInt r72) hGσ71 hYσ71 h) wc_X11_88 2 hdC_J9_floorDiv_f86c9 ⟨Nat.le_trans (Nat.le_of_ble_eq_true rfl) K.2.2.2.1, Nat.le_trans (Nat.le_of_ble_eq_true rfl) K.2.2.2.2.1⟩ rfl (rest := [va_rf v4]) rfl (by simp only [List.map_cons, List.map_nil, rf_cat]; exact Nat.le_of_ble_eq_true rfl) dX11_accept_183 (fun σ73 w hq => ?_) (fun σ9 E9 hx9 => hX σ9 E9 _ _ _ (tb_out K.2.2.2.2.2.1 rfl) hx9.1 hx9.2.1 hx9.2.2.1 (((hE.trans xσ70).trans xσ71).trans hx9.2.2.2))
  obtain ⟨r74, rfl, h, hGσ73, hYσ73, xσ73⟩ := hq
  have h := h xσ73
  intro H locs ls hH hl hc
  refine W.eq (g2 := F0 m 186 ls [.long r74, va_rf v4]) (rfl) ?_
  try dsimp only at h
  refine lv_lload B.1 B.2.1 dX11_accept_186 (lv_at hl 0 rfl) ?_
  refine lv_lmul B.1 B.2.1 dX11_accept_188 ?_
  refine lv_lload B.1 B.2.1 dX11_accept_189 (lv_at hl 0 rfl) ?_
  refine lv_ladd B.1 B.2.1 dX11_accept_191 ?_
  refine lv_lconst (v := 1) B.1 B.2.1 dX11_accept_192 (by decide) ?_
  refine lv_lsub B.1 B.2.1 dX11_accept_193 ?_
  obtain ⟨σ75, eσ75⟩ : ∃ z, z = pJ σ73 a67 6 (((r74 * (Int64.ofInt r72)) + (Int64.ofInt r72)) - 1) := ⟨_, rfl⟩
  have h := h σ75 eσ75
  refine W.eq (g2 := F0 m 194 ls [.long (((r74 * (Int64.ofInt r72)) + (Int64.ofInt r72)) - 1), .ref a67]) (by rw [ea67]; rfl) ?_
  refine f_putl B hH (ka67.up (xσ70.trans (xσ71.trans xσ73))) (by decide) rfl wu_X0 tyX0 tyX0_ok nmX0 6 (by decide) wf_X11_92 rfl (ty := .long) rfl rfl rfl rfl rfl dX11_accept_194 (fun H locs hH => ?_)
  have hH : Hd D cA A s (pJ σ73 a67 6 (((r74 * (Int64.ofInt r72)) + (Int64.ofInt r72)) - 1)) H locs := hH
  rw [← eσ75] at hH
  have hGσ75 : RG σ75 := by rw [eσ75]; exact hGσ73.pJ
  have hYσ75 : TY σ75 := by rw [eσ75]; exact hYσ73.pJ
  have xσ75 : Ext σ73 σ75 := by rw [eσ75]; exact Ext.pJ
  have hc : CB n0 s0 σ75 := by rw [eσ75]; exact hc
  rw [show gc σ73 = gc σ75 by rw [eσ75]; try rfl, show gs σ73 = gs σ75 by rw [eσ75]; try rfl]
  refine lv_aload_n B.1 B.2.1 dX11_accept_197 rfl (lv_at hl 1 rfl) ?_
  refine lv_aload_nQ B.1 B.2.1 dX11_accept_198 rfl (lv_at hl 2 rfl) ?_
  refine lv_aload_nQ B.1 B.2.1 dX11_accept_199 rfl (lv_at hl 3 rfl) ?_
  refine lv_iconst (v := i32 0) B.1 B.2.1 dX11_accept_200 (by decide) ?_
  refine lv_aloadQ B.1 B.2.1 dX11_accept_201 (lv_at hl 4 rfl) ?_
  refine W.eq (g2 := F0 m 203 ls [va_rf v4, .int (i32 0), va_rf v2, va_rf v1, .ref th]) (rfl) ?_
  refine c_V B hH hl hc K.2.2.1 (C := RX11) (T := TX11) (N := 6) (ci := 11) (As := [va_rf v1, va_rf v2, .int (i32 0), va_rf v4]) (ok_X11_keep hl9 K.2.1 σ75 th v1 v2 0 v4 (g1.up (xσ70.trans (xσ71.trans (xσ73.trans xσ75)))) (g2.up (xσ70.trans (xσ71.trans (xσ73.trans xσ75)))) (by unfold rng; omega) (g4.up (xσ70.trans (xσ71.trans (xσ73.trans xσ75)))) (hth.up (xσ70.trans (xσ71.trans (xσ73.trans xσ75)))) hGσ75 hYσ75 h) wc_X11_95 4 hd_X11_keep ⟨Nat.le_trans (Nat.le_of_ble_eq_true rfl) K.2.2.2.1, Nat.le_trans (Nat.le_of_ble_eq_true rfl) K.2.2.2.2.1⟩ (hth.up (xσ70.trans (xσ71.trans (xσ73.trans xσ75)))).1 (hth.up (xσ70.trans (xσ71.trans (xσ73.trans xσ75)))).2 (by decide) rfl rfl (rest := []) rfl (Nat.le_of_ble_eq_true rfl) dX11_accept_203 (fun σ76 w hq => ?_) (fun σ9 E9 hx9 => hX σ9 E9 _ _ _ (tb_out K.2.2.2.2.2.1 rfl) hx9.1 hx9.2.1 hx9.2.2.1 (((((hE.trans xσ70).trans xσ71).trans xσ73).trans xσ75).trans hx9.2.2.2))
  obtain ⟨rfl, h, hGσ76, hYσ76, xσ76⟩ := hq
  have h := h xσ76
  intro H locs ls hH hl hc
  refine W.eq (g2 := F0 m 206 ls []) (rfl) ?_
  try dsimp only at h
  refine lv_goto (tgt := 244) B.1 B.2.1 dX11_accept_206 (by decide) ?_
  exact a_X11_accept_244 K hQ hX hTh _ h hGσ76 hYσ76 (((((hE.trans xσ70).trans xσ71).trans xσ73).trans xσ75).trans xσ76) (hth.up (xσ70.trans (xσ71.trans (xσ73.trans (xσ75.trans xσ76))))) _ _ _ hH (lv_sub (l' := [(0, .ref th)]) hl [1] rfl) hc
set_option maxRecDepth 20000 in
theorem a_X11_accept_231 {Q : Sg → Unit → Prop} {X : Sg → String → Prop} {th : Nat} (K : MD l R p s m args c cX11_accept 7 RX11 D cA tys A n0 s0 10 197 []) (hQ : CQV p l e R s m args below meth c cX11_accept D cA A n0 s0 QM σi Q) (hX : CX p l e R s m args below meth c 7 D cA A n0 s0 QM σi X) (hTh : CT p l e R s m args below meth c cX11_accept 7 D cA A n0 s0 QM σi RX11 X) : ∀ (σ : Sg) (v1 : Option Nat) (v2 : Option Nat) (v3 : Int) (v4 : Option Nat) (u0 : Int) (u1 : Option Nat) (u2 : Option Nat) (g1 : tyV σ 5 v1) (g2 : tyV σ 10 v2) (g3 : rng v3) (g4 : tyV σ 0 v4) (gu0 : rng u0) (gu1 : tyV σ 101 u1) (gu2 : tyV σ 0 u2), w_X11_accept_231 th Q X σ v1 v2 v3 v4 u0 u1 u2 → RG σ → TY σ → Ext σi σ → kO σ th 11 → JJ p l e R s m args below meth c 7 D cA A n0 s0 QM σ 231 [(0, .ref th), (1, va_rf v1), (2, va_rf v2), (3, .int (i32 v3)), (4, va_rf v4)] [.int (i32 u0), va_rf u1, va_rf u2] := by
  intro σ v1 v2 v3 v4 u0 u1 u2 g1 g2 g3 g4 gu0 gu1 gu2 h hGσ hYσ hE hth H locs ls hH hl hc
  have B := K.1
  have hl9 := K.2.2.2.2.2.2
  unfold w_X11_accept_231 at h
  obtain ⟨a77, ea77, h⟩ := h
  have ka77 : kO σ a77 101 := gu1 a77 ea77
  have h := h ka77
  obtain ⟨q1, h⟩ := h
  refine W.eq (g2 := F0 m 231 ls [.int (i32 u0), .ref a77, va_rf u2]) (by rw [ea77]; rfl) ?_
  refine y_lald B K.2.1 hH ka77 q1 dX11_accept_231 (hYσ.2 _) ?_
  obtain ⟨a78, ea78, h⟩ := h
  have ka78 : kO σ a78 0 := gu2 a78 ea78
  have h := h ka78
  obtain ⟨σ79, eσ79⟩ : ∃ z, z = pJ σ a78 7 (gJ σ a77 u0.toNat) := ⟨_, rfl⟩
  have h := h σ79 eσ79
  refine W.eq (g2 := F0 m 232 ls [.long (gJ σ a77 u0.toNat), .ref a78]) (by rw [ea78]; rfl) ?_
  refine f_putl B hH ka78 (by decide) rfl wu_X0 tyX0 tyX0_ok nmX0 7 (by decide) wf_X11_72 rfl (ty := .long) rfl rfl rfl rfl rfl dX11_accept_232 (fun H locs hH => ?_)
  have hH : Hd D cA A s (pJ σ a78 7 (gJ σ a77 u0.toNat)) H locs := hH
  rw [← eσ79] at hH
  have hGσ79 : RG σ79 := by rw [eσ79]; exact hGσ.pJ
  have hYσ79 : TY σ79 := by rw [eσ79]; exact hYσ.pJ
  have xσ79 : Ext σ σ79 := by rw [eσ79]; exact Ext.pJ
  have hc : CB n0 s0 σ79 := by rw [eσ79]; exact hc
  rw [show gc σ = gc σ79 by rw [eσ79]; try rfl, show gs σ = gs σ79 by rw [eσ79]; try rfl]
  refine lv_aload_n B.1 B.2.1 dX11_accept_235 rfl (lv_at hl 0 rfl) ?_
  refine lv_aload_nQ B.1 B.2.1 dX11_accept_236 rfl (lv_at hl 1 rfl) ?_
  refine lv_aload_nQ B.1 B.2.1 dX11_accept_237 rfl (lv_at hl 2 rfl) ?_
  refine lv_iload_n B.1 B.2.1 dX11_accept_238 rfl (lv_at hl 3 rfl) ?_
  refine lv_aloadQ B.1 B.2.1 dX11_accept_239 (lv_at hl 4 rfl) ?_
  refine W.eq (g2 := F0 m 241 ls [va_rf v4, .int (i32 v3), va_rf v2, va_rf v1, .ref th]) (rfl) ?_
  refine c_V B hH hl hc K.2.2.1 (C := RX11) (T := TX11) (N := 6) (ci := 11) (As := [va_rf v1, va_rf v2, .int (i32 v3), va_rf v4]) (ok_X11_keep hl9 K.2.1 σ79 th v1 v2 v3 v4 (g1.up xσ79) (g2.up xσ79) g3 (g4.up xσ79) (hth.up xσ79) hGσ79 hYσ79 h) wc_X11_95 4 hd_X11_keep ⟨Nat.le_trans (Nat.le_of_ble_eq_true rfl) K.2.2.2.1, Nat.le_trans (Nat.le_of_ble_eq_true rfl) K.2.2.2.2.1⟩ (hth.up xσ79).1 (hth.up xσ79).2 (by decide) rfl rfl (rest := []) rfl (Nat.le_of_ble_eq_true rfl) dX11_accept_241 (fun σ80 w hq => ?_) (fun σ9 E9 hx9 => hX σ9 E9 _ _ _ (tb_out K.2.2.2.2.2.1 rfl) hx9.1 hx9.2.1 hx9.2.2.1 ((hE.trans xσ79).trans hx9.2.2.2))
  obtain ⟨rfl, h, hGσ80, hYσ80, xσ80⟩ := hq
  have h := h xσ80
  intro H locs ls hH hl hc
  refine W.eq (g2 := F0 m 244 ls []) (rfl) ?_
  try dsimp only at h
  exact a_X11_accept_244 K hQ hX hTh _ h hGσ80 hYσ80 ((hE.trans xσ79).trans xσ80) (hth.up (xσ79.trans xσ80)) _ _ _ hH (lv_sub (l' := [(0, .ref th)]) hl [0] rfl) hc
set_option maxRecDepth 20000 in
theorem a_X11_accept_227 {Q : Sg → Unit → Prop} {X : Sg → String → Prop} {th : Nat} (K : MD l R p s m args c cX11_accept 7 RX11 D cA tys A n0 s0 10 197 []) (hQ : CQV p l e R s m args below meth c cX11_accept D cA A n0 s0 QM σi Q) (hX : CX p l e R s m args below meth c 7 D cA A n0 s0 QM σi X) (hTh : CT p l e R s m args below meth c cX11_accept 7 D cA A n0 s0 QM σi RX11 X) : ∀ (σ : Sg) (v1 : Option Nat) (v2 : Option Nat) (v3 : Int) (v4 : Option Nat) (u0 : Option Nat) (u1 : Option Nat) (g1 : tyV σ 5 v1) (g2 : tyV σ 10 v2) (g3 : rng v3) (g4 : tyV σ 0 v4) (gu0 : tyV σ 101 u0) (gu1 : tyV σ 0 u1), w_X11_accept_227 th Q X σ v1 v2 v3 v4 u0 u1 → RG σ → TY σ → Ext σi σ → kO σ th 11 → JJ p l e R s m args below meth c 7 D cA A n0 s0 QM σ 227 [(0, .ref th), (1, va_rf v1), (2, va_rf v2), (3, .int (i32 v3)), (4, va_rf v4)] [va_rf u0, va_rf u1] := by
  intro σ v1 v2 v3 v4 u0 u1 g1 g2 g3 g4 gu0 gu1 h hGσ hYσ hE hth H locs ls hH hl hc
  have B := K.1
  have hl9 := K.2.2.2.2.2.2
  unfold w_X11_accept_227 at h
  refine lv_aload_nQ B.1 B.2.1 dX11_accept_227 rfl (lv_at hl 1 rfl) ?_
  obtain ⟨a81, ea81, h⟩ := h
  have ka81 : kO σ a81 5 := g1 a81 ea81
  have h := h ka81
  refine W.eq (g2 := F0 m 228 ls [.ref a81, va_rf u0, va_rf u1]) (by rw [ea81]; rfl) ?_
  refine f_geti B hH ka81 (by decide) rfl wu_X5 14 (by decide) wf_X11_98 rfl rfl dX11_accept_228 ?_
  exact a_X11_accept_231 K hQ hX hTh _ _ _ _ _ _ _ _ g1 g2 g3 g4 (hGσ _ _) gu0 gu1 h hGσ hYσ hE hth _ _ _ hH (lv_sub (l' := [(0, .ref th), (1, va_rf v1), (2, va_rf v2), (3, .int (i32 v3)), (4, va_rf v4)]) hl [0, 1, 2, 3, 4] rfl) hc
set_option maxRecDepth 20000 in
theorem a_X11_accept_220 {Q : Sg → Unit → Prop} {X : Sg → String → Prop} {th : Nat} (K : MD l R p s m args c cX11_accept 7 RX11 D cA tys A n0 s0 10 197 []) (hQ : CQV p l e R s m args below meth c cX11_accept D cA A n0 s0 QM σi Q) (hX : CX p l e R s m args below meth c 7 D cA A n0 s0 QM σi X) (hTh : CT p l e R s m args below meth c cX11_accept 7 D cA A n0 s0 QM σi RX11 X) : ∀ (σ : Sg) (v1 : Option Nat) (v2 : Option Nat) (v3 : Int) (v4 : Option Nat) (u0 : Option Nat) (u1 : Option Nat) (g1 : tyV σ 5 v1) (g2 : tyV σ 10 v2) (g3 : rng v3) (g4 : tyV σ 0 v4) (gu0 : tyV σ 101 u0) (gu1 : tyV σ 0 u1), w_X11_accept_220 th Q X σ v1 v2 v3 v4 u0 u1 → RG σ → TY σ → Ext σi σ → kO σ th 11 → JJ p l e R s m args below meth c 7 D cA A n0 s0 QM σ 220 [(0, .ref th), (1, va_rf v1), (2, va_rf v2), (3, .int (i32 v3)), (4, va_rf v4)] [va_rf u0, va_rf u1] := by
  intro σ v1 v2 v3 v4 u0 u1 g1 g2 g3 g4 gu0 gu1 h hGσ hYσ hE hth H locs ls hH hl hc
  have B := K.1
  have hl9 := K.2.2.2.2.2.2
  unfold w_X11_accept_220 at h
  refine lv_aload_nQ B.1 B.2.1 dX11_accept_220 rfl (lv_at hl 1 rfl) ?_
  obtain ⟨a82, ea82, h⟩ := h
  have ka82 : kO σ a82 5 := g1 a82 ea82
  have h := h ka82
  refine W.eq (g2 := F0 m 221 ls [.ref a82, va_rf u0, va_rf u1]) (by rw [ea82]; rfl) ?_
  refine f_geti B hH ka82 (by decide) rfl wu_X5 13 (by decide) wf_X11_69 rfl rfl dX11_accept_221 ?_
  refine lv_goto (tgt := 231) B.1 B.2.1 dX11_accept_224 (by decide) ?_
  exact a_X11_accept_231 K hQ hX hTh _ _ _ _ _ _ _ _ g1 g2 g3 g4 (hGσ _ _) gu0 gu1 h hGσ hYσ hE hth _ _ _ hH (lv_sub (l' := [(0, .ref th), (1, va_rf v1), (2, va_rf v2), (3, .int (i32 v3)), (4, va_rf v4)]) hl [0, 1, 2, 3, 4] rfl) hc
set_option maxRecDepth 20000 in
theorem a_X11_accept_209 {Q : Sg → Unit → Prop} {X : Sg → String → Prop} {th : Nat} (K : MD l R p s m args c cX11_accept 7 RX11 D cA tys A n0 s0 10 197 []) (hQ : CQV p l e R s m args below meth c cX11_accept D cA A n0 s0 QM σi Q) (hX : CX p l e R s m args below meth c 7 D cA A n0 s0 QM σi X) (hTh : CT p l e R s m args below meth c cX11_accept 7 D cA A n0 s0 QM σi RX11 X) : ∀ (σ : Sg) (v1 : Option Nat) (v2 : Option Nat) (v3 : Int) (v4 : Option Nat) (g1 : tyV σ 5 v1) (g2 : tyV σ 10 v2) (g3 : rng v3) (g4 : tyV σ 0 v4), w_X11_accept_209 th Q X σ v1 v2 v3 v4 → RG σ → TY σ → Ext σi σ → kO σ th 11 → JJ p l e R s m args below meth c 7 D cA A n0 s0 QM σ 209 [(0, .ref th), (1, va_rf v1), (2, va_rf v2), (3, .int (i32 v3)), (4, va_rf v4)] [] := by
  intro σ v1 v2 v3 v4 g1 g2 g3 g4 h hGσ hYσ hE hth H locs ls hH hl hc
  have B := K.1
  have hl9 := K.2.2.2.2.2.2
  unfold w_X11_accept_209 at h
  refine lv_aloadQ B.1 B.2.1 dX11_accept_209 (lv_at hl 4 rfl) ?_
  refine lv_aloadQ B.1 B.2.1 dX11_accept_211 (lv_at hl 4 rfl) ?_
  obtain ⟨a83, ea83, h⟩ := h
  have ka83 : kO σ a83 0 := g4 a83 ea83
  have h := h ka83
  refine W.eq (g2 := F0 m 213 ls [.ref a83, va_rf v4]) (by rw [ea83]; rfl) ?_
  refine f_getp B hH ka83 (by decide) rfl wu_X0 0 (by decide) wf_X11_64 rfl rfl dX11_accept_213 ?_
  refine lv_iload_n B.1 B.2.1 dX11_accept_216 rfl (lv_at hl 3 rfl) ?_
  refine lv_if_ne (tgt := 227) B.1 B.2.1 dX11_accept_217 (by decide) (fun h9 => ?_) (fun h9 => ?_)
  · rw [if_pos (fun q => h9 ((z_eq g3).mpr q))] at h
    exact a_X11_accept_227 K hQ hX hTh _ _ _ _ _ _ _ g1 g2 g3 g4 (hYσ.get ka83 (by decide)) g4 h hGσ hYσ hE hth _ _ _ hH (lv_sub (l' := [(0, .ref th), (1, va_rf v1), (2, va_rf v2), (3, .int (i32 v3)), (4, va_rf v4)]) hl [0, 1, 2, 3, 4] rfl) hc
  · rw [if_neg (fun q => q ((z_eq g3).mp h9))] at h
    exact a_X11_accept_220 K hQ hX hTh _ _ _ _ _ _ _ g1 g2 g3 g4 (hYσ.get ka83 (by decide)) g4 h hGσ hYσ hE hth _ _ _ hH (lv_sub (l' := [(0, .ref th), (1, va_rf v1), (2, va_rf v2), (3, .int (i32 v3)), (4, va_rf v4)]) hl [0, 1, 2, 3, 4] rfl) hc
set_option maxRecDepth 20000 in
theorem a_X11_accept_0 {Q : Sg → Unit → Prop} {X : Sg → String → Prop} {th : Nat} (K : MD l R p s m args c cX11_accept 7 RX11 D cA tys A n0 s0 10 197 []) (hQ : CQV p l e R s m args below meth c cX11_accept D cA A n0 s0 QM σi Q) (hX : CX p l e R s m args below meth c 7 D cA A n0 s0 QM σi X) (hTh : CT p l e R s m args below meth c cX11_accept 7 D cA A n0 s0 QM σi RX11 X) : ∀ (σ : Sg) (v1 : Option Nat) (v2 : Option Nat) (v3 : Int) (v4 : Option Nat) (g1 : tyV σ 5 v1) (g2 : tyV σ 10 v2) (g3 : rng v3) (g4 : tyV σ 0 v4), w_X11_accept_0 th Q X σ v1 v2 v3 v4 → RG σ → TY σ → Ext σi σ → kO σ th 11 → JJ p l e R s m args below meth c 7 D cA A n0 s0 QM σ 0 [(0, .ref th), (1, va_rf v1), (2, va_rf v2), (3, .int (i32 v3)), (4, va_rf v4)] [] := by
  intro σ v1 v2 v3 v4 g1 g2 g3 g4 h hGσ hYσ hE hth H locs ls hH hl hc
  have B := K.1
  have hl9 := K.2.2.2.2.2.2
  unfold w_X11_accept_0 at h
  refine lv_aload_nQ B.1 B.2.1 dX11_accept_0 rfl (lv_at hl 1 rfl) ?_
  obtain ⟨a84, ea84, h⟩ := h
  have ka84 : kO σ a84 5 := g1 a84 ea84
  have h := h ka84
  refine W.eq (g2 := F0 m 1 ls [.ref a84]) (by rw [ea84]; rfl) ?_
  refine f_geti B hH ka84 (by decide) rfl wu_X5 6 (by decide) wf_X11_30 rfl rfl dX11_accept_1 ?_
  rcases Classical.em (gI σ a84 6 = 1) with e9 | e9
  · rw [if_pos e9] at h
    refine lv_tableIn (off := 56) (tgt := 60) B.1 B.2.1 dX11_accept_4 (by rw [i32_toInt (hGσ _ _), e9]; decide) (by rw [i32_toInt (hGσ _ _), e9]; decide) (by rw [i32_toInt (hGσ _ _), e9]; rfl) (by decide) ?_
    exact a_X11_accept_60 K hQ hX hTh _ _ _ _ g1 g2 g4 h hGσ hYσ hE hth _ _ _ hH (lv_sub (l' := [(0, .ref th), (1, va_rf v1), (2, va_rf v2), (4, va_rf v4)]) hl [0, 1, 2, 4] rfl) hc
  rw [if_neg e9] at h
  have k1 := e9
  rcases Classical.em (gI σ a84 6 = 2) with e9 | e9
  · rw [if_pos e9] at h
    refine lv_tableIn (off := 67) (tgt := 71) B.1 B.2.1 dX11_accept_4 (by rw [i32_toInt (hGσ _ _), e9]; decide) (by rw [i32_toInt (hGσ _ _), e9]; decide) (by rw [i32_toInt (hGσ _ _), e9]; rfl) (by decide) ?_
    exact a_X11_accept_71 K hQ hX hTh _ _ _ _ g1 g2 g4 h hGσ hYσ hE hth _ _ _ hH (lv_sub (l' := [(0, .ref th), (1, va_rf v1), (2, va_rf v2), (4, va_rf v4)]) hl [0, 1, 2, 4] rfl) hc
  rw [if_neg e9] at h
  have k2 := e9
  rcases Classical.em (gI σ a84 6 = 3) with e9 | e9
  · rw [if_pos e9] at h
    refine lv_tableIn (off := 78) (tgt := 82) B.1 B.2.1 dX11_accept_4 (by rw [i32_toInt (hGσ _ _), e9]; decide) (by rw [i32_toInt (hGσ _ _), e9]; decide) (by rw [i32_toInt (hGσ _ _), e9]; rfl) (by decide) ?_
    exact a_X11_accept_82 K hQ hX hTh _ _ g4 h hGσ hYσ hE hth _ _ _ hH (lv_sub (l' := [(0, .ref th), (4, va_rf v4)]) hl [0, 4] rfl) hc
  rw [if_neg e9] at h
  have k3 := e9
  rcases Classical.em (gI σ a84 6 = 4) with e9 | e9
  · rw [if_pos e9] at h
    refine lv_tableIn (off := 90) (tgt := 94) B.1 B.2.1 dX11_accept_4 (by rw [i32_toInt (hGσ _ _), e9]; decide) (by rw [i32_toInt (hGσ _ _), e9]; decide) (by rw [i32_toInt (hGσ _ _), e9]; rfl) (by decide) ?_
    exact a_X11_accept_94 K hQ hX hTh _ _ _ _ g1 g2 g4 h hGσ hYσ hE hth _ _ _ hH (lv_sub (l' := [(0, .ref th), (1, va_rf v1), (2, va_rf v2), (4, va_rf v4)]) hl [0, 1, 2, 4] rfl) hc
  rw [if_neg e9] at h
  have k4 := e9
  rcases Classical.em (gI σ a84 6 = 5) with e9 | e9
  · rw [if_pos e9] at h
    refine lv_tableIn (off := 90) (tgt := 94) B.1 B.2.1 dX11_accept_4 (by rw [i32_toInt (hGσ _ _), e9]; decide) (by rw [i32_toInt (hGσ _ _), e9]; decide) (by rw [i32_toInt (hGσ _ _), e9]; rfl) (by decide) ?_
    exact a_X11_accept_94 K hQ hX hTh _ _ _ _ g1 g2 g4 h hGσ hYσ hE hth _ _ _ hH (lv_sub (l' := [(0, .ref th), (1, va_rf v1), (2, va_rf v2), (4, va_rf v4)]) hl [0, 1, 2, 4] rfl) hc
  rw [if_neg e9] at h
  have k5 := e9
  rcases Classical.em (gI σ a84 6 = 6) with e9 | e9
  · rw [if_pos e9] at h
    refine lv_tableIn (off := 121) (tgt := 125) B.1 B.2.1 dX11_accept_4 (by rw [i32_toInt (hGσ _ _), e9]; decide) (by rw [i32_toInt (hGσ _ _), e9]; decide) (by rw [i32_toInt (hGσ _ _), e9]; rfl) (by decide) ?_
    exact a_X11_accept_125 K hQ hX hTh _ _ _ _ _ g1 g2 g3 g4 h hGσ hYσ hE hth _ _ _ hH (lv_sub (l' := [(0, .ref th), (1, va_rf v1), (2, va_rf v2), (3, .int (i32 v3)), (4, va_rf v4)]) hl [0, 1, 2, 3, 4] rfl) hc
  rw [if_neg e9] at h
  have k6 := e9
  rcases Classical.em (gI σ a84 6 = 8) with e9 | e9
  · rw [if_pos e9] at h
    refine lv_tableIn (off := 133) (tgt := 137) B.1 B.2.1 dX11_accept_4 (by rw [i32_toInt (hGσ _ _), e9]; decide) (by rw [i32_toInt (hGσ _ _), e9]; decide) (by rw [i32_toInt (hGσ _ _), e9]; rfl) (by decide) ?_
    exact a_X11_accept_137 K hQ hX hTh _ _ _ _ g1 g2 g4 h hGσ hYσ hE hth _ _ _ hH (lv_sub (l' := [(0, .ref th), (1, va_rf v1), (2, va_rf v2), (4, va_rf v4)]) hl [0, 1, 2, 4] rfl) hc
  rw [if_neg e9] at h
  have k7 := e9
  rcases Classical.em (gI σ a84 6 = 10) with e9 | e9
  · rw [if_pos e9] at h
    refine lv_tableIn (off := 144) (tgt := 148) B.1 B.2.1 dX11_accept_4 (by rw [i32_toInt (hGσ _ _), e9]; decide) (by rw [i32_toInt (hGσ _ _), e9]; decide) (by rw [i32_toInt (hGσ _ _), e9]; rfl) (by decide) ?_
    exact a_X11_accept_148 K hQ hX hTh _ _ _ _ g1 g2 g4 h hGσ hYσ hE hth _ _ _ hH (lv_sub (l' := [(0, .ref th), (1, va_rf v1), (2, va_rf v2), (4, va_rf v4)]) hl [0, 1, 2, 4] rfl) hc
  rw [if_neg e9] at h
  have k8 := e9
  rcases (show (gI σ a84 6 < 1 ∨ 10 < gI σ a84 6) ∨ gI σ a84 6 = 7 ∨ gI σ a84 6 = 9 by omega) with e9 | e9 | e9
  · refine lv_tableOut (tgt := 209) B.1 B.2.1 dX11_accept_4 (by rw [i32_toInt (hGσ _ _)]; exact e9) (by decide) ?_
    exact a_X11_accept_209 K hQ hX hTh _ _ _ _ _ g1 g2 g3 g4 h hGσ hYσ hE hth _ _ _ hH (lv_sub (l' := [(0, .ref th), (1, va_rf v1), (2, va_rf v2), (3, .int (i32 v3)), (4, va_rf v4)]) hl [0, 1, 2, 3, 4] rfl) hc
  · refine lv_tableIn (off := 205) (tgt := 209) B.1 B.2.1 dX11_accept_4 (by rw [i32_toInt (hGσ _ _), e9]; decide) (by rw [i32_toInt (hGσ _ _), e9]; decide) (by rw [i32_toInt (hGσ _ _), e9]; rfl) (by decide) ?_
    exact a_X11_accept_209 K hQ hX hTh _ _ _ _ _ g1 g2 g3 g4 h hGσ hYσ hE hth _ _ _ hH (lv_sub (l' := [(0, .ref th), (1, va_rf v1), (2, va_rf v2), (3, .int (i32 v3)), (4, va_rf v4)]) hl [0, 1, 2, 3, 4] rfl) hc
  · refine lv_tableIn (off := 205) (tgt := 209) B.1 B.2.1 dX11_accept_4 (by rw [i32_toInt (hGσ _ _), e9]; decide) (by rw [i32_toInt (hGσ _ _), e9]; decide) (by rw [i32_toInt (hGσ _ _), e9]; rfl) (by decide) ?_
    exact a_X11_accept_209 K hQ hX hTh _ _ _ _ _ g1 g2 g3 g4 h hGσ hYσ hE hth _ _ _ hH (lv_sub (l' := [(0, .ref th), (1, va_rf v1), (2, va_rf v2), (3, .int (i32 v3)), (4, va_rf v4)]) hl [0, 1, 2, 3, 4] rfl) hc
theorem ok_X11_accept (hl0 : l.stackTraces = false) (hT : TyC cA tys) {Q : Sg → Unit → Prop} {X : Sg → String → Prop} (σ : Sg) (th : Nat) (v1 : Option Nat) (v2 : Option Nat) (v3 : Int) (v4 : Option Nat) (g1 : tyV σ 5 v1) (g2 : tyV σ 10 v2) (g3 : rng v3) (g4 : tyV σ 0 v4) (hth : kO σ th 11) (hG : RG σ) (hY : TY σ) (h : wp_X11_accept th v1 v2 v3 v4 σ Q X) : Ok l D cA tys A yX11_accept (.code yX11_accept cX11_accept 7 none) 10 197 [.ref th, va_rf v1, va_rf v2, .int (i32 v3), va_rf v4] σ (QcV σ Q) (QxC σ X) := by
  unfold wp_X11_accept at h
  exact oc_V hl0 (by decide) (by cases v1 <;> cases v2 <;> cases v4 <;> exact Nat.le_of_ble_eq_true rfl) hT (fun p e R s m args below meth c K hQ hX hTh hin9 H locs ls hH hl hc => a_X11_accept_0 K hQ hX hTh σ v1 v2 v3 v4 g1 g2 g3 g4 h hG hY (Ext.rfl' σ) hth H locs ls hH (lv_sub (l' := [(0, .ref th), (1, va_rf v1), (2, va_rf v2), (3, .int (i32 v3)), (4, va_rf v4)]) hl [0, 1, 2, 3, 4] (by cases v1 <;> cases v2 <;> cases v4 <;> rfl)) hc)
theorem dX11_drop_0 : decode cX11_drop 0 = .ok (.aload_n 1, 1) := by decide +kernel
theorem dX11_drop_1 : decode cX11_drop 1 = .ok (.aload_n 2, 1) := by decide +kernel
theorem dX11_drop_2 : decode cX11_drop 2 = .ok (.invokevirtual 238, 3) := by decide +kernel
theorem dX11_drop_5 : decode cX11_drop 5 = .ok (.astore_n 3, 1) := by decide +kernel
theorem dX11_drop_6 : decode cX11_drop 6 = .ok (.aload_n 3, 1) := by decide +kernel
theorem dX11_drop_7 : decode cX11_drop 7 = .ok (.ifnull 21, 3) := by decide +kernel
theorem dX11_drop_10 : decode cX11_drop 10 = .ok (.aload_n 0, 1) := by decide +kernel
theorem dX11_drop_11 : decode cX11_drop 11 = .ok (.dup, 1) := by decide +kernel
theorem dX11_drop_12 : decode cX11_drop 12 = .ok (.getfield 165, 3) := by decide +kernel
theorem dX11_drop_15 : decode cX11_drop 15 = .ok (.iconst 1, 1) := by decide +kernel
theorem dX11_drop_16 : decode cX11_drop 16 = .ok (.isub, 1) := by decide +kernel
theorem dX11_drop_17 : decode cX11_drop 17 = .ok (.putfield 165, 3) := by decide +kernel
theorem dX11_drop_20 : decode cX11_drop 20 = .ok (.aload_n 0, 1) := by decide +kernel
theorem dX11_drop_21 : decode cX11_drop 21 = .ok (.getfield 22, 3) := by decide +kernel
theorem dX11_drop_24 : decode cX11_drop 24 = .ok (.aload_n 3, 1) := by decide +kernel
theorem dX11_drop_25 : decode cX11_drop 25 = .ok (.invokevirtual 174, 3) := by decide +kernel
theorem dX11_drop_28 : decode cX11_drop 28 = .ok (.return_, 1) := by decide +kernel
set_option maxRecDepth 20000 in
theorem a_X11_drop_28 {Q : Sg → Unit → Prop} {X : Sg → String → Prop} {th : Nat} (K : MD l R p s m args c cX11_drop 4 RX11 D cA tys A n0 s0 1 22 []) (hQ : CQV p l e R s m args below meth c cX11_drop D cA A n0 s0 QM σi Q) (hX : CX p l e R s m args below meth c 4 D cA A n0 s0 QM σi X) (hTh : CT p l e R s m args below meth c cX11_drop 4 D cA A n0 s0 QM σi RX11 X) : ∀ (σ : Sg), w_X11_drop_28 th Q X σ → RG σ → TY σ → Ext σi σ → kO σ th 11 → JJ p l e R s m args below meth c 4 D cA A n0 s0 QM σ 28 [(0, .ref th)] [] := by
  intro σ h hGσ hYσ hE hth H locs ls hH hl hc
  have B := K.1
  have hl9 := K.2.2.2.2.2.2
  unfold w_X11_drop_28 at h
  exact hQ _ _ _ _ _ dX11_drop_28 hH hc h hGσ hYσ hE
set_option maxRecDepth 20000 in
theorem a_X11_drop_10 {Q : Sg → Unit → Prop} {X : Sg → String → Prop} {th : Nat} (K : MD l R p s m args c cX11_drop 4 RX11 D cA tys A n0 s0 1 22 []) (hQ : CQV p l e R s m args below meth c cX11_drop D cA A n0 s0 QM σi Q) (hX : CX p l e R s m args below meth c 4 D cA A n0 s0 QM σi X) (hTh : CT p l e R s m args below meth c cX11_drop 4 D cA A n0 s0 QM σi RX11 X) : ∀ (σ : Sg) (v3 : Option Nat) (g3 : tyV σ 0 v3), w_X11_drop_10 th Q X σ v3 → RG σ → TY σ → Ext σi σ → kO σ th 11 → JJ p l e R s m args below meth c 4 D cA A n0 s0 QM σ 10 [(0, .ref th), (3, va_rf v3)] [] := by
  intro σ v3 g3 h hGσ hYσ hE hth H locs ls hH hl hc
  have B := K.1
  have hl9 := K.2.2.2.2.2.2
  unfold w_X11_drop_10 at h
  refine lv_aload_n B.1 B.2.1 dX11_drop_10 rfl (lv_at hl 0 rfl) ?_
  refine lv_dup B.1 B.2.1 dX11_drop_11 rfl ?_
  refine f_geti B hH hth (by decide) rfl wu_X11 4 (by decide) wf_X11_165 rfl rfl dX11_drop_12 ?_
  refine lv_iconst (v := i32 1) B.1 B.2.1 dX11_drop_15 (by decide) ?_
  obtain ⟨q1, h⟩ := h
  refine lv_isub B.1 B.2.1 dX11_drop_16 ?_
  rw [i32_sub]
  obtain ⟨σ13, eσ13⟩ : ∃ z, z = pI σ th 4 (gI σ th 4 - 1) := ⟨_, rfl⟩
  have h := h σ13 eσ13
  refine f_puti B hH hth (by decide) rfl wu_X11 tyX11 tyX11_ok nmX11 4 (by decide) wf_X11_165 rfl (ty := .int) rfl rfl rfl rfl rfl dX11_drop_17 (fun H locs hH => ?_)
  have hH : Hd D cA A s (pI σ th 4 (gI σ th 4 - 1)) H locs := hH
  rw [← eσ13] at hH
  have hGσ13 : RG σ13 := by rw [eσ13]; exact hGσ.pI q1
  have hYσ13 : TY σ13 := by rw [eσ13]; exact hYσ.pI
  have xσ13 : Ext σ σ13 := by rw [eσ13]; exact Ext.pI
  have hc : CB n0 s0 σ13 := by rw [eσ13]; exact hc
  rw [show gc σ = gc σ13 by rw [eσ13]; try rfl, show gs σ = gs σ13 by rw [eσ13]; try rfl]
  refine lv_aload_n B.1 B.2.1 dX11_drop_20 rfl (lv_at hl 0 rfl) ?_
  refine f_getp B hH (hth.up xσ13) (by decide) rfl wu_X11 0 (by decide) wf_X11_22 rfl rfl dX11_drop_21 ?_
  refine lv_aload_nQ B.1 B.2.1 dX11_drop_24 rfl (lv_at hl 1 rfl) ?_
  obtain ⟨a15, ea15, h⟩ := h
  have ka15 : kO σ13 a15 8 := (hYσ13.get (hth.up xσ13) (by decide)) a15 ea15
  have h := h ka15
  refine W.eq (g2 := F0 m 25 ls [va_rf v3, .ref a15]) (by rw [ea15]; rfl) ?_
  refine c_V B hH hl hc K.2.2.1 (C := RX8) (T := TX8) (N := 3) (ci := 8) (As := [va_rf v3]) (ok_X8_release hl9 K.2.1 σ13 a15 v3 (g3.up xσ13) ka15 hGσ13 hYσ13 h) wc_X11_174 1 hd_X8_release ⟨Nat.le_trans (Nat.le_of_ble_eq_true rfl) K.2.2.2.1, Nat.le_trans (Nat.le_of_ble_eq_true rfl) K.2.2.2.2.1⟩ ka15.1 ka15.2 (by decide) rfl rfl (rest := []) rfl (Nat.le_of_ble_eq_true rfl) dX11_drop_25 (fun σ14 w hq => ?_) (fun σ9 E9 hx9 => hX σ9 E9 _ _ _ (tb_out K.2.2.2.2.2.1 rfl) hx9.1 hx9.2.1 hx9.2.2.1 ((hE.trans xσ13).trans hx9.2.2.2))
  obtain ⟨rfl, h, hGσ14, hYσ14, xσ14⟩ := hq
  have h := h xσ14
  intro H locs ls hH hl hc
  refine W.eq (g2 := F0 m 28 ls []) (rfl) ?_
  try dsimp only at h
  exact a_X11_drop_28 K hQ hX hTh _ h hGσ14 hYσ14 ((hE.trans xσ13).trans xσ14) (hth.up (xσ13.trans xσ14)) _ _ _ hH (lv_sub (l' := [(0, .ref th)]) hl [0] rfl) hc
set_option maxRecDepth 20000 in
theorem a_X11_drop_0 {Q : Sg → Unit → Prop} {X : Sg → String → Prop} {th : Nat} (K : MD l R p s m args c cX11_drop 4 RX11 D cA tys A n0 s0 1 22 []) (hQ : CQV p l e R s m args below meth c cX11_drop D cA A n0 s0 QM σi Q) (hX : CX p l e R s m args below meth c 4 D cA A n0 s0 QM σi X) (hTh : CT p l e R s m args below meth c cX11_drop 4 D cA A n0 s0 QM σi RX11 X) : ∀ (σ : Sg) (v1 : Option Nat) (v2 : Option Nat) (g1 : tyV σ 1 v1) (g2 : tyV σ 0 v2), w_X11_drop_0 th Q X σ v1 v2 → RG σ → TY σ → Ext σi σ → kO σ th 11 → JJ p l e R s m args below meth c 4 D cA A n0 s0 QM σ 0 [(0, .ref th), (1, va_rf v1), (2, va_rf v2)] [] := by
  intro σ v1 v2 g1 g2 h hGσ hYσ hE hth H locs ls hH hl hc
  have B := K.1
  have hl9 := K.2.2.2.2.2.2
  unfold w_X11_drop_0 at h
  refine lv_aload_nQ B.1 B.2.1 dX11_drop_0 rfl (lv_at hl 1 rfl) ?_
  refine lv_aload_nQ B.1 B.2.1 dX11_drop_1 rfl (lv_at hl 2 rfl) ?_
  obtain ⟨a18, ea18, h⟩ := h
  have ka18 : kO σ a18 1 := g1 a18 ea18
  have h := h ka18
  refine W.eq (g2 := F0 m 2 ls [va_rf v2, .ref a18]) (by rw [ea18]; rfl) ?_
  refine c_V B hH hl hc K.2.2.1 (C := RX1) (T := TX1) (N := 3) (ci := 1) (As := [va_rf v2]) (ok_X1_cutBehind hl9 K.2.1 σ a18 v2 g2 ka18 hGσ hYσ h) wc_X11_238 1 hd_X1_cutBehind ⟨Nat.le_trans (Nat.le_of_ble_eq_true rfl) K.2.2.2.1, Nat.le_trans (Nat.le_of_ble_eq_true rfl) K.2.2.2.2.1⟩ ka18.1 ka18.2 (by decide) rfl rfl (rest := []) rfl (Nat.le_of_ble_eq_true rfl) dX11_drop_2 (fun σ16 w hq => ?_) (fun σ9 E9 hx9 => hX σ9 E9 _ _ _ (tb_out K.2.2.2.2.2.1 rfl) hx9.1 hx9.2.1 hx9.2.2.1 (hE.trans hx9.2.2.2))
  obtain ⟨r17, rfl, tr17, h, hGσ16, hYσ16, xσ16⟩ := hq
  have h := h xσ16 tr17
  intro H locs ls hH hl hc
  refine W.eq (g2 := F0 m 5 ls [va_rf r17]) (rfl) ?_
  try dsimp only at h
  refine lv_astore_nQ (lv' := [(3, va_rf r17), (0, .ref th), (1, va_rf v1), (2, va_rf v2)]) B.1 B.2.1 dX11_drop_5 rfl hl (by decide) (by generalize v2 = w9; cases w9 <;> rfl) (fun ls hl => ?_)
  refine lv_aload_nQ B.1 B.2.1 dX11_drop_6 rfl (lv_at hl 0 rfl) ?_
  refine lv_ifnullQ (tgt := 28) B.1 B.2.1 dX11_drop_7 (by decide) (fun h9 => ?_) (fun h9 => ?_)
  · rw [if_pos (h9)] at h
    exact a_X11_drop_28 K hQ hX hTh _ h hGσ16 hYσ16 (hE.trans xσ16) (hth.up xσ16) _ _ _ hH (lv_sub (l' := [(0, .ref th)]) hl [1] rfl) hc
  · rw [if_neg (h9)] at h
    exact a_X11_drop_10 K hQ hX hTh _ _ tr17 h hGσ16 hYσ16 (hE.trans xσ16) (hth.up xσ16) _ _ _ hH (lv_sub (l' := [(0, .ref th), (3, va_rf r17)]) hl [1, 0] rfl) hc
theorem ok_X11_drop (hl0 : l.stackTraces = false) (hT : TyC cA tys) {Q : Sg → Unit → Prop} {X : Sg → String → Prop} (σ : Sg) (th : Nat) (v1 : Option Nat) (v2 : Option Nat) (g1 : tyV σ 1 v1) (g2 : tyV σ 0 v2) (hth : kO σ th 11) (hG : RG σ) (hY : TY σ) (h : wp_X11_drop th v1 v2 σ Q X) : Ok l D cA tys A yX11_drop (.code yX11_drop cX11_drop 4 none) 1 22 [.ref th, va_rf v1, va_rf v2] σ (QcV σ Q) (QxC σ X) := by
  unfold wp_X11_drop at h
  exact oc_V hl0 (by decide) (by cases v1 <;> cases v2 <;> exact Nat.le_of_ble_eq_true rfl) hT (fun p e R s m args below meth c K hQ hX hTh hin9 H locs ls hH hl hc => a_X11_drop_0 K hQ hX hTh σ v1 v2 g1 g2 h hG hY (Ext.rfl' σ) hth H locs ls hH (lv_sub (l' := [(0, .ref th), (1, va_rf v1), (2, va_rf v2)]) hl [0, 1, 2] (by cases v1 <;> cases v2 <;> rfl)) hc)
theorem dX11_dropUpTo_0 : decode cX11_dropUpTo 0 = .ok (.aconst_null, 1) := by decide +kernel
theorem dX11_dropUpTo_1 : decode cX11_dropUpTo 1 = .ok (.astore 4, 2) := by decide +kernel
theorem dX11_dropUpTo_3 : decode cX11_dropUpTo 3 = .ok (.aload_n 1, 1) := by decide +kernel
theorem dX11_dropUpTo_4 : decode cX11_dropUpTo 4 = .ok (.getfield 225, 3) := by decide +kernel
theorem dX11_dropUpTo_7 : decode cX11_dropUpTo 7 = .ok (.astore 5, 2) := by decide +kernel
theorem dX11_dropUpTo_9 : decode cX11_dropUpTo 9 = .ok (.aload 5, 2) := by decide +kernel
theorem dX11_dropUpTo_11 : decode cX11_dropUpTo 11 = .ok (.ifnull 41, 3) := by decide +kernel
theorem dX11_dropUpTo_14 : decode cX11_dropUpTo 14 = .ok (.aload 5, 2) := by decide +kernel
theorem dX11_dropUpTo_16 : decode cX11_dropUpTo 16 = .ok (.getfield 235, 3) := by decide +kernel
theorem dX11_dropUpTo_19 : decode cX11_dropUpTo 19 = .ok (.astore 6, 2) := by decide +kernel
theorem dX11_dropUpTo_21 : decode cX11_dropUpTo 21 = .ok (.aload 5, 2) := by decide +kernel
theorem dX11_dropUpTo_23 : decode cX11_dropUpTo 23 = .ok (.getfield 85, 3) := by decide +kernel
theorem dX11_dropUpTo_26 : decode cX11_dropUpTo 26 = .ok (.lload_n 2, 1) := by decide +kernel
theorem dX11_dropUpTo_27 : decode cX11_dropUpTo 27 = .ok (.lcmp, 1) := by decide +kernel
theorem dX11_dropUpTo_28 : decode cX11_dropUpTo 28 = .ok (.ifCond .gt 13, 3) := by decide +kernel
theorem dX11_dropUpTo_31 : decode cX11_dropUpTo 31 = .ok (.aload_n 0, 1) := by decide +kernel
theorem dX11_dropUpTo_32 : decode cX11_dropUpTo 32 = .ok (.aload_n 1, 1) := by decide +kernel
theorem dX11_dropUpTo_33 : decode cX11_dropUpTo 33 = .ok (.aload 4, 2) := by decide +kernel
theorem dX11_dropUpTo_35 : decode cX11_dropUpTo 35 = .ok (.invokevirtual 257, 3) := by decide +kernel
theorem dX11_dropUpTo_38 : decode cX11_dropUpTo 38 = .ok (.goto 7, 3) := by decide +kernel
theorem dX11_dropUpTo_41 : decode cX11_dropUpTo 41 = .ok (.aload 5, 2) := by decide +kernel
theorem dX11_dropUpTo_43 : decode cX11_dropUpTo 43 = .ok (.astore 4, 2) := by decide +kernel
theorem dX11_dropUpTo_45 : decode cX11_dropUpTo 45 = .ok (.aload 6, 2) := by decide +kernel
theorem dX11_dropUpTo_47 : decode cX11_dropUpTo 47 = .ok (.astore 5, 2) := by decide +kernel
theorem dX11_dropUpTo_49 : decode cX11_dropUpTo 49 = .ok (.goto (-40), 3) := by decide +kernel
theorem dX11_dropUpTo_52 : decode cX11_dropUpTo 52 = .ok (.return_, 1) := by decide +kernel
set_option maxRecDepth 20000 in
theorem a_X11_dropUpTo_52 {Q : Sg → Unit → Prop} {X : Sg → String → Prop} {th : Nat} (K : MD l R p s m args c cX11_dropUpTo 7 RX11 D cA tys A n0 s0 2 45 []) (hQ : CQV p l e R s m args below meth c cX11_dropUpTo D cA A n0 s0 QM σi Q) (hX : CX p l e R s m args below meth c 7 D cA A n0 s0 QM σi X) (hTh : CT p l e R s m args below meth c cX11_dropUpTo 7 D cA A n0 s0 QM σi RX11 X) : ∀ (σ : Sg), w_X11_dropUpTo_52 th Q X σ → RG σ → TY σ → Ext σi σ → kO σ th 11 → JJ p l e R s m args below meth c 7 D cA A n0 s0 QM σ 52 [(0, .ref th)] [] := by
  intro σ h hGσ hYσ hE hth H locs ls hH hl hc
  have B := K.1
  have hl9 := K.2.2.2.2.2.2
  unfold w_X11_dropUpTo_52 at h
  exact hQ _ _ _ _ _ dX11_dropUpTo_52 hH hc h hGσ hYσ hE
set_option maxRecDepth 20000 in
theorem a_X11_dropUpTo_45 {Q : Sg → Unit → Prop} {X : Sg → String → Prop} {th : Nat} (K : MD l R p s m args c cX11_dropUpTo 7 RX11 D cA tys A n0 s0 2 45 []) (hQ : CQV p l e R s m args below meth c cX11_dropUpTo D cA A n0 s0 QM σi Q) (hX : CX p l e R s m args below meth c 7 D cA A n0 s0 QM σi X) (hTh : CT p l e R s m args below meth c cX11_dropUpTo 7 D cA A n0 s0 QM σi RX11 X) {K9 : Sg → Option Nat → Int64 → Option Nat → Option Nat → Prop} (hK9 : ∀ (σ : Sg) (v1 : Option Nat) (v2 : Int64) (v4 : Option Nat) (v5 : Option Nat) (g1 : tyV σ 1 v1) (g4 : tyV σ 0 v4) (g5 : tyV σ 0 v5), K9 σ v1 v2 v4 v5 → RG σ → TY σ → Ext σi σ → kO σ th 11 → JJ p l e R s m args below meth c 7 D cA A n0 s0 QM σ 9 [(0, .ref th), (1, va_rf v1), (2, .long v2), (4, va_rf v4), (5, va_rf v5)] []) : ∀ (σ : Sg) (v1 : Option Nat) (v2 : Int64) (v4 : Option Nat) (v6 : Option Nat) (g1 : tyV σ 1 v1) (g4 : tyV σ 0 v4) (g6 : tyV σ 0 v6), w_X11_dropUpTo_45 th K9 Q X σ v1 v2 v4 v6 → RG σ → TY σ → Ext σi σ → kO σ th 11 → JJ p l e R s m args below meth c 7 D cA A n0 s0 QM σ 45 [(0, .ref th), (1, va_rf v1), (2, .long v2), (4, va_rf v4), (6, va_rf v6)] [] := by
  intro σ v1 v2 v4 v6 g1 g4 g6 h hGσ hYσ hE hth H locs ls hH hl hc
  have B := K.1
  have hl9 := K.2.2.2.2.2.2
  unfold w_X11_dropUpTo_45 at h
  refine lv_aloadQ B.1 B.2.1 dX11_dropUpTo_45 (lv_at hl 4 rfl) ?_
  refine lv_astoreQ (lv' := [(5, va_rf v6), (0, .ref th), (1, va_rf v1), (2, .long v2), (4, va_rf v4), (6, va_rf v6)]) B.1 B.2.1 dX11_dropUpTo_47 hl (by decide) (by generalize v4 = w9; cases w9 <;> rfl) (fun ls hl => ?_)
  refine lv_goto (tgt := 9) B.1 B.2.1 dX11_dropUpTo_49 (by decide) ?_
  exact hK9 _ _ _ _ _ g1 g4 g6 h hGσ hYσ hE hth _ _ _ hH (lv_sub (l' := [(0, .ref th), (1, va_rf v1), (2, .long v2), (4, va_rf v4), (5, va_rf v6)]) hl [1, 2, 3, 4, 0] rfl) hc
set_option maxRecDepth 20000 in
theorem a_X11_dropUpTo_41 {Q : Sg → Unit → Prop} {X : Sg → String → Prop} {th : Nat} (K : MD l R p s m args c cX11_dropUpTo 7 RX11 D cA tys A n0 s0 2 45 []) (hQ : CQV p l e R s m args below meth c cX11_dropUpTo D cA A n0 s0 QM σi Q) (hX : CX p l e R s m args below meth c 7 D cA A n0 s0 QM σi X) (hTh : CT p l e R s m args below meth c cX11_dropUpTo 7 D cA A n0 s0 QM σi RX11 X) {K9 : Sg → Option Nat → Int64 → Option Nat → Option Nat → Prop} (hK9 : ∀ (σ : Sg) (v1 : Option Nat) (v2 : Int64) (v4 : Option Nat) (v5 : Option Nat) (g1 : tyV σ 1 v1) (g4 : tyV σ 0 v4) (g5 : tyV σ 0 v5), K9 σ v1 v2 v4 v5 → RG σ → TY σ → Ext σi σ → kO σ th 11 → JJ p l e R s m args below meth c 7 D cA A n0 s0 QM σ 9 [(0, .ref th), (1, va_rf v1), (2, .long v2), (4, va_rf v4), (5, va_rf v5)] []) : ∀ (σ : Sg) (v1 : Option Nat) (v2 : Int64) (v5 : Option Nat) (v6 : Option Nat) (g1 : tyV σ 1 v1) (g5 : tyV σ 0 v5) (g6 : tyV σ 0 v6), w_X11_dropUpTo_41 th K9 Q X σ v1 v2 v5 v6 → RG σ → TY σ → Ext σi σ → kO σ th 11 → JJ p l e R s m args below meth c 7 D cA A n0 s0 QM σ 41 [(0, .ref th), (1, va_rf v1), (2, .long v2), (5, va_rf v5), (6, va_rf v6)] [] := by
  intro σ v1 v2 v5 v6 g1 g5 g6 h hGσ hYσ hE hth H locs ls hH hl hc
  have B := K.1
  have hl9 := K.2.2.2.2.2.2
  unfold w_X11_dropUpTo_41 at h
  refine lv_aloadQ B.1 B.2.1 dX11_dropUpTo_41 (lv_at hl 3 rfl) ?_
  refine lv_astoreQ (lv' := [(4, va_rf v5), (0, .ref th), (1, va_rf v1), (2, .long v2), (5, va_rf v5), (6, va_rf v6)]) B.1 B.2.1 dX11_dropUpTo_43 hl (by decide) rfl (fun ls hl => ?_)
  exact a_X11_dropUpTo_45 K hQ hX hTh hK9 _ _ _ _ _ g1 g5 g6 h hGσ hYσ hE hth _ _ _ hH (lv_sub (l' := [(0, .ref th), (1, va_rf v1), (2, .long v2), (4, va_rf v5), (6, va_rf v6)]) hl [1, 2, 3, 0, 5] rfl) hc
set_option maxRecDepth 20000 in
theorem a_X11_dropUpTo_31 {Q : Sg → Unit → Prop} {X : Sg → String → Prop} {th : Nat} (K : MD l R p s m args c cX11_dropUpTo 7 RX11 D cA tys A n0 s0 2 45 []) (hQ : CQV p l e R s m args below meth c cX11_dropUpTo D cA A n0 s0 QM σi Q) (hX : CX p l e R s m args below meth c 7 D cA A n0 s0 QM σi X) (hTh : CT p l e R s m args below meth c cX11_dropUpTo 7 D cA A n0 s0 QM σi RX11 X) {K9 : Sg → Option Nat → Int64 → Option Nat → Option Nat → Prop} (hK9 : ∀ (σ : Sg) (v1 : Option Nat) (v2 : Int64) (v4 : Option Nat) (v5 : Option Nat) (g1 : tyV σ 1 v1) (g4 : tyV σ 0 v4) (g5 : tyV σ 0 v5), K9 σ v1 v2 v4 v5 → RG σ → TY σ → Ext σi σ → kO σ th 11 → JJ p l e R s m args below meth c 7 D cA A n0 s0 QM σ 9 [(0, .ref th), (1, va_rf v1), (2, .long v2), (4, va_rf v4), (5, va_rf v5)] []) : ∀ (σ : Sg) (v1 : Option Nat) (v2 : Int64) (v4 : Option Nat) (v6 : Option Nat) (g1 : tyV σ 1 v1) (g4 : tyV σ 0 v4) (g6 : tyV σ 0 v6), w_X11_dropUpTo_31 th K9 Q X σ v1 v2 v4 v6 → RG σ → TY σ → Ext σi σ → kO σ th 11 → JJ p l e R s m args below meth c 7 D cA A n0 s0 QM σ 31 [(0, .ref th), (1, va_rf v1), (2, .long v2), (4, va_rf v4), (6, va_rf v6)] [] := by
  intro σ v1 v2 v4 v6 g1 g4 g6 h hGσ hYσ hE hth H locs ls hH hl hc
  have B := K.1
  have hl9 := K.2.2.2.2.2.2
  unfold w_X11_dropUpTo_31 at h
  refine lv_aload_n B.1 B.2.1 dX11_dropUpTo_31 rfl (lv_at hl 0 rfl) ?_
  refine lv_aload_nQ B.1 B.2.1 dX11_dropUpTo_32 rfl (lv_at hl 1 rfl) ?_
  refine lv_aloadQ B.1 B.2.1 dX11_dropUpTo_33 (lv_at hl 3 rfl) ?_
  refine W.eq (g2 := F0 m 35 ls [va_rf v4, va_rf v1, .ref th]) (rfl) ?_
  refine c_V B hH hl hc K.2.2.1 (C := RX11) (T := TX11) (N := 6) (ci := 11) (As := [va_rf v1, va_rf v4]) (ok_X11_drop hl9 K.2.1 σ th v1 v4 g1 g4 hth hGσ hYσ h) wc_X11_257 2 hd_X11_drop ⟨Nat.le_trans (Nat.le_of_ble_eq_true rfl) K.2.2.2.1, Nat.le_trans (Nat.le_of_ble_eq_true rfl) K.2.2.2.2.1⟩ hth.1 hth.2 (by decide) rfl rfl (rest := []) rfl (Nat.le_of_ble_eq_true rfl) dX11_dropUpTo_35 (fun σ9 w hq => ?_) (fun σ9 E9 hx9 => hX σ9 E9 _ _ _ (tb_out K.2.2.2.2.2.1 rfl) hx9.1 hx9.2.1 hx9.2.2.1 (hE.trans hx9.2.2.2))
  obtain ⟨rfl, h, hGσ9, hYσ9, xσ9⟩ := hq
  have h := h xσ9
  intro H locs ls hH hl hc
  refine W.eq (g2 := F0 m 38 ls []) (rfl) ?_
  try dsimp only at h
  refine lv_goto (tgt := 45) B.1 B.2.1 dX11_dropUpTo_38 (by decide) ?_
  exact a_X11_dropUpTo_45 K hQ hX hTh hK9 _ _ _ _ _ (g1.up xσ9) (g4.up xσ9) (g6.up xσ9) h hGσ9 hYσ9 (hE.trans xσ9) (hth.up xσ9) _ _ _ hH (lv_sub (l' := [(0, .ref th), (1, va_rf v1), (2, .long v2), (4, va_rf v4), (6, va_rf v6)]) hl [0, 1, 2, 3, 4] rfl) hc
set_option maxRecDepth 20000 in
theorem a_X11_dropUpTo_14 {Q : Sg → Unit → Prop} {X : Sg → String → Prop} {th : Nat} (K : MD l R p s m args c cX11_dropUpTo 7 RX11 D cA tys A n0 s0 2 45 []) (hQ : CQV p l e R s m args below meth c cX11_dropUpTo D cA A n0 s0 QM σi Q) (hX : CX p l e R s m args below meth c 7 D cA A n0 s0 QM σi X) (hTh : CT p l e R s m args below meth c cX11_dropUpTo 7 D cA A n0 s0 QM σi RX11 X) {K9 : Sg → Option Nat → Int64 → Option Nat → Option Nat → Prop} (hK9 : ∀ (σ : Sg) (v1 : Option Nat) (v2 : Int64) (v4 : Option Nat) (v5 : Option Nat) (g1 : tyV σ 1 v1) (g4 : tyV σ 0 v4) (g5 : tyV σ 0 v5), K9 σ v1 v2 v4 v5 → RG σ → TY σ → Ext σi σ → kO σ th 11 → JJ p l e R s m args below meth c 7 D cA A n0 s0 QM σ 9 [(0, .ref th), (1, va_rf v1), (2, .long v2), (4, va_rf v4), (5, va_rf v5)] []) : ∀ (σ : Sg) (v1 : Option Nat) (v2 : Int64) (v4 : Option Nat) (v5 : Option Nat) (g1 : tyV σ 1 v1) (g4 : tyV σ 0 v4) (g5 : tyV σ 0 v5), w_X11_dropUpTo_14 th K9 Q X σ v1 v2 v4 v5 → RG σ → TY σ → Ext σi σ → kO σ th 11 → JJ p l e R s m args below meth c 7 D cA A n0 s0 QM σ 14 [(0, .ref th), (1, va_rf v1), (2, .long v2), (4, va_rf v4), (5, va_rf v5)] [] := by
  intro σ v1 v2 v4 v5 g1 g4 g5 h hGσ hYσ hE hth H locs ls hH hl hc
  have B := K.1
  have hl9 := K.2.2.2.2.2.2
  unfold w_X11_dropUpTo_14 at h
  refine lv_aloadQ B.1 B.2.1 dX11_dropUpTo_14 (lv_at hl 4 rfl) ?_
  obtain ⟨a10, ea10, h⟩ := h
  have ka10 : kO σ a10 0 := g5 a10 ea10
  have h := h ka10
  refine W.eq (g2 := F0 m 16 ls [.ref a10]) (by rw [ea10]; rfl) ?_
  refine f_getp B hH ka10 (by decide) rfl wu_X0 1 (by decide) wf_X11_235 rfl rfl dX11_dropUpTo_16 ?_
  refine lv_astoreQ (lv' := [(6, va_rf (gP σ a10 1)), (0, .ref th), (1, va_rf v1), (2, .long v2), (4, va_rf v4), (5, va_rf v5)]) B.1 B.2.1 dX11_dropUpTo_19 hl (by decide) (by generalize v5 = w9; cases w9 <;> rfl) (fun ls hl => ?_)
  refine lv_aloadQ B.1 B.2.1 dX11_dropUpTo_21 (lv_at hl 5 rfl) ?_
  refine W.eq (g2 := F0 m 23 ls [.ref a10]) (by rw [ea10]; rfl) ?_
  refine f_getl B hH ka10 (by decide) rfl wu_X0 5 (by decide) wf_X11_85 rfl rfl dX11_dropUpTo_23 ?_
  refine lv_lload_n B.1 B.2.1 dX11_dropUpTo_26 rfl (lv_at hl 3 rfl) ?_
  refine W.lcmp B.1 B.2.1 dX11_dropUpTo_27 ?_
  refine lv_if_gt (tgt := 41) B.1 B.2.1 dX11_dropUpTo_28 (by decide) (fun h9 => ?_) (fun h9 => ?_)
  · rw [if_pos ((lg_cmp_gt _ _).mp h9)] at h
    exact a_X11_dropUpTo_41 K hQ hX hTh hK9 _ _ _ _ _ g1 g5 (hYσ.get ka10 (by decide)) h hGσ hYσ hE hth _ _ _ hH (lv_sub (l' := [(0, .ref th), (1, va_rf v1), (2, .long v2), (5, va_rf v5), (6, va_rf (gP σ a10 1))]) hl [1, 2, 3, 5, 0] rfl) hc
  · rw [if_neg (fun q => h9 ((lg_cmp_gt _ _).mpr q))] at h
    exact a_X11_dropUpTo_31 K hQ hX hTh hK9 _ _ _ _ _ g1 g4 (hYσ.get ka10 (by decide)) h hGσ hYσ hE hth _ _ _ hH (lv_sub (l' := [(0, .ref th), (1, va_rf v1), (2, .long v2), (4, va_rf v4), (6, va_rf (gP σ a10 1))]) hl [1, 2, 3, 4, 0] rfl) hc
set_option maxRecDepth 20000 in
theorem a_X11_dropUpTo_9 {Q : Sg → Unit → Prop} {X : Sg → String → Prop} {th : Nat} (K : MD l R p s m args c cX11_dropUpTo 7 RX11 D cA tys A n0 s0 2 45 []) (hQ : CQV p l e R s m args below meth c cX11_dropUpTo D cA A n0 s0 QM σi Q) (hX : CX p l e R s m args below meth c 7 D cA A n0 s0 QM σi X) (hTh : CT p l e R s m args below meth c cX11_dropUpTo 7 D cA A n0 s0 QM σi RX11 X) {K9 : Sg → Option Nat → Int64 → Option Nat → Option Nat → Prop} (hK9 : ∀ (σ : Sg) (v1 : Option Nat) (v2 : Int64) (v4 : Option Nat) (v5 : Option Nat) (g1 : tyV σ 1 v1) (g4 : tyV σ 0 v4) (g5 : tyV σ 0 v5), K9 σ v1 v2 v4 v5 → RG σ → TY σ → Ext σi σ → kO σ th 11 → JJ p l e R s m args below meth c 7 D cA A n0 s0 QM σ 9 [(0, .ref th), (1, va_rf v1), (2, .long v2), (4, va_rf v4), (5, va_rf v5)] []) : ∀ (σ : Sg) (v1 : Option Nat) (v2 : Int64) (v4 : Option Nat) (v5 : Option Nat) (g1 : tyV σ 1 v1) (g4 : tyV σ 0 v4) (g5 : tyV σ 0 v5), w_X11_dropUpTo_9 th K9 Q X σ v1 v2 v4 v5 → RG σ → TY σ → Ext σi σ → kO σ th 11 → JJ p l e R s m args below meth c 7 D cA A n0 s0 QM σ 9 [(0, .ref th), (1, va_rf v1), (2, .long v2), (4, va_rf v4), (5, va_rf v5)] [] := by
  intro σ v1 v2 v4 v5 g1 g4 g5 h hGσ hYσ hE hth H locs ls hH hl hc
  have B := K.1
  have hl9 := K.2.2.2.2.2.2
  unfold w_X11_dropUpTo_9 at h
  refine lv_aloadQ B.1 B.2.1 dX11_dropUpTo_9 (lv_at hl 4 rfl) ?_
  refine lv_ifnullQ (tgt := 52) B.1 B.2.1 dX11_dropUpTo_11 (by decide) (fun h9 => ?_) (fun h9 => ?_)
  · rw [if_pos (h9)] at h
    exact a_X11_dropUpTo_52 K hQ hX hTh _ h hGσ hYσ hE hth _ _ _ hH (lv_sub (l' := [(0, .ref th)]) hl [0] rfl) hc
  · rw [if_neg (h9)] at h
    exact a_X11_dropUpTo_14 K hQ hX hTh hK9 _ _ _ _ _ g1 g4 g5 h hGσ hYσ hE hth _ _ _ hH (lv_sub (l' := [(0, .ref th), (1, va_rf v1), (2, .long v2), (4, va_rf v4), (5, va_rf v5)]) hl [0, 1, 2, 3, 4] rfl) hc
theorem al_X11_dropUpTo_9 {Q : Sg → Unit → Prop} {X : Sg → String → Prop} {th : Nat} (K : MD l R p s m args c cX11_dropUpTo 7 RX11 D cA tys A n0 s0 2 45 []) (hQ : CQV p l e R s m args below meth c cX11_dropUpTo D cA A n0 s0 QM σi Q) (hX : CX p l e R s m args below meth c 7 D cA A n0 s0 QM σi X) (hTh : CT p l e R s m args below meth c cX11_dropUpTo 7 D cA A n0 s0 QM σi RX11 X) : ∀ (n : Nat), ∀ (σ : Sg) (v1 : Option Nat) (v2 : Int64) (v4 : Option Nat) (v5 : Option Nat) (g1 : tyV σ 1 v1) (g4 : tyV σ 0 v4) (g5 : tyV σ 0 v5), wl_X11_dropUpTo_9 th Q X n σ v1 v2 v4 v5 → RG σ → TY σ → Ext σi σ → kO σ th 11 → JJ p l e R s m args below meth c 7 D cA A n0 s0 QM σ 9 [(0, .ref th), (1, va_rf v1), (2, .long v2), (4, va_rf v4), (5, va_rf v5)] [] := by
  intro n
  induction n with
  | zero => intro σ v1 v2 v4 v5 g1 g4 g5 h; exact h.elim
  | succ n ih => exact fun σ v1 v2 v4 v5 g1 g4 g5 h => a_X11_dropUpTo_9 K hQ hX hTh ih σ v1 v2 v4 v5 g1 g4 g5 h
set_option maxRecDepth 20000 in
theorem a_X11_dropUpTo_0 {Q : Sg → Unit → Prop} {X : Sg → String → Prop} {th : Nat} (K : MD l R p s m args c cX11_dropUpTo 7 RX11 D cA tys A n0 s0 2 45 []) (hQ : CQV p l e R s m args below meth c cX11_dropUpTo D cA A n0 s0 QM σi Q) (hX : CX p l e R s m args below meth c 7 D cA A n0 s0 QM σi X) (hTh : CT p l e R s m args below meth c cX11_dropUpTo 7 D cA A n0 s0 QM σi RX11 X) : ∀ (σ : Sg) (v1 : Option Nat) (v2 : Int64) (g1 : tyV σ 1 v1), w_X11_dropUpTo_0 th Q X σ v1 v2 → RG σ → TY σ → Ext σi σ → kO σ th 11 → JJ p l e R s m args below meth c 7 D cA A n0 s0 QM σ 0 [(0, .ref th), (1, va_rf v1), (2, .long v2)] [] := by
  intro σ v1 v2 g1 h hGσ hYσ hE hth H locs ls hH hl hc
  have B := K.1
  have hl9 := K.2.2.2.2.2.2
  unfold w_X11_dropUpTo_0 at h
  refine lv_null B.1 B.2.1 dX11_dropUpTo_0 ?_
  refine W.eq (g2 := F0 m 1 ls [va_rf none]) (rfl) ?_
  refine lv_astoreQ (lv' := [(4, va_rf none), (0, .ref th), (1, va_rf v1), (2, .long v2)]) B.1 B.2.1 dX11_dropUpTo_1 hl (by decide) rfl (fun ls hl => ?_)
  refine lv_aload_nQ B.1 B.2.1 dX11_dropUpTo_3 rfl (lv_at hl 2 rfl) ?_
  obtain ⟨a11, ea11, h⟩ := h
  have ka11 : kO σ a11 1 := g1 a11 ea11
  have h := h ka11
  refine W.eq (g2 := F0 m 4 ls [.ref a11]) (by rw [ea11]; rfl) ?_
  refine f_getp B hH ka11 (by decide) rfl wu_X1 0 (by decide) wf_X11_225 rfl rfl dX11_dropUpTo_4 ?_
  refine lv_astoreQ (lv' := [(5, va_rf (gP σ a11 0)), (4, va_rf none), (0, .ref th), (1, va_rf v1), (2, .long v2)]) B.1 B.2.1 dX11_dropUpTo_7 hl (by decide) rfl (fun ls hl => ?_)
  obtain ⟨n9, h⟩ := h
  exact al_X11_dropUpTo_9 K hQ hX hTh n9 _ _ _ _ _ g1 (tyn _ _) (hYσ.get ka11 (by decide)) h hGσ hYσ hE hth _ _ _ hH (lv_sub (l' := [(0, .ref th), (1, va_rf v1), (2, .long v2), (4, va_rf none), (5, va_rf (gP σ a11 0))]) hl [2, 3, 4, 1, 0] rfl) hc
theorem ok_X11_dropUpTo (hl0 : l.stackTraces = false) (hT : TyC cA tys) {Q : Sg → Unit → Prop} {X : Sg → String → Prop} (σ : Sg) (th : Nat) (v1 : Option Nat) (v2 : Int64) (g1 : tyV σ 1 v1) (hth : kO σ th 11) (hG : RG σ) (hY : TY σ) (h : wp_X11_dropUpTo th v1 v2 σ Q X) : Ok l D cA tys A yX11_dropUpTo (.code yX11_dropUpTo cX11_dropUpTo 7 none) 2 45 [.ref th, va_rf v1, .long v2] σ (QcV σ Q) (QxC σ X) := by
  unfold wp_X11_dropUpTo at h
  exact oc_V hl0 (by decide) (by cases v1 <;> exact Nat.le_of_ble_eq_true rfl) hT (fun p e R s m args below meth c K hQ hX hTh hin9 H locs ls hH hl hc => a_X11_dropUpTo_0 K hQ hX hTh σ v1 v2 g1 h hG hY (Ext.rfl' σ) hth H locs ls hH (lv_sub (l' := [(0, .ref th), (1, va_rf v1), (2, .long v2)]) hl [0, 1, 2] (by cases v1 <;> rfl)) hc)
end C79

section C86
variable {p : Program} {l : Launch} {e : Env} {R : Room} {s : State} {m : MethodId} {args : Array Value} {below : List Frame} {meth : Method} {c : Code} {D : va_G} {cA : Nat → ClassId} {tys : List (ClassId × FieldType)} {A : Nat → Prop} {n0 s0 : Nat} {QM : State → Prop} {σi : Sg}
theorem dX9_putOut_0 : decode cX9_putOut 0 = .ok (.iconst 0, 1) := by decide +kernel
theorem dX9_putOut_1 : decode cX9_putOut 1 = .ok (.istore_n 3, 1) := by decide +kernel
theorem dX9_putOut_2 : decode cX9_putOut 2 = .ok (.iconst 0, 1) := by decide +kernel
theorem dX9_putOut_3 : decode cX9_putOut 3 = .ok (.istore 4, 2) := by decide +kernel
theorem dX9_putOut_5 : decode cX9_putOut 5 = .ok (.iload 4, 2) := by decide +kernel
theorem dX9_putOut_7 : decode cX9_putOut 7 = .ok (.iconst 4, 1) := by decide +kernel
theorem dX9_putOut_8 : decode cX9_putOut 8 = .ok (.if_icmp .ge 44, 3) := by decide +kernel
theorem dX9_putOut_11 : decode cX9_putOut 11 = .ok (.iload_n 3, 1) := by decide +kernel
theorem dX9_putOut_12 : decode cX9_putOut 12 = .ok (.aload_n 0, 1) := by decide +kernel
theorem dX9_putOut_13 : decode cX9_putOut 13 = .ok (.getfield 38, 3) := by decide +kernel
theorem dX9_putOut_16 : decode cX9_putOut 16 = .ok (.iload 4, 2) := by decide +kernel
theorem dX9_putOut_18 : decode cX9_putOut 18 = .ok (.aaload, 1) := by decide +kernel
theorem dX9_putOut_19 : decode cX9_putOut 19 = .ok (.getfield 338, 3) := by decide +kernel
theorem dX9_putOut_22 : decode cX9_putOut 22 = .ok (.aload_n 0, 1) := by decide +kernel
theorem dX9_putOut_23 : decode cX9_putOut 23 = .ok (.getfield 42, 3) := by decide +kernel
theorem dX9_putOut_26 : decode cX9_putOut 26 = .ok (.iload 4, 2) := by decide +kernel
theorem dX9_putOut_28 : decode cX9_putOut 28 = .ok (.aaload, 1) := by decide +kernel
theorem dX9_putOut_29 : decode cX9_putOut 29 = .ok (.getfield 338, 3) := by decide +kernel
theorem dX9_putOut_32 : decode cX9_putOut 32 = .ok (.iadd, 1) := by decide +kernel
theorem dX9_putOut_33 : decode cX9_putOut 33 = .ok (.aload_n 0, 1) := by decide +kernel
theorem dX9_putOut_34 : decode cX9_putOut 34 = .ok (.getfield 45, 3) := by decide +kernel
theorem dX9_putOut_37 : decode cX9_putOut 37 = .ok (.iload 4, 2) := by decide +kernel
theorem dX9_putOut_39 : decode cX9_putOut 39 = .ok (.aaload, 1) := by decide +kernel
theorem dX9_putOut_40 : decode cX9_putOut 40 = .ok (.getfield 338, 3) := by decide +kernel
theorem dX9_putOut_43 : decode cX9_putOut 43 = .ok (.iadd, 1) := by decide +kernel
theorem dX9_putOut_44 : decode cX9_putOut 44 = .ok (.iadd, 1) := by decide +kernel
theorem dX9_putOut_45 : decode cX9_putOut 45 = .ok (.istore_n 3, 1) := by decide +kernel
theorem dX9_putOut_46 : decode cX9_putOut 46 = .ok (.iinc 4 1, 3) := by decide +kernel
theorem dX9_putOut_49 : decode cX9_putOut 49 = .ok (.goto (-44), 3) := by decide +kernel
theorem dX9_putOut_52 : decode cX9_putOut 52 = .ok (.iload_n 3, 1) := by decide +kernel
theorem dX9_putOut_53 : decode cX9_putOut 53 = .ok (.sipush 2000, 3) := by decide +kernel
theorem dX9_putOut_56 : decode cX9_putOut 56 = .ok (.if_icmp .lt 11, 3) := by decide +kernel
theorem dX9_putOut_59 : decode cX9_putOut 59 = .ok (.new 278, 3) := by decide +kernel
theorem dX9_putOut_62 : decode cX9_putOut 62 = .ok (.dup, 1) := by decide +kernel
theorem dX9_putOut_63 : decode cX9_putOut 63 = .ok (.invokespecial 397, 3) := by decide +kernel
theorem dX9_putOut_66 : decode cX9_putOut 66 = .ok (.athrow, 1) := by decide +kernel
theorem dX9_putOut_67 : decode cX9_putOut 67 = .ok (.aload_n 0, 1) := by decide +kernel
theorem dX9_putOut_68 : decode cX9_putOut 68 = .ok (.getfield 38, 3) := by decide +kernel
theorem dX9_putOut_71 : decode cX9_putOut 71 = .ok (.aload_n 1, 1) := by decide +kernel
theorem dX9_putOut_72 : decode cX9_putOut 72 = .ok (.getfield 359, 3) := by decide +kernel
theorem dX9_putOut_75 : decode cX9_putOut 75 = .ok (.aaload, 1) := by decide +kernel
theorem dX9_putOut_76 : decode cX9_putOut 76 = .ok (.aload_n 2, 1) := by decide +kernel
theorem dX9_putOut_77 : decode cX9_putOut 77 = .ok (.invokevirtual 341, 3) := by decide +kernel
theorem dX9_putOut_80 : decode cX9_putOut 80 = .ok (.return_, 1) := by decide +kernel
set_option maxRecDepth 20000 in
theorem a_X9_putOut_67 {Q : Sg → Unit → Prop} {X : Sg → String → Prop} {th : Nat} (K : MD l R p s m args c cX9_putOut 5 RX9 D cA tys A n0 s0 6 90 []) (hQ : CQV p l e R s m args below meth c cX9_putOut D cA A n0 s0 QM σi Q) (hX : CX p l e R s m args below meth c 5 D cA A n0 s0 QM σi X) (hTh : CT p l e R s m args below meth c cX9_putOut 5 D cA A n0 s0 QM σi RX9 X) : ∀ (σ : Sg) (v1 : Option Nat) (v2 : Option Nat) (g1 : tyV σ 5 v1) (g2 : tyV σ 0 v2), w_X9_putOut_67 th Q X σ v1 v2 → RG σ → TY σ → Ext σi σ → kO σ th 9 → JJ p l e R s m args below meth c 5 D cA A n0 s0 QM σ 67 [(0, .ref th), (1, va_rf v1), (2, va_rf v2)] [] := by
  intro σ v1 v2 g1 g2 h hGσ hYσ hE hth H locs ls hH hl hc
  have B := K.1
  have hl9 := K.2.2.2.2.2.2
  unfold w_X9_putOut_67 at h
  refine lv_aload_n B.1 B.2.1 dX9_putOut_67 rfl (lv_at hl 0 rfl) ?_
  refine f_getp B hH hth (by decide) rfl wu_X9 6 (by decide) wf_X9_38 rfl rfl dX9_putOut_68 ?_
  refine lv_aload_nQ B.1 B.2.1 dX9_putOut_71 rfl (lv_at hl 1 rfl) ?_
  obtain ⟨a21, ea21, h⟩ := h
  have ka21 : kO σ a21 5 := g1 a21 ea21
  have h := h ka21
  refine W.eq (g2 := F0 m 72 ls [.ref a21, va_rf (gP σ th 6)]) (by rw [ea21]; rfl) ?_
  refine f_geti B hH ka21 (by decide) rfl wu_X5 9 (by decide) wf_X9_359 rfl rfl dX9_putOut_72 ?_
  obtain ⟨a22, ea22, h⟩ := h
  have ka22 : kO σ a22 111 := (hYσ.get hth (by decide)) a22 ea22
  have h := h ka22
  obtain ⟨q1, h⟩ := h
  refine W.eq (g2 := F0 m 75 ls [.int (i32 (gI σ a21 9)), .ref a22]) (by rw [ea22]; rfl) ?_
  refine y_aald B hH (t0 := 4) ka22 (by decide) K.2.1.2.1 q1 (hYσ.2 _) dX9_putOut_75 ?_
  refine lv_aload_nQ B.1 B.2.1 dX9_putOut_76 rfl (lv_at hl 2 rfl) ?_
  obtain ⟨a24, ea24, h⟩ := h
  have ka24 : kO σ a24 1 := (hYσ.get ka22 rfl) a24 ea24
  have h := h ka24
  refine W.eq (g2 := F0 m 77 ls [va_rf v2, .ref a24]) (by rw [ea24]; rfl) ?_
  refine c_V B hH hl hc K.2.2.1 (C := RX1) (T := TX1) (N := 3) (ci := 1) (As := [va_rf v2]) (ok_X1_add hl9 K.2.1 σ a24 v2 g2 ka24 hGσ hYσ h) wc_X9_341 1 hd_X1_add ⟨Nat.le_trans (Nat.le_of_ble_eq_true rfl) K.2.2.2.1, Nat.le_trans (Nat.le_of_ble_eq_true rfl) K.2.2.2.2.1⟩ ka24.1 ka24.2 (by decide) rfl rfl (rest := []) rfl (Nat.le_of_ble_eq_true rfl) dX9_putOut_77 (fun σ23 w hq => ?_) (fun σ9 E9 hx9 => hX σ9 E9 _ _ _ (tb_out K.2.2.2.2.2.1 rfl) hx9.1 hx9.2.1 hx9.2.2.1 (hE.trans hx9.2.2.2))
  obtain ⟨rfl, h, hGσ23, hYσ23, xσ23⟩ := hq
  have h := h xσ23
  intro H locs ls hH hl hc
  refine W.eq (g2 := F0 m 80 ls []) (rfl) ?_
  try dsimp only at h
  exact hQ _ _ _ _ _ dX9_putOut_80 hH hc h hGσ23 hYσ23 (hE.trans xσ23)
set_option maxRecDepth 20000 in
theorem a_X9_putOut_59 {Q : Sg → Unit → Prop} {X : Sg → String → Prop} {th : Nat} (K : MD l R p s m args c cX9_putOut 5 RX9 D cA tys A n0 s0 6 90 []) (hQ : CQV p l e R s m args below meth c cX9_putOut D cA A n0 s0 QM σi Q) (hX : CX p l e R s m args below meth c 5 D cA A n0 s0 QM σi X) (hTh : CT p l e R s m args below meth c cX9_putOut 5 D cA A n0 s0 QM σi RX9 X) : ∀ (σ : Sg), w_X9_putOut_59 th Q X σ → RG σ → TY σ → Ext σi σ → kO σ th 9 → JJ p l e R s m args below meth c 5 D cA A n0 s0 QM σ 59 [(0, .ref th)] [] := by
  intro σ h hGσ hYσ hE hth H locs ls hH hl hc
  have B := K.1
  have hl9 := K.2.2.2.2.2.2
  unfold w_X9_putOut_59 at h
  obtain ⟨q9, h⟩ := h
  exact hTh _ _ _ _ _ _ _ _ _ tw_X9_278_397 dX9_putOut_59 dX9_putOut_62 dX9_putOut_63 dX9_putOut_66 hH hl hc q9 h hGσ hYσ hE (by have := K.2.2.2.1; omega) (by have := K.2.2.2.2.1; omega)
set_option maxRecDepth 20000 in
theorem a_X9_putOut_52 {Q : Sg → Unit → Prop} {X : Sg → String → Prop} {th : Nat} (K : MD l R p s m args c cX9_putOut 5 RX9 D cA tys A n0 s0 6 90 []) (hQ : CQV p l e R s m args below meth c cX9_putOut D cA A n0 s0 QM σi Q) (hX : CX p l e R s m args below meth c 5 D cA A n0 s0 QM σi X) (hTh : CT p l e R s m args below meth c cX9_putOut 5 D cA A n0 s0 QM σi RX9 X) : ∀ (σ : Sg) (v1 : Option Nat) (v2 : Option Nat) (v3 : Int) (g1 : tyV σ 5 v1) (g2 : tyV σ 0 v2) (g3 : rng v3), w_X9_putOut_52 th Q X σ v1 v2 v3 → RG σ → TY σ → Ext σi σ → kO σ th 9 → JJ p l e R s m args below meth c 5 D cA A n0 s0 QM σ 52 [(0, .ref th), (1, va_rf v1), (2, va_rf v2), (3, .int (i32 v3))] [] := by
  intro σ v1 v2 v3 g1 g2 g3 h hGσ hYσ hE hth H locs ls hH hl hc
  have B := K.1
  have hl9 := K.2.2.2.2.2.2
  unfold w_X9_putOut_52 at h
  refine lv_iload_n B.1 B.2.1 dX9_putOut_52 rfl (lv_at hl 3 rfl) ?_
  refine lv_sipush (v := i32 2000) B.1 B.2.1 dX9_putOut_53 (by decide) ?_
  refine lv_icmp_lt (tgt := 67) B.1 B.2.1 dX9_putOut_56 (by decide) (fun h9 => ?_) (fun h9 => ?_)
  · rw [if_pos ((i32_lt g3 (by unfold rng; omega)).mp h9)] at h
    exact a_X9_putOut_67 K hQ hX hTh _ _ _ g1 g2 h hGσ hYσ hE hth _ _ _ hH (lv_sub (l' := [(0, .ref th), (1, va_rf v1), (2, va_rf v2)]) hl [0, 1, 2] rfl) hc
  · rw [if_neg (fun q => h9 ((i32_lt g3 (by unfold rng; omega)).mpr q))] at h
    exact a_X9_putOut_59 K hQ hX hTh _ h hGσ hYσ hE hth _ _ _ hH (lv_sub (l' := [(0, .ref th)]) hl [0] rfl) hc
set_option maxRecDepth 20000 in
theorem a_X9_putOut_11 {Q : Sg → Unit → Prop} {X : Sg → String → Prop} {th : Nat} (K : MD l R p s m args c cX9_putOut 5 RX9 D cA tys A n0 s0 6 90 []) (hQ : CQV p l e R s m args below meth c cX9_putOut D cA A n0 s0 QM σi Q) (hX : CX p l e R s m args below meth c 5 D cA A n0 s0 QM σi X) (hTh : CT p l e R s m args below meth c cX9_putOut 5 D cA A n0 s0 QM σi RX9 X) {K5 : Sg → Option Nat → Option Nat → Int → Int → Prop} (hK5 : ∀ (σ : Sg) (v1 : Option Nat) (v2 : Option Nat) (v3 : Int) (v4 : Int) (g1 : tyV σ 5 v1) (g2 : tyV σ 0 v2) (g3 : rng v3) (g4 : rng v4), K5 σ v1 v2 v3 v4 → RG σ → TY σ → Ext σi σ → kO σ th 9 → JJ p l e R s m args below meth c 5 D cA A n0 s0 QM σ 5 [(0, .ref th), (1, va_rf v1), (2, va_rf v2), (3, .int (i32 v3)), (4, .int (i32 v4))] []) : ∀ (σ : Sg) (v1 : Option Nat) (v2 : Option Nat) (v3 : Int) (v4 : Int) (g1 : tyV σ 5 v1) (g2 : tyV σ 0 v2) (g3 : rng v3) (g4 : rng v4), w_X9_putOut_11 th K5 Q X σ v1 v2 v3 v4 → RG σ → TY σ → Ext σi σ → kO σ th 9 → JJ p l e R s m args below meth c 5 D cA A n0 s0 QM σ 11 [(0, .ref th), (1, va_rf v1), (2, va_rf v2), (3, .int (i32 v3)), (4, .int (i32 v4))] [] := by
  intro σ v1 v2 v3 v4 g1 g2 g3 g4 h hGσ hYσ hE hth H locs ls hH hl hc
  have B := K.1
  have hl9 := K.2.2.2.2.2.2
  unfold w_X9_putOut_11 at h
  refine lv_iload_n B.1 B.2.1 dX9_putOut_11 rfl (lv_at hl 3 rfl) ?_
  refine lv_aload_n B.1 B.2.1 dX9_putOut_12 rfl (lv_at hl 0 rfl) ?_
  refine f_getp B hH hth (by decide) rfl wu_X9 6 (by decide) wf_X9_38 rfl rfl dX9_putOut_13 ?_
  refine lv_iload B.1 B.2.1 dX9_putOut_16 (lv_at hl 4 rfl) ?_
  obtain ⟨a25, ea25, h⟩ := h
  have ka25 : kO σ a25 111 := (hYσ.get hth (by decide)) a25 ea25
  have h := h ka25
  obtain ⟨q1, h⟩ := h
  refine W.eq (g2 := F0 m 18 ls [.int (i32 v4), .ref a25, .int (i32 v3)]) (by rw [ea25]; rfl) ?_
  refine y_aald B hH (t0 := 4) ka25 (by decide) K.2.1.2.1 q1 (hYσ.2 _) dX9_putOut_18 ?_
  obtain ⟨a26, ea26, h⟩ := h
  have ka26 : kO σ a26 1 := (hYσ.get ka25 rfl) a26 ea26
  have h := h ka26
  refine W.eq (g2 := F0 m 19 ls [.ref a26, .int (i32 v3)]) (by rw [ea26]; rfl) ?_
  refine f_geti B hH ka26 (by decide) rfl wu_X1 2 (by decide) wf_X9_338 rfl rfl dX9_putOut_19 ?_
  refine lv_aload_n B.1 B.2.1 dX9_putOut_22 rfl (lv_at hl 0 rfl) ?_
  refine f_getp B hH hth (by decide) rfl wu_X9 7 (by decide) wf_X9_42 rfl rfl dX9_putOut_23 ?_
  refine lv_iload B.1 B.2.1 dX9_putOut_26 (lv_at hl 4 rfl) ?_
  obtain ⟨a27, ea27, h⟩ := h
  have ka27 : kO σ a27 111 := (hYσ.get hth (by decide)) a27 ea27
  have h := h ka27
  obtain ⟨q2, h⟩ := h
  refine W.eq (g2 := F0 m 28 ls [.int (i32 v4), .ref a27, .int (i32 (gI σ a26 2)), .int (i32 v3)]) (by rw [ea27]; rfl) ?_
  refine y_aald B hH (t0 := 4) ka27 (by decide) K.2.1.2.1 q2 (hYσ.2 _) dX9_putOut_28 ?_
  obtain ⟨a28, ea28, h⟩ := h
  have ka28 : kO σ a28 1 := (hYσ.get ka27 rfl) a28 ea28
  have h := h ka28
  refine W.eq (g2 := F0 m 29 ls [.ref a28, .int (i32 (gI σ a26 2)), .int (i32 v3)]) (by rw [ea28]; rfl) ?_
  refine f_geti B hH ka28 (by decide) rfl wu_X1 2 (by decide) wf_X9_338 rfl rfl dX9_putOut_29 ?_
  obtain ⟨q3, h⟩ := h
  refine lv_iadd B.1 B.2.1 dX9_putOut_32 ?_
  rw [i32_add]
  refine lv_aload_n B.1 B.2.1 dX9_putOut_33 rfl (lv_at hl 0 rfl) ?_
  refine f_getp B hH hth (by decide) rfl wu_X9 8 (by decide) wf_X9_45 rfl rfl dX9_putOut_34 ?_
  refine lv_iload B.1 B.2.1 dX9_putOut_37 (lv_at hl 4 rfl) ?_
  obtain ⟨a29, ea29, h⟩ := h
  have ka29 : kO σ a29 111 := (hYσ.get hth (by decide)) a29 ea29
  have h := h ka29
  obtain ⟨q4, h⟩ := h
  refine W.eq (g2 := F0 m 39 ls [.int (i32 v4), .ref a29, .int (i32 (gI σ a26 2 + gI σ a28 2)), .int (i32 v3)]) (by rw [ea29]; rfl) ?_
  refine y_aald B hH (t0 := 4) ka29 (by decide) K.2.1.2.1 q4 (hYσ.2 _) dX9_putOut_39 ?_
  obtain ⟨a30, ea30, h⟩ := h
  have ka30 : kO σ a30 1 := (hYσ.get ka29 rfl) a30 ea30
  have h := h ka30
  refine W.eq (g2 := F0 m 40 ls [.ref a30, .int (i32 (gI σ a26 2 + gI σ a28 2)), .int (i32 v3)]) (by rw [ea30]; rfl) ?_
  refine f_geti B hH ka30 (by decide) rfl wu_X1 2 (by decide) wf_X9_338 rfl rfl dX9_putOut_40 ?_
  obtain ⟨q5, h⟩ := h
  refine lv_iadd B.1 B.2.1 dX9_putOut_43 ?_
  rw [i32_add]
  obtain ⟨q6, h⟩ := h
  refine lv_iadd B.1 B.2.1 dX9_putOut_44 ?_
  rw [i32_add]
  refine lv_istore_n (lv' := [(3, .int (i32 (v3 + ((gI σ a26 2 + gI σ a28 2) + gI σ a30 2)))), (0, .ref th), (1, va_rf v1), (2, va_rf v2), (4, .int (i32 v4))]) B.1 B.2.1 dX9_putOut_45 rfl hl (by decide) (by generalize v2 = w9; cases w9 <;> rfl) (fun ls hl => ?_)
  obtain ⟨q7, h⟩ := h
  refine lv_iinc (k := 4) (v := i32 (v4 + 1)) (lv' := [(4, .int (i32 (v4 + 1))), (3, .int (i32 (v3 + ((gI σ a26 2 + gI σ a28 2) + gI σ a30 2)))), (0, .ref th), (1, va_rf v1), (2, va_rf v2)]) B.1 B.2.1 dX9_putOut_46 hl rfl (i32_add _ _) (by decide) rfl (fun ls hl => ?_)
  refine lv_goto (tgt := 5) B.1 B.2.1 dX9_putOut_49 (by decide) ?_
  exact hK5 _ _ _ _ _ g1 g2 q6 q7 h hGσ hYσ hE hth _ _ _ hH (lv_sub (l' := [(0, .ref th), (1, va_rf v1), (2, va_rf v2), (3, .int (i32 (v3 + ((gI σ a26 2 + gI σ a28 2) + gI σ a30 2)))), (4, .int (i32 (v4 + 1)))]) hl [2, 3, 4, 1, 0] rfl) hc
set_option maxRecDepth 20000 in
theorem a_X9_putOut_5 {Q : Sg → Unit → Prop} {X : Sg → String → Prop} {th : Nat} (K : MD l R p s m args c cX9_putOut 5 RX9 D cA tys A n0 s0 6 90 []) (hQ : CQV p l e R s m args below meth c cX9_putOut D cA A n0 s0 QM σi Q) (hX : CX p l e R s m args below meth c 5 D cA A n0 s0 QM σi X) (hTh : CT p l e R s m args below meth c cX9_putOut 5 D cA A n0 s0 QM σi RX9 X) {K5 : Sg → Option Nat → Option Nat → Int → Int → Prop} (hK5 : ∀ (σ : Sg) (v1 : Option Nat) (v2 : Option Nat) (v3 : Int) (v4 : Int) (g1 : tyV σ 5 v1) (g2 : tyV σ 0 v2) (g3 : rng v3) (g4 : rng v4), K5 σ v1 v2 v3 v4 → RG σ → TY σ → Ext σi σ → kO σ th 9 → JJ p l e R s m args below meth c 5 D cA A n0 s0 QM σ 5 [(0, .ref th), (1, va_rf v1), (2, va_rf v2), (3, .int (i32 v3)), (4, .int (i32 v4))] []) : ∀ (σ : Sg) (v1 : Option Nat) (v2 : Option Nat) (v3 : Int) (v4 : Int) (g1 : tyV σ 5 v1) (g2 : tyV σ 0 v2) (g3 : rng v3) (g4 : rng v4), w_X9_putOut_5 th K5 Q X σ v1 v2 v3 v4 → RG σ → TY σ → Ext σi σ → kO σ th 9 → JJ p l e R s m args below meth c 5 D cA A n0 s0 QM σ 5 [(0, .ref th), (1, va_rf v1), (2, va_rf v2), (3, .int (i32 v3)), (4, .int (i32 v4))] [] := by
  intro σ v1 v2 v3 v4 g1 g2 g3 g4 h hGσ hYσ hE hth H locs ls hH hl hc
  have B := K.1
  have hl9 := K.2.2.2.2.2.2
  unfold w_X9_putOut_5 at h
  refine lv_iload B.1 B.2.1 dX9_putOut_5 (lv_at hl 4 rfl) ?_
  refine lv_iconst (v := i32 4) B.1 B.2.1 dX9_putOut_7 (by decide) ?_
  refine lv_icmp_ge (tgt := 52) B.1 B.2.1 dX9_putOut_8 (by decide) (fun h9 => ?_) (fun h9 => ?_)
  · rw [if_pos ((i32_le (by unfold rng; omega) g4).mp h9)] at h
    exact a_X9_putOut_52 K hQ hX hTh _ _ _ _ g1 g2 g3 h hGσ hYσ hE hth _ _ _ hH (lv_sub (l' := [(0, .ref th), (1, va_rf v1), (2, va_rf v2), (3, .int (i32 v3))]) hl [0, 1, 2, 3] rfl) hc
  · rw [if_neg (fun q => h9 ((i32_le (by unfold rng; omega) g4).mpr q))] at h
    exact a_X9_putOut_11 K hQ hX hTh hK5 _ _ _ _ _ g1 g2 g3 g4 h hGσ hYσ hE hth _ _ _ hH (lv_sub (l' := [(0, .ref th), (1, va_rf v1), (2, va_rf v2), (3, .int (i32 v3)), (4, .int (i32 v4))]) hl [0, 1, 2, 3, 4] rfl) hc
theorem al_X9_putOut_5 {Q : Sg → Unit → Prop} {X : Sg → String → Prop} {th : Nat} (K : MD l R p s m args c cX9_putOut 5 RX9 D cA tys A n0 s0 6 90 []) (hQ : CQV p l e R s m args below meth c cX9_putOut D cA A n0 s0 QM σi Q) (hX : CX p l e R s m args below meth c 5 D cA A n0 s0 QM σi X) (hTh : CT p l e R s m args below meth c cX9_putOut 5 D cA A n0 s0 QM σi RX9 X) : ∀ (n : Nat), ∀ (σ : Sg) (v1 : Option Nat) (v2 : Option Nat) (v3 : Int) (v4 : Int) (g1 : tyV σ 5 v1) (g2 : tyV σ 0 v2) (g3 : rng v3) (g4 : rng v4), wl_X9_putOut_5 th Q X n σ v1 v2 v3 v4 → RG σ → TY σ → Ext σi σ → kO σ th 9 → JJ p l e R s m args below meth c 5 D cA A n0 s0 QM σ 5 [(0, .ref th), (1, va_rf v1), (2, va_rf v2), (3, .int (i32 v3)), (4, .int (i32 v4))] [] := by
  intro n
  induction n with
  | zero => intro σ v1 v2 v3 v4 g1 g2 g3 g4 h; exact h.elim
  | succ n ih => exact fun σ v1 v2 v3 v4 g1 g2 g3 g4 h => a_X9_putOut_5 K hQ hX hTh ih σ v1 v2 v3 v4 g1 g2 g3 g4 h
set_option maxRecDepth 20000 in
theorem a_X9_putOut_0 {Q : Sg → Unit → Prop} {X : Sg → String → Prop} {th : Nat} (K : MD l R p s m args c cX9_putOut 5 RX9 D cA tys A n0 s0 6 90 []) (hQ : CQV p l e R s m args below meth c cX9_putOut D cA A n0 s0 QM σi Q) (hX : CX p l e R s m args below meth c 5 D cA A n0 s0 QM σi X) (hTh : CT p l e R s m args below meth c cX9_putOut 5 D cA A n0 s0 QM σi RX9 X) : ∀ (σ : Sg) (v1 : Option Nat) (v2 : Option Nat) (g1 : tyV σ 5 v1) (g2 : tyV σ 0 v2), w_X9_putOut_0 th Q X σ v1 v2 → RG σ → TY σ → Ext σi σ → kO σ th 9 → JJ p l e R s m args below meth c 5 D cA A n0 s0 QM σ 0 [(0, .ref th), (1, va_rf v1), (2, va_rf v2)] [] := by
  intro σ v1 v2 g1 g2 h hGσ hYσ hE hth H locs ls hH hl hc
  have B := K.1
  have hl9 := K.2.2.2.2.2.2
  unfold w_X9_putOut_0 at h
  refine lv_iconst (v := i32 0) B.1 B.2.1 dX9_putOut_0 (by decide) ?_
  refine lv_istore_n (lv' := [(3, .int (i32 0)), (0, .ref th), (1, va_rf v1), (2, va_rf v2)]) B.1 B.2.1 dX9_putOut_1 rfl hl (by decide) (by generalize v2 = w9; cases w9 <;> rfl) (fun ls hl => ?_)
  refine lv_iconst (v := i32 0) B.1 B.2.1 dX9_putOut_2 (by decide) ?_
  refine lv_istore (lv' := [(4, .int (i32 0)), (3, .int (i32 0)), (0, .ref th), (1, va_rf v1), (2, va_rf v2)]) B.1 B.2.1 dX9_putOut_3 hl (by decide) rfl (fun ls hl => ?_)
  obtain ⟨n9, h⟩ := h
  exact al_X9_putOut_5 K hQ hX hTh n9 _ _ _ _ _ g1 g2 (by unfold rng; omega) (by unfold rng; omega) h hGσ hYσ hE hth _ _ _ hH (lv_sub (l' := [(0, .ref th), (1, va_rf v1), (2, va_rf v2), (3, .int (i32 0)), (4, .int (i32 0))]) hl [2, 3, 4, 1, 0] rfl) hc
theorem ok_X9_putOut (hl0 : l.stackTraces = false) (hT : TyC cA tys) {Q : Sg → Unit → Prop} {X : Sg → String → Prop} (σ : Sg) (th : Nat) (v1 : Option Nat) (v2 : Option Nat) (g1 : tyV σ 5 v1) (g2 : tyV σ 0 v2) (hth : kO σ th 9) (hG : RG σ) (hY : TY σ) (h : wp_X9_putOut th v1 v2 σ Q X) : Ok l D cA tys A yX9_putOut (.code yX9_putOut cX9_putOut 5 none) 6 90 [.ref th, va_rf v1, va_rf v2] σ (QcV σ Q) (QxC σ X) := by
  unfold wp_X9_putOut at h
  exact oc_V hl0 (by decide) (by cases v1 <;> cases v2 <;> exact Nat.le_of_ble_eq_true rfl) hT (fun p e R s m args below meth c K hQ hX hTh hin9 H locs ls hH hl hc => a_X9_putOut_0 K hQ hX hTh σ v1 v2 g1 g2 h hG hY (Ext.rfl' σ) hth H locs ls hH (lv_sub (l' := [(0, .ref th), (1, va_rf v1), (2, va_rf v2)]) hl [0, 1, 2] (by cases v1 <;> cases v2 <;> rfl)) hc)
theorem dX9_sendMade_0 : decode cX9_sendMade 0 = .ok (.aload_n 0, 1) := by decide +kernel
theorem dX9_sendMade_1 : decode cX9_sendMade 1 = .ok (.getfield 57, 3) := by decide +kernel
theorem dX9_sendMade_4 : decode cX9_sendMade 4 = .ok (.getfield 280, 3) := by decide +kernel
theorem dX9_sendMade_7 : decode cX9_sendMade 7 = .ok (.invokevirtual 287, 3) := by decide +kernel
theorem dX9_sendMade_10 : decode cX9_sendMade 10 = .ok (.astore_n 2, 1) := by decide +kernel
theorem dX9_sendMade_11 : decode cX9_sendMade 11 = .ok (.aload_n 2, 1) := by decide +kernel
theorem dX9_sendMade_12 : decode cX9_sendMade 12 = .ok (.ifnull 23, 3) := by decide +kernel
theorem dX9_sendMade_15 : decode cX9_sendMade 15 = .ok (.aload_n 0, 1) := by decide +kernel
theorem dX9_sendMade_16 : decode cX9_sendMade 16 = .ok (.aload_n 1, 1) := by decide +kernel
theorem dX9_sendMade_17 : decode cX9_sendMade 17 = .ok (.aload_n 2, 1) := by decide +kernel
theorem dX9_sendMade_18 : decode cX9_sendMade 18 = .ok (.invokevirtual 393, 3) := by decide +kernel
theorem dX9_sendMade_21 : decode cX9_sendMade 21 = .ok (.aload_n 0, 1) := by decide +kernel
theorem dX9_sendMade_22 : decode cX9_sendMade 22 = .ok (.getfield 57, 3) := by decide +kernel
theorem dX9_sendMade_25 : decode cX9_sendMade 25 = .ok (.getfield 280, 3) := by decide +kernel
theorem dX9_sendMade_28 : decode cX9_sendMade 28 = .ok (.invokevirtual 287, 3) := by decide +kernel
theorem dX9_sendMade_31 : decode cX9_sendMade 31 = .ok (.astore_n 2, 1) := by decide +kernel
theorem dX9_sendMade_32 : decode cX9_sendMade 32 = .ok (.goto (-21), 3) := by decide +kernel
theorem dX9_sendMade_35 : decode cX9_sendMade 35 = .ok (.return_, 1) := by decide +kernel
set_option maxRecDepth 20000 in
theorem a_X9_sendMade_35 {Q : Sg → Unit → Prop} {X : Sg → String → Prop} {th : Nat} (K : MD l R p s m args c cX9_sendMade 3 RX9 D cA tys A n0 s0 8 137 []) (hQ : CQV p l e R s m args below meth c cX9_sendMade D cA A n0 s0 QM σi Q) (hX : CX p l e R s m args below meth c 3 D cA A n0 s0 QM σi X) (hTh : CT p l e R s m args below meth c cX9_sendMade 3 D cA A n0 s0 QM σi RX9 X) : ∀ (σ : Sg), w_X9_sendMade_35 th Q X σ → RG σ → TY σ → Ext σi σ → kO σ th 9 → JJ p l e R s m args below meth c 3 D cA A n0 s0 QM σ 35 [(0, .ref th)] [] := by
  intro σ h hGσ hYσ hE hth H locs ls hH hl hc
  have B := K.1
  have hl9 := K.2.2.2.2.2.2
  unfold w_X9_sendMade_35 at h
  exact hQ _ _ _ _ _ dX9_sendMade_35 hH hc h hGσ hYσ hE
set_option maxRecDepth 20000 in
theorem a_X9_sendMade_15 {Q : Sg → Unit → Prop} {X : Sg → String → Prop} {th : Nat} (K : MD l R p s m args c cX9_sendMade 3 RX9 D cA tys A n0 s0 8 137 []) (hQ : CQV p l e R s m args below meth c cX9_sendMade D cA A n0 s0 QM σi Q) (hX : CX p l e R s m args below meth c 3 D cA A n0 s0 QM σi X) (hTh : CT p l e R s m args below meth c cX9_sendMade 3 D cA A n0 s0 QM σi RX9 X) {K11 : Sg → Option Nat → Option Nat → Prop} (hK11 : ∀ (σ : Sg) (v1 : Option Nat) (v2 : Option Nat) (g1 : tyV σ 10 v1) (g2 : tyV σ 0 v2), K11 σ v1 v2 → RG σ → TY σ → Ext σi σ → kO σ th 9 → JJ p l e R s m args below meth c 3 D cA A n0 s0 QM σ 11 [(0, .ref th), (1, va_rf v1), (2, va_rf v2)] []) : ∀ (σ : Sg) (v1 : Option Nat) (v2 : Option Nat) (g1 : tyV σ 10 v1) (g2 : tyV σ 0 v2), w_X9_sendMade_15 th K11 Q X σ v1 v2 → RG σ → TY σ → Ext σi σ → kO σ th 9 → JJ p l e R s m args below meth c 3 D cA A n0 s0 QM σ 15 [(0, .ref th), (1, va_rf v1), (2, va_rf v2)] [] := by
  intro σ v1 v2 g1 g2 h hGσ hYσ hE hth H locs ls hH hl hc
  have B := K.1
  have hl9 := K.2.2.2.2.2.2
  unfold w_X9_sendMade_15 at h
  refine lv_aload_n B.1 B.2.1 dX9_sendMade_15 rfl (lv_at hl 0 rfl) ?_
  refine lv_aload_nQ B.1 B.2.1 dX9_sendMade_16 rfl (lv_at hl 1 rfl) ?_
  refine lv_aload_nQ B.1 B.2.1 dX9_sendMade_17 rfl (lv_at hl 2 rfl) ?_
  refine W.eq (g2 := F0 m 18 ls [va_rf v2, va_rf v1, .ref th]) (rfl) ?_
  refine c_V B hH hl hc K.2.2.1 (C := RX9) (T := TX9) (N := 20) (ci := 9) (As := [va_rf v1, va_rf v2]) (ok_X9_sendRow hl9 K.2.1 σ th v1 v2 g1 g2 hth hGσ hYσ h) wc_X9_393 2 hd_X9_sendRow ⟨Nat.le_trans (Nat.le_of_ble_eq_true rfl) K.2.2.2.1, Nat.le_trans (Nat.le_of_ble_eq_true rfl) K.2.2.2.2.1⟩ hth.1 hth.2 (by decide) rfl rfl (rest := []) rfl (Nat.le_of_ble_eq_true rfl) dX9_sendMade_18 (fun σ19 w hq => ?_) (fun σ9 E9 hx9 => hX σ9 E9 _ _ _ (tb_out K.2.2.2.2.2.1 rfl) hx9.1 hx9.2.1 hx9.2.2.1 (hE.trans hx9.2.2.2))
  obtain ⟨rfl, h, hGσ19, hYσ19, xσ19⟩ := hq
  have h := h xσ19
  intro H locs ls hH hl hc
  refine W.eq (g2 := F0 m 21 ls []) (rfl) ?_
  try dsimp only at h
  refine lv_aload_n B.1 B.2.1 dX9_sendMade_21 rfl (lv_at hl 0 rfl) ?_
  refine f_getp B hH (hth.up xσ19) (by decide) rfl wu_X9 1 (by decide) wf_X9_57 rfl rfl dX9_sendMade_22 ?_
  obtain ⟨a20, ea20, h⟩ := h
  have ka20 : kO σ19 a20 11 := (hYσ19.get (hth.up xσ19) (by decide)) a20 ea20
  have h := h ka20
  refine W.eq (g2 := F0 m 25 ls [.ref a20]) (by rw [ea20]; rfl) ?_
  refine f_getp B hH ka20 (by decide) rfl wu_X11 2 (by decide) wf_X9_280 rfl rfl dX9_sendMade_25 ?_
  obtain ⟨a23, ea23, h⟩ := h
  have ka23 : kO σ19 a23 1 := (hYσ19.get ka20 (by decide)) a23 ea23
  have h := h ka23
  refine W.eq (g2 := F0 m 28 ls [.ref a23]) (by rw [ea23]; rfl) ?_
  refine c_V B hH hl hc K.2.2.1 (C := RX1) (T := TX1) (N := 3) (ci := 1) (As := []) (ok_X1_takeFirst hl9 K.2.1 σ19 a23 ka23 hGσ19 hYσ19 h) wc_X9_287 0 hd_X1_takeFirst ⟨Nat.le_trans (Nat.le_of_ble_eq_true rfl) K.2.2.2.1, Nat.le_trans (Nat.le_of_ble_eq_true rfl) K.2.2.2.2.1⟩ ka23.1 ka23.2 (by decide) rfl rfl (rest := []) rfl (Nat.le_of_ble_eq_true rfl) dX9_sendMade_28 (fun σ21 w hq => ?_) (fun σ9 E9 hx9 => hX σ9 E9 _ _ _ (tb_out K.2.2.2.2.2.1 rfl) hx9.1 hx9.2.1 hx9.2.2.1 ((hE.trans xσ19).trans hx9.2.2.2))
  obtain ⟨r22, rfl, tr22, h, hGσ21, hYσ21, xσ21⟩ := hq
  have h := h xσ21 tr22
  intro H locs ls hH hl hc
  refine W.eq (g2 := F0 m 31 ls [va_rf r22]) (rfl) ?_
  try dsimp only at h
  refine lv_astore_nQ (lv' := [(2, va_rf r22), (0, .ref th), (1, va_rf v1)]) B.1 B.2.1 dX9_sendMade_31 rfl hl (by decide) (by generalize v1 = w9; cases w9 <;> rfl) (fun ls hl => ?_)
  refine lv_goto (tgt := 11) B.1 B.2.1 dX9_sendMade_32 (by decide) ?_
  exact hK11 _ _ _ (g1.up (xσ19.trans xσ21)) tr22 h hGσ21 hYσ21 ((hE.trans xσ19).trans xσ21) (hth.up (xσ19.trans xσ21)) _ _ _ hH (lv_sub (l' := [(0, .ref th), (1, va_rf v1), (2, va_rf r22)]) hl [1, 2, 0] rfl) hc
set_option maxRecDepth 20000 in
theorem a_X9_sendMade_11 {Q : Sg → Unit → Prop} {X : Sg → String → Prop} {th : Nat} (K : MD l R p s m args c cX9_sendMade 3 RX9 D cA tys A n0 s0 8 137 []) (hQ : CQV p l e R s m args below meth c cX9_sendMade D cA A n0 s0 QM σi Q) (hX : CX p l e R s m args below meth c 3 D cA A n0 s0 QM σi X) (hTh : CT p l e R s m args below meth c cX9_sendMade 3 D cA A n0 s0 QM σi RX9 X) {K11 : Sg → Option Nat → Option Nat → Prop} (hK11 : ∀ (σ : Sg) (v1 : Option Nat) (v2 : Option Nat) (g1 : tyV σ 10 v1) (g2 : tyV σ 0 v2), K11 σ v1 v2 → RG σ → TY σ → Ext σi σ → kO σ th 9 → JJ p l e R s m args below meth c 3 D cA A n0 s0 QM σ 11 [(0, .ref th), (1, va_rf v1), (2, va_rf v2)] []) : ∀ (σ : Sg) (v1 : Option Nat) (v2 : Option Nat) (g1 : tyV σ 10 v1) (g2 : tyV σ 0 v2), w_X9_sendMade_11 th K11 Q X σ v1 v2 → RG σ → TY σ → Ext σi σ → kO σ th 9 → JJ p l e R s m args below meth c 3 D cA A n0 s0 QM σ 11 [(0, .ref th), (1, va_rf v1), (2, va_rf v2)] [] := by
  intro σ v1 v2 g1 g2 h hGσ hYσ hE hth H locs ls hH hl hc
  have B := K.1
  have hl9 := K.2.2.2.2.2.2
  unfold w_X9_sendMade_11 at h
  refine lv_aload_nQ B.1 B.2.1 dX9_sendMade_11 rfl (lv_at hl 2 rfl) ?_
  refine lv_ifnullQ (tgt := 35) B.1 B.2.1 dX9_sendMade_12 (by decide) (fun h9 => ?_) (fun h9 => ?_)
  · rw [if_pos (h9)] at h
    exact a_X9_sendMade_35 K hQ hX hTh _ h hGσ hYσ hE hth _ _ _ hH (lv_sub (l' := [(0, .ref th)]) hl [0] rfl) hc
  · rw [if_neg (h9)] at h
    exact a_X9_sendMade_15 K hQ hX hTh hK11 _ _ _ g1 g2 h hGσ hYσ hE hth _ _ _ hH (lv_sub (l' := [(0, .ref th), (1, va_rf v1), (2, va_rf v2)]) hl [0, 1, 2] rfl) hc
theorem al_X9_sendMade_11 {Q : Sg → Unit → Prop} {X : Sg → String → Prop} {th : Nat} (K : MD l R p s m args c cX9_sendMade 3 RX9 D cA tys A n0 s0 8 137 []) (hQ : CQV p l e R s m args below meth c cX9_sendMade D cA A n0 s0 QM σi Q) (hX : CX p l e R s m args below meth c 3 D cA A n0 s0 QM σi X) (hTh : CT p l e R s m args below meth c cX9_sendMade 3 D cA A n0 s0 QM σi RX9 X) : ∀ (n : Nat), ∀ (σ : Sg) (v1 : Option Nat) (v2 : Option Nat) (g1 : tyV σ 10 v1) (g2 : tyV σ 0 v2), wl_X9_sendMade_11 th Q X n σ v1 v2 → RG σ → TY σ → Ext σi σ → kO σ th 9 → JJ p l e R s m args below meth c 3 D cA A n0 s0 QM σ 11 [(0, .ref th), (1, va_rf v1), (2, va_rf v2)] [] := by
  intro n
  induction n with
  | zero => intro σ v1 v2 g1 g2 h; exact h.elim
  | succ n ih => exact fun σ v1 v2 g1 g2 h => a_X9_sendMade_11 K hQ hX hTh ih σ v1 v2 g1 g2 h
set_option maxRecDepth 20000 in
theorem a_X9_sendMade_0 {Q : Sg → Unit → Prop} {X : Sg → String → Prop} {th : Nat} (K : MD l R p s m args c cX9_sendMade 3 RX9 D cA tys A n0 s0 8 137 []) (hQ : CQV p l e R s m args below meth c cX9_sendMade D cA A n0 s0 QM σi Q) (hX : CX p l e R s m args below meth c 3 D cA A n0 s0 QM σi X) (hTh : CT p l e R s m args below meth c cX9_sendMade 3 D cA A n0 s0 QM σi RX9 X) : ∀ (σ : Sg) (v1 : Option Nat) (g1 : tyV σ 10 v1), w_X9_sendMade_0 th Q X σ v1 → RG σ → TY σ → Ext σi σ → kO σ th 9 → JJ p l e R s m args below meth c 3 D cA A n0 s0 QM σ 0 [(0, .ref th), (1, va_rf v1)] [] := by
  intro σ v1 g1 h hGσ hYσ hE hth H locs ls hH hl hc
  have B := K.1
  have hl9 := K.2.2.2.2.2.2
  unfold w_X9_sendMade_0 at h
  refine lv_aload_n B.1 B.2.1 dX9_sendMade_0 rfl (lv_at hl 0 rfl) ?_
  refine f_getp B hH hth (by decide) rfl wu_X9 1 (by decide) wf_X9_57 rfl rfl dX9_sendMade_1 ?_
  obtain ⟨a24, ea24, h⟩ := h
  have ka24 : kO σ a24 11 := (hYσ.get hth (by decide)) a24 ea24
  have h := h ka24
  refine W.eq (g2 := F0 m 4 ls [.ref a24]) (by rw [ea24]; rfl) ?_
  refine f_getp B hH ka24 (by decide) rfl wu_X11 2 (by decide) wf_X9_280 rfl rfl dX9_sendMade_4 ?_
  obtain ⟨a27, ea27, h⟩ := h
  have ka27 : kO σ a27 1 := (hYσ.get ka24 (by decide)) a27 ea27
  have h := h ka27
  refine W.eq (g2 := F0 m 7 ls [.ref a27]) (by rw [ea27]; rfl) ?_
  refine c_V B hH hl hc K.2.2.1 (C := RX1) (T := TX1) (N := 3) (ci := 1) (As := []) (ok_X1_takeFirst hl9 K.2.1 σ a27 ka27 hGσ hYσ h) wc_X9_287 0 hd_X1_takeFirst ⟨Nat.le_trans (Nat.le_of_ble_eq_true rfl) K.2.2.2.1, Nat.le_trans (Nat.le_of_ble_eq_true rfl) K.2.2.2.2.1⟩ ka27.1 ka27.2 (by decide) rfl rfl (rest := []) rfl (Nat.le_of_ble_eq_true rfl) dX9_sendMade_7 (fun σ25 w hq => ?_) (fun σ9 E9 hx9 => hX σ9 E9 _ _ _ (tb_out K.2.2.2.2.2.1 rfl) hx9.1 hx9.2.1 hx9.2.2.1 (hE.trans hx9.2.2.2))
  obtain ⟨r26, rfl, tr26, h, hGσ25, hYσ25, xσ25⟩ := hq
  have h := h xσ25 tr26
  intro H locs ls hH hl hc
  refine W.eq (g2 := F0 m 10 ls [va_rf r26]) (rfl) ?_
  try dsimp only at h
  refine lv_astore_nQ (lv' := [(2, va_rf r26), (0, .ref th), (1, va_rf v1)]) B.1 B.2.1 dX9_sendMade_10 rfl hl (by decide) (by generalize v1 = w9; cases w9 <;> rfl) (fun ls hl => ?_)
  obtain ⟨n9, h⟩ := h
  exact al_X9_sendMade_11 K hQ hX hTh n9 _ _ _ (g1.up xσ25) tr26 h hGσ25 hYσ25 (hE.trans xσ25) (hth.up xσ25) _ _ _ hH (lv_sub (l' := [(0, .ref th), (1, va_rf v1), (2, va_rf r26)]) hl [1, 2, 0] rfl) hc
theorem ok_X9_sendMade (hl0 : l.stackTraces = false) (hT : TyC cA tys) {Q : Sg → Unit → Prop} {X : Sg → String → Prop} (σ : Sg) (th : Nat) (v1 : Option Nat) (g1 : tyV σ 10 v1) (hth : kO σ th 9) (hG : RG σ) (hY : TY σ) (h : wp_X9_sendMade th v1 σ Q X) : Ok l D cA tys A yX9_sendMade (.code yX9_sendMade cX9_sendMade 3 none) 8 137 [.ref th, va_rf v1] σ (QcV σ Q) (QxC σ X) := by
  unfold wp_X9_sendMade at h
  exact oc_V hl0 (by decide) (by cases v1 <;> exact Nat.le_of_ble_eq_true rfl) hT (fun p e R s m args below meth c K hQ hX hTh hin9 H locs ls hH hl hc => a_X9_sendMade_0 K hQ hX hTh σ v1 g1 h hG hY (Ext.rfl' σ) hth H locs ls hH (lv_sub (l' := [(0, .ref th), (1, va_rf v1)]) hl [0, 1] (by cases v1 <;> rfl)) hc)
theorem dX9_unblock_0 : decode cX9_unblock 0 = .ok (.iconst 0, 1) := by decide +kernel
theorem dX9_unblock_1 : decode cX9_unblock 1 = .ok (.istore_n 2, 1) := by decide +kernel
theorem dX9_unblock_2 : decode cX9_unblock 2 = .ok (.iload_n 2, 1) := by decide +kernel
theorem dX9_unblock_3 : decode cX9_unblock 3 = .ok (.aload_n 1, 1) := by decide +kernel
theorem dX9_unblock_4 : decode cX9_unblock 4 = .ok (.getfield 194, 3) := by decide +kernel
theorem dX9_unblock_7 : decode cX9_unblock 7 = .ok (.if_icmp .ge 24, 3) := by decide +kernel
theorem dX9_unblock_10 : decode cX9_unblock 10 = .ok (.aload_n 0, 1) := by decide +kernel
theorem dX9_unblock_11 : decode cX9_unblock 11 = .ok (.getfield 26, 3) := by decide +kernel
theorem dX9_unblock_14 : decode cX9_unblock 14 = .ok (.aload_n 1, 1) := by decide +kernel
theorem dX9_unblock_15 : decode cX9_unblock 15 = .ok (.getfield 178, 3) := by decide +kernel
theorem dX9_unblock_18 : decode cX9_unblock 18 = .ok (.iload_n 2, 1) := by decide +kernel
theorem dX9_unblock_19 : decode cX9_unblock 19 = .ok (.iadd, 1) := by decide +kernel
theorem dX9_unblock_20 : decode cX9_unblock 20 = .ok (.aaload, 1) := by decide +kernel
theorem dX9_unblock_21 : decode cX9_unblock 21 = .ok (.iconst 0, 1) := by decide +kernel
theorem dX9_unblock_22 : decode cX9_unblock 22 = .ok (.putfield 298, 3) := by decide +kernel
theorem dX9_unblock_25 : decode cX9_unblock 25 = .ok (.iinc 2 1, 3) := by decide +kernel
theorem dX9_unblock_28 : decode cX9_unblock 28 = .ok (.goto (-26), 3) := by decide +kernel
theorem dX9_unblock_31 : decode cX9_unblock 31 = .ok (.return_, 1) := by decide +kernel
set_option maxRecDepth 20000 in
theorem a_X9_unblock_31 {Q : Sg → Unit → Prop} {X : Sg → String → Prop} {th : Nat} (K : MD l R p s m args c cX9_unblock 3 RX9 D cA tys A n0 s0 0 0 []) (hQ : CQV p l e R s m args below meth c cX9_unblock D cA A n0 s0 QM σi Q) (hX : CX p l e R s m args below meth c 3 D cA A n0 s0 QM σi X) (hTh : CT p l e R s m args below meth c cX9_unblock 3 D cA A n0 s0 QM σi RX9 X) : ∀ (σ : Sg), w_X9_unblock_31 th Q X σ → RG σ → TY σ → Ext σi σ → kO σ th 9 → JJ p l e R s m args below meth c 3 D cA A n0 s0 QM σ 31 [(0, .ref th)] [] := by
  intro σ h hGσ hYσ hE hth H locs ls hH hl hc
  have B := K.1
  have hl9 := K.2.2.2.2.2.2
  unfold w_X9_unblock_31 at h
  exact hQ _ _ _ _ _ dX9_unblock_31 hH hc h hGσ hYσ hE
set_option maxRecDepth 20000 in
theorem a_X9_unblock_10 {Q : Sg → Unit → Prop} {X : Sg → String → Prop} {th : Nat} (K : MD l R p s m args c cX9_unblock 3 RX9 D cA tys A n0 s0 0 0 []) (hQ : CQV p l e R s m args below meth c cX9_unblock D cA A n0 s0 QM σi Q) (hX : CX p l e R s m args below meth c 3 D cA A n0 s0 QM σi X) (hTh : CT p l e R s m args below meth c cX9_unblock 3 D cA A n0 s0 QM σi RX9 X) {K2 : Sg → Option Nat → Int → Prop} (hK2 : ∀ (σ : Sg) (v1 : Option Nat) (v2 : Int) (g1 : tyV σ 10 v1) (g2 : rng v2), K2 σ v1 v2 → RG σ → TY σ → Ext σi σ → kO σ th 9 → JJ p l e R s m args below meth c 3 D cA A n0 s0 QM σ 2 [(0, .ref th), (1, va_rf v1), (2, .int (i32 v2))] []) : ∀ (σ : Sg) (v1 : Option Nat) (v2 : Int) (g1 : tyV σ 10 v1) (g2 : rng v2), w_X9_unblock_10 th K2 Q X σ v1 v2 → RG σ → TY σ → Ext σi σ → kO σ th 9 → JJ p l e R s m args below meth c 3 D cA A n0 s0 QM σ 10 [(0, .ref th), (1, va_rf v1), (2, .int (i32 v2))] [] := by
  intro σ v1 v2 g1 g2 h hGσ hYσ hE hth H locs ls hH hl hc
  have B := K.1
  have hl9 := K.2.2.2.2.2.2
  unfold w_X9_unblock_10 at h
  refine lv_aload_n B.1 B.2.1 dX9_unblock_10 rfl (lv_at hl 0 rfl) ?_
  refine f_getp B hH hth (by decide) rfl wu_X9 4 (by decide) wf_X9_26 rfl rfl dX9_unblock_11 ?_
  refine lv_aload_nQ B.1 B.2.1 dX9_unblock_14 rfl (lv_at hl 1 rfl) ?_
  obtain ⟨a11, ea11, h⟩ := h
  have ka11 : kO σ a11 10 := g1 a11 ea11
  have h := h ka11
  refine W.eq (g2 := F0 m 15 ls [.ref a11, va_rf (gP σ th 4)]) (by rw [ea11]; rfl) ?_
  refine f_geti B hH ka11 (by decide) rfl wu_X10 11 (by decide) wf_X9_178 rfl rfl dX9_unblock_15 ?_
  refine lv_iload_n B.1 B.2.1 dX9_unblock_18 rfl (lv_at hl 2 rfl) ?_
  obtain ⟨q1, h⟩ := h
  refine lv_iadd B.1 B.2.1 dX9_unblock_19 ?_
  rw [i32_add]
  obtain ⟨a12, ea12, h⟩ := h
  have ka12 : kO σ a12 112 := (hYσ.get hth (by decide)) a12 ea12
  have h := h ka12
  obtain ⟨q2, h⟩ := h
  refine W.eq (g2 := F0 m 20 ls [.int (i32 (gI σ a11 11 + v2)), .ref a12]) (by rw [ea12]; rfl) ?_
  refine y_aald B hH (t0 := 5) ka12 (by decide) K.2.1.2.2.1 q2 (hYσ.2 _) dX9_unblock_20 ?_
  refine lv_iconst (v := i32 0) B.1 B.2.1 dX9_unblock_21 (by decide) ?_
  obtain ⟨a13, ea13, h⟩ := h
  have ka13 : kO σ a13 2 := (hYσ.get ka12 rfl) a13 ea13
  have h := h ka13
  obtain ⟨σ14, eσ14⟩ : ∃ z, z = pI σ a13 5 0 := ⟨_, rfl⟩
  have h := h σ14 eσ14
  refine W.eq (g2 := F0 m 22 ls [.int (i32 0), .ref a13]) (by rw [ea13]; rfl) ?_
  refine f_puti B hH ka13 (by decide) rfl wu_X2 tyX2 tyX2_ok nmX2 5 (by decide) wf_X9_298 rfl (ty := .boolean) rfl rfl rfl rfl rfl dX9_unblock_22 (fun H locs hH => ?_)
  have hH : Hd D cA A s (pI σ a13 5 0) H locs := hH
  rw [← eσ14] at hH
  have hGσ14 : RG σ14 := by rw [eσ14]; exact hGσ.pI (by unfold rng; omega)
  have hYσ14 : TY σ14 := by rw [eσ14]; exact hYσ.pI
  have xσ14 : Ext σ σ14 := by rw [eσ14]; exact Ext.pI
  have hc : CB n0 s0 σ14 := by rw [eσ14]; exact hc
  rw [show gc σ = gc σ14 by rw [eσ14]; try rfl, show gs σ = gs σ14 by rw [eσ14]; try rfl]
  obtain ⟨q3, h⟩ := h
  refine lv_iinc (k := 2) (v := i32 (v2 + 1)) (lv' := [(2, .int (i32 (v2 + 1))), (0, .ref th), (1, va_rf v1)]) B.1 B.2.1 dX9_unblock_25 hl rfl (i32_add _ _) (by decide) (by generalize v1 = w9; cases w9 <;> rfl) (fun ls hl => ?_)
  refine lv_goto (tgt := 2) B.1 B.2.1 dX9_unblock_28 (by decide) ?_
  exact hK2 _ _ _ (g1.up xσ14) q3 h hGσ14 hYσ14 (hE.trans xσ14) (hth.up xσ14) _ _ _ hH (lv_sub (l' := [(0, .ref th), (1, va_rf v1), (2, .int (i32 (v2 + 1)))]) hl [1, 2, 0] rfl) hc
set_option maxRecDepth 20000 in
theorem a_X9_unblock_2 {Q : Sg → Unit → Prop} {X : Sg → String → Prop} {th : Nat} (K : MD l R p s m args c cX9_unblock 3 RX9 D cA tys A n0 s0 0 0 []) (hQ : CQV p l e R s m args below meth c cX9_unblock D cA A n0 s0 QM σi Q) (hX : CX p l e R s m args below meth c 3 D cA A n0 s0 QM σi X) (hTh : CT p l e R s m args below meth c cX9_unblock 3 D cA A n0 s0 QM σi RX9 X) {K2 : Sg → Option Nat → Int → Prop} (hK2 : ∀ (σ : Sg) (v1 : Option Nat) (v2 : Int) (g1 : tyV σ 10 v1) (g2 : rng v2), K2 σ v1 v2 → RG σ → TY σ → Ext σi σ → kO σ th 9 → JJ p l e R s m args below meth c 3 D cA A n0 s0 QM σ 2 [(0, .ref th), (1, va_rf v1), (2, .int (i32 v2))] []) : ∀ (σ : Sg) (v1 : Option Nat) (v2 : Int) (g1 : tyV σ 10 v1) (g2 : rng v2), w_X9_unblock_2 th K2 Q X σ v1 v2 → RG σ → TY σ → Ext σi σ → kO σ th 9 → JJ p l e R s m args below meth c 3 D cA A n0 s0 QM σ 2 [(0, .ref th), (1, va_rf v1), (2, .int (i32 v2))] [] := by
  intro σ v1 v2 g1 g2 h hGσ hYσ hE hth H locs ls hH hl hc
  have B := K.1
  have hl9 := K.2.2.2.2.2.2
  unfold w_X9_unblock_2 at h
  refine lv_iload_n B.1 B.2.1 dX9_unblock_2 rfl (lv_at hl 2 rfl) ?_
  refine lv_aload_nQ B.1 B.2.1 dX9_unblock_3 rfl (lv_at hl 1 rfl) ?_
  obtain ⟨a15, ea15, h⟩ := h
  have ka15 : kO σ a15 10 := g1 a15 ea15
  have h := h ka15
  refine W.eq (g2 := F0 m 4 ls [.ref a15, .int (i32 v2)]) (by rw [ea15]; rfl) ?_
  refine f_geti B hH ka15 (by decide) rfl wu_X10 12 (by decide) wf_X9_194 rfl rfl dX9_unblock_4 ?_
  refine lv_icmp_ge (tgt := 31) B.1 B.2.1 dX9_unblock_7 (by decide) (fun h9 => ?_) (fun h9 => ?_)
  · rw [if_pos ((i32_le (hGσ _ _) g2).mp h9)] at h
    exact a_X9_unblock_31 K hQ hX hTh _ h hGσ hYσ hE hth _ _ _ hH (lv_sub (l' := [(0, .ref th)]) hl [0] rfl) hc
  · rw [if_neg (fun q => h9 ((i32_le (hGσ _ _) g2).mpr q))] at h
    exact a_X9_unblock_10 K hQ hX hTh hK2 _ _ _ g1 g2 h hGσ hYσ hE hth _ _ _ hH (lv_sub (l' := [(0, .ref th), (1, va_rf v1), (2, .int (i32 v2))]) hl [0, 1, 2] rfl) hc
theorem al_X9_unblock_2 {Q : Sg → Unit → Prop} {X : Sg → String → Prop} {th : Nat} (K : MD l R p s m args c cX9_unblock 3 RX9 D cA tys A n0 s0 0 0 []) (hQ : CQV p l e R s m args below meth c cX9_unblock D cA A n0 s0 QM σi Q) (hX : CX p l e R s m args below meth c 3 D cA A n0 s0 QM σi X) (hTh : CT p l e R s m args below meth c cX9_unblock 3 D cA A n0 s0 QM σi RX9 X) : ∀ (n : Nat), ∀ (σ : Sg) (v1 : Option Nat) (v2 : Int) (g1 : tyV σ 10 v1) (g2 : rng v2), wl_X9_unblock_2 th Q X n σ v1 v2 → RG σ → TY σ → Ext σi σ → kO σ th 9 → JJ p l e R s m args below meth c 3 D cA A n0 s0 QM σ 2 [(0, .ref th), (1, va_rf v1), (2, .int (i32 v2))] [] := by
  intro n
  induction n with
  | zero => intro σ v1 v2 g1 g2 h; exact h.elim
  | succ n ih => exact fun σ v1 v2 g1 g2 h => a_X9_unblock_2 K hQ hX hTh ih σ v1 v2 g1 g2 h
set_option maxRecDepth 20000 in
theorem a_X9_unblock_0 {Q : Sg → Unit → Prop} {X : Sg → String → Prop} {th : Nat} (K : MD l R p s m args c cX9_unblock 3 RX9 D cA tys A n0 s0 0 0 []) (hQ : CQV p l e R s m args below meth c cX9_unblock D cA A n0 s0 QM σi Q) (hX : CX p l e R s m args below meth c 3 D cA A n0 s0 QM σi X) (hTh : CT p l e R s m args below meth c cX9_unblock 3 D cA A n0 s0 QM σi RX9 X) : ∀ (σ : Sg) (v1 : Option Nat) (g1 : tyV σ 10 v1), w_X9_unblock_0 th Q X σ v1 → RG σ → TY σ → Ext σi σ → kO σ th 9 → JJ p l e R s m args below meth c 3 D cA A n0 s0 QM σ 0 [(0, .ref th), (1, va_rf v1)] [] := by
  intro σ v1 g1 h hGσ hYσ hE hth H locs ls hH hl hc
  have B := K.1
  have hl9 := K.2.2.2.2.2.2
  unfold w_X9_unblock_0 at h
  refine lv_iconst (v := i32 0) B.1 B.2.1 dX9_unblock_0 (by decide) ?_
  refine lv_istore_n (lv' := [(2, .int (i32 0)), (0, .ref th), (1, va_rf v1)]) B.1 B.2.1 dX9_unblock_1 rfl hl (by decide) (by generalize v1 = w9; cases w9 <;> rfl) (fun ls hl => ?_)
  obtain ⟨n9, h⟩ := h
  exact al_X9_unblock_2 K hQ hX hTh n9 _ _ _ g1 (by unfold rng; omega) h hGσ hYσ hE hth _ _ _ hH (lv_sub (l' := [(0, .ref th), (1, va_rf v1), (2, .int (i32 0))]) hl [1, 2, 0] rfl) hc
theorem ok_X9_unblock (hl0 : l.stackTraces = false) (hT : TyC cA tys) {Q : Sg → Unit → Prop} {X : Sg → String → Prop} (σ : Sg) (th : Nat) (v1 : Option Nat) (g1 : tyV σ 10 v1) (hth : kO σ th 9) (hG : RG σ) (hY : TY σ) (h : wp_X9_unblock th v1 σ Q X) : Ok l D cA tys A yX9_unblock (.code yX9_unblock cX9_unblock 3 none) 0 0 [.ref th, va_rf v1] σ (QcV σ Q) (QxC σ X) := by
  unfold wp_X9_unblock at h
  exact oc_V hl0 (by decide) (by cases v1 <;> exact Nat.le_of_ble_eq_true rfl) hT (fun p e R s m args below meth c K hQ hX hTh hin9 H locs ls hH hl hc => a_X9_unblock_0 K hQ hX hTh σ v1 g1 h hG hY (Ext.rfl' σ) hth H locs ls hH (lv_sub (l' := [(0, .ref th), (1, va_rf v1)]) hl [0, 1] (by cases v1 <;> rfl)) hc)
theorem dX9_takeThing_0 : decode cX9_takeThing 0 = .ok (.aload_n 0, 1) := by decide +kernel
theorem dX9_takeThing_1 : decode cX9_takeThing 1 = .ok (.aload_n 1, 1) := by decide +kernel
theorem dX9_takeThing_2 : decode cX9_takeThing 2 = .ok (.invokevirtual 283, 3) := by decide +kernel
theorem dX9_takeThing_5 : decode cX9_takeThing 5 = .ok (.astore_n 3, 1) := by decide +kernel
theorem dX9_takeThing_6 : decode cX9_takeThing 6 = .ok (.aload_n 3, 1) := by decide +kernel
theorem dX9_takeThing_7 : decode cX9_takeThing 7 = .ok (.ifnonnull 7, 3) := by decide +kernel
theorem dX9_takeThing_10 : decode cX9_takeThing 10 = .ok (.aconst_null, 1) := by decide +kernel
theorem dX9_takeThing_11 : decode cX9_takeThing 11 = .ok (.goto 10, 3) := by decide +kernel
theorem dX9_takeThing_14 : decode cX9_takeThing 14 = .ok (.aload_n 3, 1) := by decide +kernel
theorem dX9_takeThing_15 : decode cX9_takeThing 15 = .ok (.getfield 148, 3) := by decide +kernel
theorem dX9_takeThing_18 : decode cX9_takeThing 18 = .ok (.invokevirtual 287, 3) := by decide +kernel
theorem dX9_takeThing_21 : decode cX9_takeThing 21 = .ok (.astore 4, 2) := by decide +kernel
theorem dX9_takeThing_23 : decode cX9_takeThing 23 = .ok (.aload 4, 2) := by decide +kernel
theorem dX9_takeThing_25 : decode cX9_takeThing 25 = .ok (.ifnonnull 5, 3) := by decide +kernel
theorem dX9_takeThing_28 : decode cX9_takeThing 28 = .ok (.iconst 0, 1) := by decide +kernel
theorem dX9_takeThing_29 : decode cX9_takeThing 29 = .ok (.ireturn, 1) := by decide +kernel
theorem dX9_takeThing_30 : decode cX9_takeThing 30 = .ok (.aload_n 1, 1) := by decide +kernel
theorem dX9_takeThing_31 : decode cX9_takeThing 31 = .ok (.dup, 1) := by decide +kernel
theorem dX9_takeThing_32 : decode cX9_takeThing 32 = .ok (.getfield 261, 3) := by decide +kernel
theorem dX9_takeThing_35 : decode cX9_takeThing 35 = .ok (.iconst 1, 1) := by decide +kernel
theorem dX9_takeThing_36 : decode cX9_takeThing 36 = .ok (.iadd, 1) := by decide +kernel
theorem dX9_takeThing_37 : decode cX9_takeThing 37 = .ok (.putfield 261, 3) := by decide +kernel
theorem dX9_takeThing_40 : decode cX9_takeThing 40 = .ok (.aload 4, 2) := by decide +kernel
theorem dX9_takeThing_42 : decode cX9_takeThing 42 = .ok (.getfield 291, 3) := by decide +kernel
theorem dX9_takeThing_45 : decode cX9_takeThing 45 = .ok (.iconst 2, 1) := by decide +kernel
theorem dX9_takeThing_46 : decode cX9_takeThing 46 = .ok (.if_icmp .ne 49, 3) := by decide +kernel
theorem dX9_takeThing_49 : decode cX9_takeThing 49 = .ok (.aload_n 0, 1) := by decide +kernel
theorem dX9_takeThing_50 : decode cX9_takeThing 50 = .ok (.getfield 48, 3) := by decide +kernel
theorem dX9_takeThing_53 : decode cX9_takeThing 53 = .ok (.aload 4, 2) := by decide +kernel
theorem dX9_takeThing_55 : decode cX9_takeThing 55 = .ok (.invokevirtual 294, 3) := by decide +kernel
theorem dX9_takeThing_58 : decode cX9_takeThing 58 = .ok (.aload_n 3, 1) := by decide +kernel
theorem dX9_takeThing_59 : decode cX9_takeThing 59 = .ok (.iconst 1, 1) := by decide +kernel
theorem dX9_takeThing_60 : decode cX9_takeThing 60 = .ok (.putfield 298, 3) := by decide +kernel
theorem dX9_takeThing_63 : decode cX9_takeThing 63 = .ok (.aload_n 0, 1) := by decide +kernel
theorem dX9_takeThing_64 : decode cX9_takeThing 64 = .ok (.aload_n 1, 1) := by decide +kernel
theorem dX9_takeThing_65 : decode cX9_takeThing 65 = .ok (.invokevirtual 301, 3) := by decide +kernel
theorem dX9_takeThing_68 : decode cX9_takeThing 68 = .ok (.ifCond .eq 132, 3) := by decide +kernel
theorem dX9_takeThing_71 : decode cX9_takeThing 71 = .ok (.aload_n 0, 1) := by decide +kernel
theorem dX9_takeThing_72 : decode cX9_takeThing 72 = .ok (.aload_n 1, 1) := by decide +kernel
theorem dX9_takeThing_73 : decode cX9_takeThing 73 = .ok (.aload_n 2, 1) := by decide +kernel
theorem dX9_takeThing_74 : decode cX9_takeThing 74 = .ok (.invokevirtual 304, 3) := by decide +kernel
theorem dX9_takeThing_77 : decode cX9_takeThing 77 = .ok (.ifCond .eq 123, 3) := by decide +kernel
theorem dX9_takeThing_80 : decode cX9_takeThing 80 = .ok (.aload_n 0, 1) := by decide +kernel
theorem dX9_takeThing_81 : decode cX9_takeThing 81 = .ok (.aload_n 1, 1) := by decide +kernel
theorem dX9_takeThing_82 : decode cX9_takeThing 82 = .ok (.invokevirtual 307, 3) := by decide +kernel
theorem dX9_takeThing_85 : decode cX9_takeThing 85 = .ok (.aload_n 0, 1) := by decide +kernel
theorem dX9_takeThing_86 : decode cX9_takeThing 86 = .ok (.aload_n 1, 1) := by decide +kernel
theorem dX9_takeThing_87 : decode cX9_takeThing 87 = .ok (.iconst 2, 1) := by decide +kernel
theorem dX9_takeThing_88 : decode cX9_takeThing 88 = .ok (.lconst 0, 1) := by decide +kernel
theorem dX9_takeThing_89 : decode cX9_takeThing 89 = .ok (.invokevirtual 134, 3) := by decide +kernel
theorem dX9_takeThing_92 : decode cX9_takeThing 92 = .ok (.goto 108, 3) := by decide +kernel
theorem dX9_takeThing_95 : decode cX9_takeThing 95 = .ok (.aload 4, 2) := by decide +kernel
theorem dX9_takeThing_97 : decode cX9_takeThing 97 = .ok (.getfield 291, 3) := by decide +kernel
theorem dX9_takeThing_100 : decode cX9_takeThing 100 = .ok (.iconst 1, 1) := by decide +kernel
theorem dX9_takeThing_101 : decode cX9_takeThing 101 = .ok (.if_icmp .ne 60, 3) := by decide +kernel
theorem dX9_takeThing_104 : decode cX9_takeThing 104 = .ok (.aload_n 3, 1) := by decide +kernel
theorem dX9_takeThing_105 : decode cX9_takeThing 105 = .ok (.aload 4, 2) := by decide +kernel
theorem dX9_takeThing_107 : decode cX9_takeThing 107 = .ok (.getfield 311, 3) := by decide +kernel
theorem dX9_takeThing_110 : decode cX9_takeThing 110 = .ok (.putfield 314, 3) := by decide +kernel
theorem dX9_takeThing_113 : decode cX9_takeThing 113 = .ok (.aload_n 0, 1) := by decide +kernel
theorem dX9_takeThing_114 : decode cX9_takeThing 114 = .ok (.getfield 48, 3) := by decide +kernel
theorem dX9_takeThing_117 : decode cX9_takeThing 117 = .ok (.aload 4, 2) := by decide +kernel
theorem dX9_takeThing_119 : decode cX9_takeThing 119 = .ok (.invokevirtual 294, 3) := by decide +kernel
theorem dX9_takeThing_122 : decode cX9_takeThing 122 = .ok (.aload_n 0, 1) := by decide +kernel
theorem dX9_takeThing_123 : decode cX9_takeThing 123 = .ok (.aload_n 1, 1) := by decide +kernel
theorem dX9_takeThing_124 : decode cX9_takeThing 124 = .ok (.invokevirtual 315, 3) := by decide +kernel
theorem dX9_takeThing_127 : decode cX9_takeThing 127 = .ok (.ifCond .eq 73, 3) := by decide +kernel
theorem dX9_takeThing_130 : decode cX9_takeThing 130 = .ok (.aload_n 0, 1) := by decide +kernel
theorem dX9_takeThing_131 : decode cX9_takeThing 131 = .ok (.getfield 57, 3) := by decide +kernel
theorem dX9_takeThing_134 : decode cX9_takeThing 134 = .ok (.aload_n 2, 1) := by decide +kernel
theorem dX9_takeThing_135 : decode cX9_takeThing 135 = .ok (.aload_n 1, 1) := by decide +kernel
theorem dX9_takeThing_136 : decode cX9_takeThing 136 = .ok (.aload_n 1, 1) := by decide +kernel
theorem dX9_takeThing_137 : decode cX9_takeThing 137 = .ok (.getfield 127, 3) := by decide +kernel
theorem dX9_takeThing_140 : decode cX9_takeThing 140 = .ok (.invokevirtual 318, 3) := by decide +kernel
theorem dX9_takeThing_143 : decode cX9_takeThing 143 = .ok (.aload_n 0, 1) := by decide +kernel
theorem dX9_takeThing_144 : decode cX9_takeThing 144 = .ok (.aload_n 1, 1) := by decide +kernel
theorem dX9_takeThing_145 : decode cX9_takeThing 145 = .ok (.invokevirtual 322, 3) := by decide +kernel
theorem dX9_takeThing_148 : decode cX9_takeThing 148 = .ok (.aload_n 0, 1) := by decide +kernel
theorem dX9_takeThing_149 : decode cX9_takeThing 149 = .ok (.aload_n 1, 1) := by decide +kernel
theorem dX9_takeThing_150 : decode cX9_takeThing 150 = .ok (.iconst 1, 1) := by decide +kernel
theorem dX9_takeThing_151 : decode cX9_takeThing 151 = .ok (.aload_n 1, 1) := by decide +kernel
theorem dX9_takeThing_152 : decode cX9_takeThing 152 = .ok (.getfield 127, 3) := by decide +kernel
theorem dX9_takeThing_155 : decode cX9_takeThing 155 = .ok (.invokevirtual 134, 3) := by decide +kernel
theorem dX9_takeThing_158 : decode cX9_takeThing 158 = .ok (.goto 42, 3) := by decide +kernel
theorem dX9_takeThing_161 : decode cX9_takeThing 161 = .ok (.aload_n 2, 1) := by decide +kernel
theorem dX9_takeThing_162 : decode cX9_takeThing 162 = .ok (.getfield 164, 3) := by decide +kernel
theorem dX9_takeThing_165 : decode cX9_takeThing 165 = .ok (.bipush 11, 2) := by decide +kernel
theorem dX9_takeThing_167 : decode cX9_takeThing 167 = .ok (.if_icmp .ne 13, 3) := by decide +kernel
theorem dX9_takeThing_170 : decode cX9_takeThing 170 = .ok (.aload_n 0, 1) := by decide +kernel
theorem dX9_takeThing_171 : decode cX9_takeThing 171 = .ok (.aload_n 2, 1) := by decide +kernel
theorem dX9_takeThing_172 : decode cX9_takeThing 172 = .ok (.aload 4, 2) := by decide +kernel
theorem dX9_takeThing_174 : decode cX9_takeThing 174 = .ok (.invokevirtual 325, 3) := by decide +kernel
theorem dX9_takeThing_177 : decode cX9_takeThing 177 = .ok (.goto 23, 3) := by decide +kernel
theorem dX9_takeThing_180 : decode cX9_takeThing 180 = .ok (.aload_n 0, 1) := by decide +kernel
theorem dX9_takeThing_181 : decode cX9_takeThing 181 = .ok (.getfield 57, 3) := by decide +kernel
theorem dX9_takeThing_184 : decode cX9_takeThing 184 = .ok (.aload_n 2, 1) := by decide +kernel
theorem dX9_takeThing_185 : decode cX9_takeThing 185 = .ok (.aload_n 1, 1) := by decide +kernel
theorem dX9_takeThing_186 : decode cX9_takeThing 186 = .ok (.aload_n 3, 1) := by decide +kernel
theorem dX9_takeThing_187 : decode cX9_takeThing 187 = .ok (.getfield 329, 3) := by decide +kernel
theorem dX9_takeThing_190 : decode cX9_takeThing 190 = .ok (.aload 4, 2) := by decide +kernel
theorem dX9_takeThing_192 : decode cX9_takeThing 192 = .ok (.invokevirtual 332, 3) := by decide +kernel
theorem dX9_takeThing_195 : decode cX9_takeThing 195 = .ok (.aload_n 0, 1) := by decide +kernel
theorem dX9_takeThing_196 : decode cX9_takeThing 196 = .ok (.aload_n 1, 1) := by decide +kernel
theorem dX9_takeThing_197 : decode cX9_takeThing 197 = .ok (.invokevirtual 322, 3) := by decide +kernel
theorem dX9_takeThing_200 : decode cX9_takeThing 200 = .ok (.iconst 1, 1) := by decide +kernel
theorem dX9_takeThing_201 : decode cX9_takeThing 201 = .ok (.ireturn, 1) := by decide +kernel
set_option maxRecDepth 20000 in
theorem a_X9_takeThing_200 {Q : Sg → Int → Prop} {X : Sg → String → Prop} {th : Nat} (K : MD l R p s m args c cX9_takeThing 5 RX9 D cA tys A n0 s0 11 223 []) (hQ : CQZ p l e R s m args below meth c cX9_takeThing D cA A n0 s0 QM σi Q) (hX : CX p l e R s m args below meth c 5 D cA A n0 s0 QM σi X) (hTh : CT p l e R s m args below meth c cX9_takeThing 5 D cA A n0 s0 QM σi RX9 X) : ∀ (σ : Sg), w_X9_takeThing_200 th Q X σ → RG σ → TY σ → Ext σi σ → kO σ th 9 → JJ p l e R s m args below meth c 5 D cA A n0 s0 QM σ 200 [(0, .ref th)] [] := by
  intro σ h hGσ hYσ hE hth H locs ls hH hl hc
  have B := K.1
  have hl9 := K.2.2.2.2.2.2
  unfold w_X9_takeThing_200 at h
  refine lv_iconst (v := i32 1) B.1 B.2.1 dX9_takeThing_200 (by decide) ?_
  exact hQ _ _ _ _ _ _ (by unfold rng; omega) (Or.inr rfl) dX9_takeThing_201 hH hc h hGσ hYσ hE
set_option maxRecDepth 20000 in
theorem a_X9_takeThing_180 {Q : Sg → Int → Prop} {X : Sg → String → Prop} {th : Nat} (K : MD l R p s m args c cX9_takeThing 5 RX9 D cA tys A n0 s0 11 223 []) (hQ : CQZ p l e R s m args below meth c cX9_takeThing D cA A n0 s0 QM σi Q) (hX : CX p l e R s m args below meth c 5 D cA A n0 s0 QM σi X) (hTh : CT p l e R s m args below meth c cX9_takeThing 5 D cA A n0 s0 QM σi RX9 X) : ∀ (σ : Sg) (v1 : Option Nat) (v2 : Option Nat) (v3 : Option Nat) (v4 : Option Nat) (g1 : tyV σ 10 v1) (g2 : tyV σ 5 v2) (g3 : tyV σ 2 v3) (g4 : tyV σ 0 v4), w_X9_takeThing_180 th Q X σ v1 v2 v3 v4 → RG σ → TY σ → Ext σi σ → kO σ th 9 → JJ p l e R s m args below meth c 5 D cA A n0 s0 QM σ 180 [(0, .ref th), (1, va_rf v1), (2, va_rf v2), (3, va_rf v3), (4, va_rf v4)] [] := by
  intro σ v1 v2 v3 v4 g1 g2 g3 g4 h hGσ hYσ hE hth H locs ls hH hl hc
  have B := K.1
  have hl9 := K.2.2.2.2.2.2
  unfold w_X9_takeThing_180 at h
  refine lv_aload_n B.1 B.2.1 dX9_takeThing_180 rfl (lv_at hl 0 rfl) ?_
  refine f_getp B hH hth (by decide) rfl wu_X9 1 (by decide) wf_X9_57 rfl rfl dX9_takeThing_181 ?_
  refine lv_aload_nQ B.1 B.2.1 dX9_takeThing_184 rfl (lv_at hl 2 rfl) ?_
  refine lv_aload_nQ B.1 B.2.1 dX9_takeThing_185 rfl (lv_at hl 1 rfl) ?_
  refine lv_aload_nQ B.1 B.2.1 dX9_takeThing_186 rfl (lv_at hl 3 rfl) ?_
  obtain ⟨a109, ea109, h⟩ := h
  have ka109 : kO σ a109 2 := g3 a109 ea109
  have h := h ka109
  refine W.eq (g2 := F0 m 187 ls [.ref a109, va_rf v1, va_rf v2, va_rf (gP σ th 1)]) (by rw [ea109]; rfl) ?_
  refine f_geti B hH ka109 (by decide) rfl wu_X2 3 (by decide) wf_X9_329 rfl rfl dX9_takeThing_187 ?_
  refine lv_aloadQ B.1 B.2.1 dX9_takeThing_190 (lv_at hl 4 rfl) ?_
  obtain ⟨a111, ea111, h⟩ := h
  have ka111 : kO σ a111 11 := (hYσ.get hth (by decide)) a111 ea111
  have h := h ka111
  refine W.eq (g2 := F0 m 192 ls [va_rf v4, .int (i32 (gI σ a109 3)), va_rf v1, va_rf v2, .ref a111]) (by rw [ea111]; rfl) ?_
  refine c_V B hH hl hc K.2.2.1 (C := RX11) (T := TX11) (N := 6) (ci := 11) (As := [va_rf v2, va_rf v1, .int (i32 (gI σ a109 3)), va_rf v4]) (ok_X11_accept hl9 K.2.1 σ a111 v2 v1 (gI σ a109 3) v4 g2 g1 (hGσ _ _) g4 ka111 hGσ hYσ h) wc_X9_332 4 hd_X11_accept ⟨Nat.le_trans (Nat.le_of_ble_eq_true rfl) K.2.2.2.1, Nat.le_trans (Nat.le_of_ble_eq_true rfl) K.2.2.2.2.1⟩ ka111.1 ka111.2 (by decide) rfl rfl (rest := []) rfl (Nat.le_of_ble_eq_true rfl) dX9_takeThing_192 (fun σ110 w hq => ?_) (fun σ9 E9 hx9 => hX σ9 E9 _ _ _ (tb_out K.2.2.2.2.2.1 rfl) hx9.1 hx9.2.1 hx9.2.2.1 (hE.trans hx9.2.2.2))
  obtain ⟨rfl, h, hGσ110, hYσ110, xσ110⟩ := hq
  have h := h xσ110
  intro H locs ls hH hl hc
  refine W.eq (g2 := F0 m 195 ls []) (rfl) ?_
  try dsimp only at h
  refine lv_aload_n B.1 B.2.1 dX9_takeThing_195 rfl (lv_at hl 0 rfl) ?_
  refine lv_aload_nQ B.1 B.2.1 dX9_takeThing_196 rfl (lv_at hl 1 rfl) ?_
  refine W.eq (g2 := F0 m 197 ls [va_rf v1, .ref th]) (rfl) ?_
  refine c_V B hH hl hc K.2.2.1 (C := RX9) (T := TX9) (N := 20) (ci := 9) (As := [va_rf v1]) (ok_X9_sendMade hl9 K.2.1 σ110 th v1 (g1.up xσ110) (hth.up xσ110) hGσ110 hYσ110 h) wc_X9_322 1 hd_X9_sendMade ⟨Nat.le_trans (Nat.le_of_ble_eq_true rfl) K.2.2.2.1, Nat.le_trans (Nat.le_of_ble_eq_true rfl) K.2.2.2.2.1⟩ (hth.up xσ110).1 (hth.up xσ110).2 (by decide) rfl rfl (rest := []) rfl (Nat.le_of_ble_eq_true rfl) dX9_takeThing_197 (fun σ112 w hq => ?_) (fun σ9 E9 hx9 => hX σ9 E9 _ _ _ (tb_out K.2.2.2.2.2.1 rfl) hx9.1 hx9.2.1 hx9.2.2.1 ((hE.trans xσ110).trans hx9.2.2.2))
  obtain ⟨rfl, h, hGσ112, hYσ112, xσ112⟩ := hq
  have h := h xσ112
  intro H locs ls hH hl hc
  refine W.eq (g2 := F0 m 200 ls []) (rfl) ?_
  try dsimp only at h
  exact a_X9_takeThing_200 K hQ hX hTh _ h hGσ112 hYσ112 ((hE.trans xσ110).trans xσ112) (hth.up (xσ110.trans xσ112)) _ _ _ hH (lv_sub (l' := [(0, .ref th)]) hl [0] rfl) hc
set_option maxRecDepth 20000 in
theorem a_X9_takeThing_170 {Q : Sg → Int → Prop} {X : Sg → String → Prop} {th : Nat} (K : MD l R p s m args c cX9_takeThing 5 RX9 D cA tys A n0 s0 11 223 []) (hQ : CQZ p l e R s m args below meth c cX9_takeThing D cA A n0 s0 QM σi Q) (hX : CX p l e R s m args below meth c 5 D cA A n0 s0 QM σi X) (hTh : CT p l e R s m args below meth c cX9_takeThing 5 D cA A n0 s0 QM σi RX9 X) : ∀ (σ : Sg) (v2 : Option Nat) (v4 : Option Nat) (g2 : tyV σ 5 v2) (g4 : tyV σ 0 v4), w_X9_takeThing_170 th Q X σ v2 v4 → RG σ → TY σ → Ext σi σ → kO σ th 9 → JJ p l e R s m args below meth c 5 D cA A n0 s0 QM σ 170 [(0, .ref th), (2, va_rf v2), (4, va_rf v4)] [] := by
  intro σ v2 v4 g2 g4 h hGσ hYσ hE hth H locs ls hH hl hc
  have B := K.1
  have hl9 := K.2.2.2.2.2.2
  unfold w_X9_takeThing_170 at h
  refine lv_aload_n B.1 B.2.1 dX9_takeThing_170 rfl (lv_at hl 0 rfl) ?_
  refine lv_aload_nQ B.1 B.2.1 dX9_takeThing_171 rfl (lv_at hl 1 rfl) ?_
  refine lv_aloadQ B.1 B.2.1 dX9_takeThing_172 (lv_at hl 2 rfl) ?_
  refine W.eq (g2 := F0 m 174 ls [va_rf v4, va_rf v2, .ref th]) (rfl) ?_
  refine c_V B hH hl hc K.2.2.1 (C := RX9) (T := TX9) (N := 20) (ci := 9) (As := [va_rf v2, va_rf v4]) (ok_X9_putOut hl9 K.2.1 σ th v2 v4 g2 g4 hth hGσ hYσ h) wc_X9_325 2 hd_X9_putOut ⟨Nat.le_trans (Nat.le_of_ble_eq_true rfl) K.2.2.2.1, Nat.le_trans (Nat.le_of_ble_eq_true rfl) K.2.2.2.2.1⟩ hth.1 hth.2 (by decide) rfl rfl (rest := []) rfl (Nat.le_of_ble_eq_true rfl) dX9_takeThing_174 (fun σ113 w hq => ?_) (fun σ9 E9 hx9 => hX σ9 E9 _ _ _ (tb_out K.2.2.2.2.2.1 rfl) hx9.1 hx9.2.1 hx9.2.2.1 (hE.trans hx9.2.2.2))
  obtain ⟨rfl, h, hGσ113, hYσ113, xσ113⟩ := hq
  have h := h xσ113
  intro H locs ls hH hl hc
  refine W.eq (g2 := F0 m 177 ls []) (rfl) ?_
  try dsimp only at h
  refine lv_goto (tgt := 200) B.1 B.2.1 dX9_takeThing_177 (by decide) ?_
  exact a_X9_takeThing_200 K hQ hX hTh _ h hGσ113 hYσ113 (hE.trans xσ113) (hth.up xσ113) _ _ _ hH (lv_sub (l' := [(0, .ref th)]) hl [0] rfl) hc
set_option maxRecDepth 20000 in
theorem a_X9_takeThing_161 {Q : Sg → Int → Prop} {X : Sg → String → Prop} {th : Nat} (K : MD l R p s m args c cX9_takeThing 5 RX9 D cA tys A n0 s0 11 223 []) (hQ : CQZ p l e R s m args below meth c cX9_takeThing D cA A n0 s0 QM σi Q) (hX : CX p l e R s m args below meth c 5 D cA A n0 s0 QM σi X) (hTh : CT p l e R s m args below meth c cX9_takeThing 5 D cA A n0 s0 QM σi RX9 X) : ∀ (σ : Sg) (v1 : Option Nat) (v2 : Option Nat) (v3 : Option Nat) (v4 : Option Nat) (g1 : tyV σ 10 v1) (g2 : tyV σ 5 v2) (g3 : tyV σ 2 v3) (g4 : tyV σ 0 v4), w_X9_takeThing_161 th Q X σ v1 v2 v3 v4 → RG σ → TY σ → Ext σi σ → kO σ th 9 → JJ p l e R s m args below meth c 5 D cA A n0 s0 QM σ 161 [(0, .ref th), (1, va_rf v1), (2, va_rf v2), (3, va_rf v3), (4, va_rf v4)] [] := by
  intro σ v1 v2 v3 v4 g1 g2 g3 g4 h hGσ hYσ hE hth H locs ls hH hl hc
  have B := K.1
  have hl9 := K.2.2.2.2.2.2
  unfold w_X9_takeThing_161 at h
  refine lv_aload_nQ B.1 B.2.1 dX9_takeThing_161 rfl (lv_at hl 2 rfl) ?_
  obtain ⟨a114, ea114, h⟩ := h
  have ka114 : kO σ a114 5 := g2 a114 ea114
  have h := h ka114
  refine W.eq (g2 := F0 m 162 ls [.ref a114]) (by rw [ea114]; rfl) ?_
  refine f_geti B hH ka114 (by decide) rfl wu_X5 6 (by decide) wf_X9_164 rfl rfl dX9_takeThing_162 ?_
  refine lv_bipush (v := i32 11) B.1 B.2.1 dX9_takeThing_165 (by decide) ?_
  refine lv_icmp_ne (tgt := 180) B.1 B.2.1 dX9_takeThing_167 (by decide) (fun h9 => ?_) (fun h9 => ?_)
  · rw [if_pos (fun q => h9 ((i32_eq (hGσ _ _) (by unfold rng; omega)).mpr q))] at h
    exact a_X9_takeThing_180 K hQ hX hTh _ _ _ _ _ g1 g2 g3 g4 h hGσ hYσ hE hth _ _ _ hH (lv_sub (l' := [(0, .ref th), (1, va_rf v1), (2, va_rf v2), (3, va_rf v3), (4, va_rf v4)]) hl [0, 1, 2, 3, 4] rfl) hc
  · rw [if_neg (fun q => q ((i32_eq (hGσ _ _) (by unfold rng; omega)).mp h9))] at h
    exact a_X9_takeThing_170 K hQ hX hTh _ _ _ g2 g4 h hGσ hYσ hE hth _ _ _ hH (lv_sub (l' := [(0, .ref th), (2, va_rf v2), (4, va_rf v4)]) hl [0, 2, 4] rfl) hc
set_option maxRecDepth 20000 in
theorem a_X9_takeThing_130 {Q : Sg → Int → Prop} {X : Sg → String → Prop} {th : Nat} (K : MD l R p s m args c cX9_takeThing 5 RX9 D cA tys A n0 s0 11 223 []) (hQ : CQZ p l e R s m args below meth c cX9_takeThing D cA A n0 s0 QM σi Q) (hX : CX p l e R s m args below meth c 5 D cA A n0 s0 QM σi X) (hTh : CT p l e R s m args below meth c cX9_takeThing 5 D cA A n0 s0 QM σi RX9 X) : ∀ (σ : Sg) (v1 : Option Nat) (v2 : Option Nat) (g1 : tyV σ 10 v1) (g2 : tyV σ 5 v2), w_X9_takeThing_130 th Q X σ v1 v2 → RG σ → TY σ → Ext σi σ → kO σ th 9 → JJ p l e R s m args below meth c 5 D cA A n0 s0 QM σ 130 [(0, .ref th), (1, va_rf v1), (2, va_rf v2)] [] := by
  intro σ v1 v2 g1 g2 h hGσ hYσ hE hth H locs ls hH hl hc
  have B := K.1
  have hl9 := K.2.2.2.2.2.2
  unfold w_X9_takeThing_130 at h
  refine lv_aload_n B.1 B.2.1 dX9_takeThing_130 rfl (lv_at hl 0 rfl) ?_
  refine f_getp B hH hth (by decide) rfl wu_X9 1 (by decide) wf_X9_57 rfl rfl dX9_takeThing_131 ?_
  refine lv_aload_nQ B.1 B.2.1 dX9_takeThing_134 rfl (lv_at hl 2 rfl) ?_
  refine lv_aload_nQ B.1 B.2.1 dX9_takeThing_135 rfl (lv_at hl 1 rfl) ?_
  refine lv_aload_nQ B.1 B.2.1 dX9_takeThing_136 rfl (lv_at hl 1 rfl) ?_
  obtain ⟨a115, ea115, h⟩ := h
  have ka115 : kO σ a115 10 := g1 a115 ea115
  have h := h ka115
  refine W.eq (g2 := F0 m 137 ls [.ref a115, va_rf v1, va_rf v2, va_rf (gP σ th 1)]) (by rw [ea115]; rfl) ?_
  refine f_getl B hH ka115 (by decide) rfl wu_X10 7 (by decide) wf_X9_127 rfl rfl dX9_takeThing_137 ?_
  obtain ⟨a117, ea117, h⟩ := h
  have ka117 : kO σ a117 11 := (hYσ.get hth (by decide)) a117 ea117
  have h := h ka117
  refine W.eq (g2 := F0 m 140 ls [.long (gJ σ a115 7), va_rf v1, va_rf v2, .ref a117]) (by rw [ea117]; rfl) ?_
  refine c_V B hH hl hc K.2.2.1 (C := RX11) (T := TX11) (N := 6) (ci := 11) (As := [va_rf v2, va_rf v1, .long (gJ σ a115 7)]) (ok_X11_advance hl9 K.2.1 σ a117 v2 v1 (gJ σ a115 7) g2 g1 ka117 hGσ hYσ h) wc_X9_318 3 hd_X11_advance ⟨Nat.le_trans (Nat.le_of_ble_eq_true rfl) K.2.2.2.1, Nat.le_trans (Nat.le_of_ble_eq_true rfl) K.2.2.2.2.1⟩ ka117.1 ka117.2 (by decide) rfl rfl (rest := []) rfl (Nat.le_of_ble_eq_true rfl) dX9_takeThing_140 (fun σ116 w hq => ?_) (fun σ9 E9 hx9 => hX σ9 E9 _ _ _ (tb_out K.2.2.2.2.2.1 rfl) hx9.1 hx9.2.1 hx9.2.2.1 (hE.trans hx9.2.2.2))
  obtain ⟨rfl, h, hGσ116, hYσ116, xσ116⟩ := hq
  have h := h xσ116
  intro H locs ls hH hl hc
  refine W.eq (g2 := F0 m 143 ls []) (rfl) ?_
  try dsimp only at h
  refine lv_aload_n B.1 B.2.1 dX9_takeThing_143 rfl (lv_at hl 0 rfl) ?_
  refine lv_aload_nQ B.1 B.2.1 dX9_takeThing_144 rfl (lv_at hl 1 rfl) ?_
  refine W.eq (g2 := F0 m 145 ls [va_rf v1, .ref th]) (rfl) ?_
  refine c_V B hH hl hc K.2.2.1 (C := RX9) (T := TX9) (N := 20) (ci := 9) (As := [va_rf v1]) (ok_X9_sendMade hl9 K.2.1 σ116 th v1 (g1.up xσ116) (hth.up xσ116) hGσ116 hYσ116 h) wc_X9_322 1 hd_X9_sendMade ⟨Nat.le_trans (Nat.le_of_ble_eq_true rfl) K.2.2.2.1, Nat.le_trans (Nat.le_of_ble_eq_true rfl) K.2.2.2.2.1⟩ (hth.up xσ116).1 (hth.up xσ116).2 (by decide) rfl rfl (rest := []) rfl (Nat.le_of_ble_eq_true rfl) dX9_takeThing_145 (fun σ118 w hq => ?_) (fun σ9 E9 hx9 => hX σ9 E9 _ _ _ (tb_out K.2.2.2.2.2.1 rfl) hx9.1 hx9.2.1 hx9.2.2.1 ((hE.trans xσ116).trans hx9.2.2.2))
  obtain ⟨rfl, h, hGσ118, hYσ118, xσ118⟩ := hq
  have h := h xσ118
  intro H locs ls hH hl hc
  refine W.eq (g2 := F0 m 148 ls []) (rfl) ?_
  try dsimp only at h
  refine lv_aload_n B.1 B.2.1 dX9_takeThing_148 rfl (lv_at hl 0 rfl) ?_
  refine lv_aload_nQ B.1 B.2.1 dX9_takeThing_149 rfl (lv_at hl 1 rfl) ?_
  refine lv_iconst (v := i32 1) B.1 B.2.1 dX9_takeThing_150 (by decide) ?_
  refine lv_aload_nQ B.1 B.2.1 dX9_takeThing_151 rfl (lv_at hl 1 rfl) ?_
  refine W.eq (g2 := F0 m 152 ls [.ref a115, .int (i32 1), va_rf v1, .ref th]) (by rw [ea115]; rfl) ?_
  refine f_getl B hH (ka115.up (xσ116.trans xσ118)) (by decide) rfl wu_X10 7 (by decide) wf_X9_127 rfl rfl dX9_takeThing_152 ?_
  refine W.eq (g2 := F0 m 155 ls [.long (gJ σ118 a115 7), .int (i32 1), va_rf v1, .ref th]) (rfl) ?_
  refine c_V B hH hl hc K.2.2.1 (C := RX9) (T := TX9) (N := 20) (ci := 9) (As := [va_rf v1, .int (i32 1), .long (gJ σ118 a115 7)]) (ok_X9_sendToAll hl9 K.2.1 σ118 th v1 1 (gJ σ118 a115 7) (g1.up (xσ116.trans xσ118)) (by unfold rng; omega) (hth.up (xσ116.trans xσ118)) hGσ118 hYσ118 h) wc_X9_134 3 hd_X9_sendToAll ⟨Nat.le_trans (Nat.le_of_ble_eq_true rfl) K.2.2.2.1, Nat.le_trans (Nat.le_of_ble_eq_true rfl) K.2.2.2.2.1⟩ (hth.up (xσ116.trans xσ118)).1 (hth.up (xσ116.trans xσ118)).2 (by decide) rfl rfl (rest := []) rfl (Nat.le_of_ble_eq_true rfl) dX9_takeThing_155 (fun σ119 w hq => ?_) (fun σ9 E9 hx9 => hX σ9 E9 _ _ _ (tb_out K.2.2.2.2.2.1 rfl) hx9.1 hx9.2.1 hx9.2.2.1 (((hE.trans xσ116).trans xσ118).trans hx9.2.2.2))
  obtain ⟨rfl, h, hGσ119, hYσ119, xσ119⟩ := hq
  have h := h xσ119
  intro H locs ls hH hl hc
  refine W.eq (g2 := F0 m 158 ls []) (rfl) ?_
  try dsimp only at h
  refine lv_goto (tgt := 200) B.1 B.2.1 dX9_takeThing_158 (by decide) ?_
  exact a_X9_takeThing_200 K hQ hX hTh _ h hGσ119 hYσ119 (((hE.trans xσ116).trans xσ118).trans xσ119) (hth.up (xσ116.trans (xσ118.trans xσ119))) _ _ _ hH (lv_sub (l' := [(0, .ref th)]) hl [0] rfl) hc
set_option maxRecDepth 20000 in
theorem a_X9_takeThing_104 {Q : Sg → Int → Prop} {X : Sg → String → Prop} {th : Nat} (K : MD l R p s m args c cX9_takeThing 5 RX9 D cA tys A n0 s0 11 223 []) (hQ : CQZ p l e R s m args below meth c cX9_takeThing D cA A n0 s0 QM σi Q) (hX : CX p l e R s m args below meth c 5 D cA A n0 s0 QM σi X) (hTh : CT p l e R s m args below meth c cX9_takeThing 5 D cA A n0 s0 QM σi RX9 X) : ∀ (σ : Sg) (v1 : Option Nat) (v2 : Option Nat) (v3 : Option Nat) (v4 : Option Nat) (g1 : tyV σ 10 v1) (g2 : tyV σ 5 v2) (g3 : tyV σ 2 v3) (g4 : tyV σ 0 v4), w_X9_takeThing_104 th Q X σ v1 v2 v3 v4 → RG σ → TY σ → Ext σi σ → kO σ th 9 → JJ p l e R s m args below meth c 5 D cA A n0 s0 QM σ 104 [(0, .ref th), (1, va_rf v1), (2, va_rf v2), (3, va_rf v3), (4, va_rf v4)] [] := by
  intro σ v1 v2 v3 v4 g1 g2 g3 g4 h hGσ hYσ hE hth H locs ls hH hl hc
  have B := K.1
  have hl9 := K.2.2.2.2.2.2
  unfold w_X9_takeThing_104 at h
  refine lv_aload_nQ B.1 B.2.1 dX9_takeThing_104 rfl (lv_at hl 3 rfl) ?_
  refine lv_aloadQ B.1 B.2.1 dX9_takeThing_105 (lv_at hl 4 rfl) ?_
  obtain ⟨a120, ea120, h⟩ := h
  have ka120 : kO σ a120 0 := g4 a120 ea120
  have h := h ka120
  refine W.eq (g2 := F0 m 107 ls [.ref a120, va_rf v3]) (by rw [ea120]; rfl) ?_
  refine f_getl B hH ka120 (by decide) rfl wu_X0 5 (by decide) wf_X9_311 rfl rfl dX9_takeThing_107 ?_
  obtain ⟨a121, ea121, h⟩ := h
  have ka121 : kO σ a121 2 := g3 a121 ea121
  have h := h ka121
  obtain ⟨σ122, eσ122⟩ : ∃ z, z = pJ σ a121 4 (gJ σ a120 5) := ⟨_, rfl⟩
  have h := h σ122 eσ122
  refine W.eq (g2 := F0 m 110 ls [.long (gJ σ a120 5), .ref a121]) (by rw [ea121]; rfl) ?_
  refine f_putl B hH ka121 (by decide) rfl wu_X2 tyX2 tyX2_ok nmX2 4 (by decide) wf_X9_314 rfl (ty := .long) rfl rfl rfl rfl rfl dX9_takeThing_110 (fun H locs hH => ?_)
  have hH : Hd D cA A s (pJ σ a121 4 (gJ σ a120 5)) H locs := hH
  rw [← eσ122] at hH
  have hGσ122 : RG σ122 := by rw [eσ122]; exact hGσ.pJ
  have hYσ122 : TY σ122 := by rw [eσ122]; exact hYσ.pJ
  have xσ122 : Ext σ σ122 := by rw [eσ122]; exact Ext.pJ
  have hc : CB n0 s0 σ122 := by rw [eσ122]; exact hc
  rw [show gc σ = gc σ122 by rw [eσ122]; try rfl, show gs σ = gs σ122 by rw [eσ122]; try rfl]
  refine lv_aload_n B.1 B.2.1 dX9_takeThing_113 rfl (lv_at hl 0 rfl) ?_
  refine f_getp B hH (hth.up xσ122) (by decide) rfl wu_X9 0 (by decide) wf_X9_48 rfl rfl dX9_takeThing_114 ?_
  refine lv_aloadQ B.1 B.2.1 dX9_takeThing_117 (lv_at hl 4 rfl) ?_
  obtain ⟨a124, ea124, h⟩ := h
  have ka124 : kO σ122 a124 8 := (hYσ122.get (hth.up xσ122) (by decide)) a124 ea124
  have h := h ka124
  refine W.eq (g2 := F0 m 119 ls [va_rf v4, .ref a124]) (by rw [ea124]; rfl) ?_
  refine c_V B hH hl hc K.2.2.1 (C := RX8) (T := TX8) (N := 3) (ci := 8) (As := [va_rf v4]) (ok_X8_release hl9 K.2.1 σ122 a124 v4 (g4.up xσ122) ka124 hGσ122 hYσ122 h) wc_X9_294 1 hd_X8_release ⟨Nat.le_trans (Nat.le_of_ble_eq_true rfl) K.2.2.2.1, Nat.le_trans (Nat.le_of_ble_eq_true rfl) K.2.2.2.2.1⟩ ka124.1 ka124.2 (by decide) rfl rfl (rest := []) rfl (Nat.le_of_ble_eq_true rfl) dX9_takeThing_119 (fun σ123 w hq => ?_) (fun σ9 E9 hx9 => hX σ9 E9 _ _ _ (tb_out K.2.2.2.2.2.1 rfl) hx9.1 hx9.2.1 hx9.2.2.1 ((hE.trans xσ122).trans hx9.2.2.2))
  obtain ⟨rfl, h, hGσ123, hYσ123, xσ123⟩ := hq
  have h := h xσ123
  intro H locs ls hH hl hc
  refine W.eq (g2 := F0 m 122 ls []) (rfl) ?_
  try dsimp only at h
  refine lv_aload_n B.1 B.2.1 dX9_takeThing_122 rfl (lv_at hl 0 rfl) ?_
  refine lv_aload_nQ B.1 B.2.1 dX9_takeThing_123 rfl (lv_at hl 1 rfl) ?_
  refine W.eq (g2 := F0 m 124 ls [va_rf v1, .ref th]) (rfl) ?_
  refine c_V B hH hl hc K.2.2.1 (C := RX9) (T := TX9) (N := 20) (ci := 9) (As := [va_rf v1]) (ok_X9_hasGrown hl9 K.2.1 σ123 th v1 (g1.up (xσ122.trans xσ123)) (hth.up (xσ122.trans xσ123)) hGσ123 hYσ123 h) wc_X9_315 1 hd_X9_hasGrown ⟨Nat.le_trans (Nat.le_of_ble_eq_true rfl) K.2.2.2.1, Nat.le_trans (Nat.le_of_ble_eq_true rfl) K.2.2.2.2.1⟩ (hth.up (xσ122.trans xσ123)).1 (hth.up (xσ122.trans xσ123)).2 (by decide) rfl rfl (rest := []) rfl (Nat.le_of_ble_eq_true rfl) dX9_takeThing_124 (fun σ125 w hq => ?_) (fun σ9 E9 hx9 => hX σ9 E9 _ _ _ (tb_out K.2.2.2.2.2.1 rfl) hx9.1 hx9.2.1 hx9.2.2.1 (((hE.trans xσ122).trans xσ123).trans hx9.2.2.2))
  obtain ⟨r126, rfl, ⟨gr126, gzr126⟩, h, hGσ125, hYσ125, xσ125⟩ := hq
  have h := h xσ125
  intro H locs ls hH hl hc
  refine W.eq (g2 := F0 m 127 ls [.int (i32 r126)]) (rfl) ?_
  try dsimp only at h
  refine lv_if_eq (tgt := 200) B.1 B.2.1 dX9_takeThing_127 (by decide) (fun h9 => ?_) (fun h9 => ?_)
  · rw [if_pos ((z_eq gr126).mp h9)] at h
    exact a_X9_takeThing_200 K hQ hX hTh _ h hGσ125 hYσ125 (((hE.trans xσ122).trans xσ123).trans xσ125) (hth.up (xσ122.trans (xσ123.trans xσ125))) _ _ _ hH (lv_sub (l' := [(0, .ref th)]) hl [0] rfl) hc
  · rw [if_neg (fun q => h9 ((z_eq gr126).mpr q))] at h
    exact a_X9_takeThing_130 K hQ hX hTh _ _ _ (g1.up (xσ122.trans (xσ123.trans xσ125))) (g2.up (xσ122.trans (xσ123.trans xσ125))) h hGσ125 hYσ125 (((hE.trans xσ122).trans xσ123).trans xσ125) (hth.up (xσ122.trans (xσ123.trans xσ125))) _ _ _ hH (lv_sub (l' := [(0, .ref th), (1, va_rf v1), (2, va_rf v2)]) hl [0, 1, 2] rfl) hc
set_option maxRecDepth 20000 in
theorem a_X9_takeThing_95 {Q : Sg → Int → Prop} {X : Sg → String → Prop} {th : Nat} (K : MD l R p s m args c cX9_takeThing 5 RX9 D cA tys A n0 s0 11 223 []) (hQ : CQZ p l e R s m args below meth c cX9_takeThing D cA A n0 s0 QM σi Q) (hX : CX p l e R s m args below meth c 5 D cA A n0 s0 QM σi X) (hTh : CT p l e R s m args below meth c cX9_takeThing 5 D cA A n0 s0 QM σi RX9 X) : ∀ (σ : Sg) (v1 : Option Nat) (v2 : Option Nat) (v3 : Option Nat) (v4 : Option Nat) (g1 : tyV σ 10 v1) (g2 : tyV σ 5 v2) (g3 : tyV σ 2 v3) (g4 : tyV σ 0 v4), w_X9_takeThing_95 th Q X σ v1 v2 v3 v4 → RG σ → TY σ → Ext σi σ → kO σ th 9 → JJ p l e R s m args below meth c 5 D cA A n0 s0 QM σ 95 [(0, .ref th), (1, va_rf v1), (2, va_rf v2), (3, va_rf v3), (4, va_rf v4)] [] := by
  intro σ v1 v2 v3 v4 g1 g2 g3 g4 h hGσ hYσ hE hth H locs ls hH hl hc
  have B := K.1
  have hl9 := K.2.2.2.2.2.2
  unfold w_X9_takeThing_95 at h
  refine lv_aloadQ B.1 B.2.1 dX9_takeThing_95 (lv_at hl 4 rfl) ?_
  obtain ⟨a127, ea127, h⟩ := h
  have ka127 : kO σ a127 0 := g4 a127 ea127
  have h := h ka127
  refine W.eq (g2 := F0 m 97 ls [.ref a127]) (by rw [ea127]; rfl) ?_
  refine f_geti B hH ka127 (by decide) rfl wu_X0 2 (by decide) wf_X9_291 rfl rfl dX9_takeThing_97 ?_
  refine lv_iconst (v := i32 1) B.1 B.2.1 dX9_takeThing_100 (by decide) ?_
  refine lv_icmp_ne (tgt := 161) B.1 B.2.1 dX9_takeThing_101 (by decide) (fun h9 => ?_) (fun h9 => ?_)
  · rw [if_pos (fun q => h9 ((i32_eq (hGσ _ _) (by unfold rng; omega)).mpr q))] at h
    exact a_X9_takeThing_161 K hQ hX hTh _ _ _ _ _ g1 g2 g3 g4 h hGσ hYσ hE hth _ _ _ hH (lv_sub (l' := [(0, .ref th), (1, va_rf v1), (2, va_rf v2), (3, va_rf v3), (4, va_rf v4)]) hl [0, 1, 2, 3, 4] rfl) hc
  · rw [if_neg (fun q => q ((i32_eq (hGσ _ _) (by unfold rng; omega)).mp h9))] at h
    exact a_X9_takeThing_104 K hQ hX hTh _ _ _ _ _ g1 g2 g3 g4 h hGσ hYσ hE hth _ _ _ hH (lv_sub (l' := [(0, .ref th), (1, va_rf v1), (2, va_rf v2), (3, va_rf v3), (4, va_rf v4)]) hl [0, 1, 2, 3, 4] rfl) hc
set_option maxRecDepth 20000 in
theorem a_X9_takeThing_80 {Q : Sg → Int → Prop} {X : Sg → String → Prop} {th : Nat} (K : MD l R p s m args c cX9_takeThing 5 RX9 D cA tys A n0 s0 11 223 []) (hQ : CQZ p l e R s m args below meth c cX9_takeThing D cA A n0 s0 QM σi Q) (hX : CX p l e R s m args below meth c 5 D cA A n0 s0 QM σi X) (hTh : CT p l e R s m args below meth c cX9_takeThing 5 D cA A n0 s0 QM σi RX9 X) : ∀ (σ : Sg) (v1 : Option Nat) (g1 : tyV σ 10 v1), w_X9_takeThing_80 th Q X σ v1 → RG σ → TY σ → Ext σi σ → kO σ th 9 → JJ p l e R s m args below meth c 5 D cA A n0 s0 QM σ 80 [(0, .ref th), (1, va_rf v1)] [] := by
  intro σ v1 g1 h hGσ hYσ hE hth H locs ls hH hl hc
  have B := K.1
  have hl9 := K.2.2.2.2.2.2
  unfold w_X9_takeThing_80 at h
  refine lv_aload_n B.1 B.2.1 dX9_takeThing_80 rfl (lv_at hl 0 rfl) ?_
  refine lv_aload_nQ B.1 B.2.1 dX9_takeThing_81 rfl (lv_at hl 1 rfl) ?_
  refine W.eq (g2 := F0 m 82 ls [va_rf v1, .ref th]) (rfl) ?_
  refine c_V B hH hl hc K.2.2.1 (C := RX9) (T := TX9) (N := 20) (ci := 9) (As := [va_rf v1]) (ok_X9_unblock hl9 K.2.1 σ th v1 g1 hth hGσ hYσ h) wc_X9_307 1 hd_X9_unblock ⟨Nat.le_trans (Nat.le_of_ble_eq_true rfl) K.2.2.2.1, Nat.le_trans (Nat.le_of_ble_eq_true rfl) K.2.2.2.2.1⟩ hth.1 hth.2 (by decide) rfl rfl (rest := []) rfl (Nat.le_of_ble_eq_true rfl) dX9_takeThing_82 (fun σ128 w hq => ?_) (fun σ9 E9 hx9 => hX σ9 E9 _ _ _ (tb_out K.2.2.2.2.2.1 rfl) hx9.1 hx9.2.1 hx9.2.2.1 (hE.trans hx9.2.2.2))
  obtain ⟨rfl, h, hGσ128, hYσ128, xσ128⟩ := hq
  have h := h xσ128
  intro H locs ls hH hl hc
  refine W.eq (g2 := F0 m 85 ls []) (rfl) ?_
  try dsimp only at h
  refine lv_aload_n B.1 B.2.1 dX9_takeThing_85 rfl (lv_at hl 0 rfl) ?_
  refine lv_aload_nQ B.1 B.2.1 dX9_takeThing_86 rfl (lv_at hl 1 rfl) ?_
  refine lv_iconst (v := i32 2) B.1 B.2.1 dX9_takeThing_87 (by decide) ?_
  refine lv_lconst (v := 0) B.1 B.2.1 dX9_takeThing_88 (by decide) ?_
  refine W.eq (g2 := F0 m 89 ls [.long 0, .int (i32 2), va_rf v1, .ref th]) (rfl) ?_
  refine c_V B hH hl hc K.2.2.1 (C := RX9) (T := TX9) (N := 20) (ci := 9) (As := [va_rf v1, .int (i32 2), .long 0]) (ok_X9_sendToAll hl9 K.2.1 σ128 th v1 2 0 (g1.up xσ128) (by unfold rng; omega) (hth.up xσ128) hGσ128 hYσ128 h) wc_X9_134 3 hd_X9_sendToAll ⟨Nat.le_trans (Nat.le_of_ble_eq_true rfl) K.2.2.2.1, Nat.le_trans (Nat.le_of_ble_eq_true rfl) K.2.2.2.2.1⟩ (hth.up xσ128).1 (hth.up xσ128).2 (by decide) rfl rfl (rest := []) rfl (Nat.le_of_ble_eq_true rfl) dX9_takeThing_89 (fun σ129 w hq => ?_) (fun σ9 E9 hx9 => hX σ9 E9 _ _ _ (tb_out K.2.2.2.2.2.1 rfl) hx9.1 hx9.2.1 hx9.2.2.1 ((hE.trans xσ128).trans hx9.2.2.2))
  obtain ⟨rfl, h, hGσ129, hYσ129, xσ129⟩ := hq
  have h := h xσ129
  intro H locs ls hH hl hc
  refine W.eq (g2 := F0 m 92 ls []) (rfl) ?_
  try dsimp only at h
  refine lv_goto (tgt := 200) B.1 B.2.1 dX9_takeThing_92 (by decide) ?_
  exact a_X9_takeThing_200 K hQ hX hTh _ h hGσ129 hYσ129 ((hE.trans xσ128).trans xσ129) (hth.up (xσ128.trans xσ129)) _ _ _ hH (lv_sub (l' := [(0, .ref th)]) hl [0] rfl) hc
set_option maxRecDepth 20000 in
theorem a_X9_takeThing_71 {Q : Sg → Int → Prop} {X : Sg → String → Prop} {th : Nat} (K : MD l R p s m args c cX9_takeThing 5 RX9 D cA tys A n0 s0 11 223 []) (hQ : CQZ p l e R s m args below meth c cX9_takeThing D cA A n0 s0 QM σi Q) (hX : CX p l e R s m args below meth c 5 D cA A n0 s0 QM σi X) (hTh : CT p l e R s m args below meth c cX9_takeThing 5 D cA A n0 s0 QM σi RX9 X) : ∀ (σ : Sg) (v1 : Option Nat) (v2 : Option Nat) (g1 : tyV σ 10 v1) (g2 : tyV σ 5 v2), w_X9_takeThing_71 th Q X σ v1 v2 → RG σ → TY σ → Ext σi σ → kO σ th 9 → JJ p l e R s m args below meth c 5 D cA A n0 s0 QM σ 71 [(0, .ref th), (1, va_rf v1), (2, va_rf v2)] [] := by
  intro σ v1 v2 g1 g2 h hGσ hYσ hE hth H locs ls hH hl hc
  have B := K.1
  have hl9 := K.2.2.2.2.2.2
  unfold w_X9_takeThing_71 at h
  refine lv_aload_n B.1 B.2.1 dX9_takeThing_71 rfl (lv_at hl 0 rfl) ?_
  refine lv_aload_nQ B.1 B.2.1 dX9_takeThing_72 rfl (lv_at hl 1 rfl) ?_
  refine lv_aload_nQ B.1 B.2.1 dX9_takeThing_73 rfl (lv_at hl 2 rfl) ?_
  refine W.eq (g2 := F0 m 74 ls [va_rf v2, va_rf v1, .ref th]) (rfl) ?_
  refine c_V B hH hl hc K.2.2.1 (C := RX9) (T := TX9) (N := 20) (ci := 9) (As := [va_rf v1, va_rf v2]) (ok_X9_takePart hl9 K.2.1 σ th v1 v2 g1 g2 hth hGσ hYσ h) wc_X9_304 2 hd_X9_takePart ⟨Nat.le_trans (Nat.le_of_ble_eq_true rfl) K.2.2.2.1, Nat.le_trans (Nat.le_of_ble_eq_true rfl) K.2.2.2.2.1⟩ hth.1 hth.2 (by decide) rfl rfl (rest := []) rfl (Nat.le_of_ble_eq_true rfl) dX9_takeThing_74 (fun σ130 w hq => ?_) (fun σ9 E9 hx9 => hX σ9 E9 _ _ _ (tb_out K.2.2.2.2.2.1 rfl) hx9.1 hx9.2.1 hx9.2.2.1 (hE.trans hx9.2.2.2))
  obtain ⟨r131, rfl, ⟨gr131, gzr131⟩, h, hGσ130, hYσ130, xσ130⟩ := hq
  have h := h xσ130
  intro H locs ls hH hl hc
  refine W.eq (g2 := F0 m 77 ls [.int (i32 r131)]) (rfl) ?_
  try dsimp only at h
  refine lv_if_eq (tgt := 200) B.1 B.2.1 dX9_takeThing_77 (by decide) (fun h9 => ?_) (fun h9 => ?_)
  · rw [if_pos ((z_eq gr131).mp h9)] at h
    exact a_X9_takeThing_200 K hQ hX hTh _ h hGσ130 hYσ130 (hE.trans xσ130) (hth.up xσ130) _ _ _ hH (lv_sub (l' := [(0, .ref th)]) hl [0] rfl) hc
  · rw [if_neg (fun q => h9 ((z_eq gr131).mpr q))] at h
    exact a_X9_takeThing_80 K hQ hX hTh _ _ (g1.up xσ130) h hGσ130 hYσ130 (hE.trans xσ130) (hth.up xσ130) _ _ _ hH (lv_sub (l' := [(0, .ref th), (1, va_rf v1)]) hl [0, 1] rfl) hc
set_option maxRecDepth 20000 in
theorem a_X9_takeThing_49 {Q : Sg → Int → Prop} {X : Sg → String → Prop} {th : Nat} (K : MD l R p s m args c cX9_takeThing 5 RX9 D cA tys A n0 s0 11 223 []) (hQ : CQZ p l e R s m args below meth c cX9_takeThing D cA A n0 s0 QM σi Q) (hX : CX p l e R s m args below meth c 5 D cA A n0 s0 QM σi X) (hTh : CT p l e R s m args below meth c cX9_takeThing 5 D cA A n0 s0 QM σi RX9 X) : ∀ (σ : Sg) (v1 : Option Nat) (v2 : Option Nat) (v3 : Option Nat) (v4 : Option Nat) (g1 : tyV σ 10 v1) (g2 : tyV σ 5 v2) (g3 : tyV σ 2 v3) (g4 : tyV σ 0 v4), w_X9_takeThing_49 th Q X σ v1 v2 v3 v4 → RG σ → TY σ → Ext σi σ → kO σ th 9 → JJ p l e R s m args below meth c 5 D cA A n0 s0 QM σ 49 [(0, .ref th), (1, va_rf v1), (2, va_rf v2), (3, va_rf v3), (4, va_rf v4)] [] := by
  intro σ v1 v2 v3 v4 g1 g2 g3 g4 h hGσ hYσ hE hth H locs ls hH hl hc
  have B := K.1
  have hl9 := K.2.2.2.2.2.2
  unfold w_X9_takeThing_49 at h
  refine lv_aload_n B.1 B.2.1 dX9_takeThing_49 rfl (lv_at hl 0 rfl) ?_
  refine f_getp B hH hth (by decide) rfl wu_X9 0 (by decide) wf_X9_48 rfl rfl dX9_takeThing_50 ?_
  refine lv_aloadQ B.1 B.2.1 dX9_takeThing_53 (lv_at hl 4 rfl) ?_
  obtain ⟨a133, ea133, h⟩ := h
  have ka133 : kO σ a133 8 := (hYσ.get hth (by decide)) a133 ea133
  have h := h ka133
  refine W.eq (g2 := F0 m 55 ls [va_rf v4, .ref a133]) (by rw [ea133]; rfl) ?_
  refine c_V B hH hl hc K.2.2.1 (C := RX8) (T := TX8) (N := 3) (ci := 8) (As := [va_rf v4]) (ok_X8_release hl9 K.2.1 σ a133 v4 g4 ka133 hGσ hYσ h) wc_X9_294 1 hd_X8_release ⟨Nat.le_trans (Nat.le_of_ble_eq_true rfl) K.2.2.2.1, Nat.le_trans (Nat.le_of_ble_eq_true rfl) K.2.2.2.2.1⟩ ka133.1 ka133.2 (by decide) rfl rfl (rest := []) rfl (Nat.le_of_ble_eq_true rfl) dX9_takeThing_55 (fun σ132 w hq => ?_) (fun σ9 E9 hx9 => hX σ9 E9 _ _ _ (tb_out K.2.2.2.2.2.1 rfl) hx9.1 hx9.2.1 hx9.2.2.1 (hE.trans hx9.2.2.2))
  obtain ⟨rfl, h, hGσ132, hYσ132, xσ132⟩ := hq
  have h := h xσ132
  intro H locs ls hH hl hc
  refine W.eq (g2 := F0 m 58 ls []) (rfl) ?_
  try dsimp only at h
  refine lv_aload_nQ B.1 B.2.1 dX9_takeThing_58 rfl (lv_at hl 3 rfl) ?_
  refine lv_iconst (v := i32 1) B.1 B.2.1 dX9_takeThing_59 (by decide) ?_
  obtain ⟨a134, ea134, h⟩ := h
  have ka134 : kO σ132 a134 2 := (g3.up xσ132) a134 ea134
  have h := h ka134
  obtain ⟨σ135, eσ135⟩ : ∃ z, z = pI σ132 a134 5 1 := ⟨_, rfl⟩
  have h := h σ135 eσ135
  refine W.eq (g2 := F0 m 60 ls [.int (i32 1), .ref a134]) (by rw [ea134]; rfl) ?_
  refine f_puti B hH ka134 (by decide) rfl wu_X2 tyX2 tyX2_ok nmX2 5 (by decide) wf_X9_298 rfl (ty := .boolean) rfl rfl rfl rfl rfl dX9_takeThing_60 (fun H locs hH => ?_)
  have hH : Hd D cA A s (pI σ132 a134 5 1) H locs := hH
  rw [← eσ135] at hH
  have hGσ135 : RG σ135 := by rw [eσ135]; exact hGσ132.pI (by unfold rng; omega)
  have hYσ135 : TY σ135 := by rw [eσ135]; exact hYσ132.pI
  have xσ135 : Ext σ132 σ135 := by rw [eσ135]; exact Ext.pI
  have hc : CB n0 s0 σ135 := by rw [eσ135]; exact hc
  rw [show gc σ132 = gc σ135 by rw [eσ135]; try rfl, show gs σ132 = gs σ135 by rw [eσ135]; try rfl]
  refine lv_aload_n B.1 B.2.1 dX9_takeThing_63 rfl (lv_at hl 0 rfl) ?_
  refine lv_aload_nQ B.1 B.2.1 dX9_takeThing_64 rfl (lv_at hl 1 rfl) ?_
  refine W.eq (g2 := F0 m 65 ls [va_rf v1, .ref th]) (rfl) ?_
  refine c_V B hH hl hc K.2.2.1 (C := RX9) (T := TX9) (N := 20) (ci := 9) (As := [va_rf v1]) (ok_X9_isBlocked hl9 K.2.1 σ135 th v1 (g1.up (xσ132.trans xσ135)) (hth.up (xσ132.trans xσ135)) hGσ135 hYσ135 h) wc_X9_301 1 hd_X9_isBlocked ⟨Nat.le_trans (Nat.le_of_ble_eq_true rfl) K.2.2.2.1, Nat.le_trans (Nat.le_of_ble_eq_true rfl) K.2.2.2.2.1⟩ (hth.up (xσ132.trans xσ135)).1 (hth.up (xσ132.trans xσ135)).2 (by decide) rfl rfl (rest := []) rfl (Nat.le_of_ble_eq_true rfl) dX9_takeThing_65 (fun σ136 w hq => ?_) (fun σ9 E9 hx9 => hX σ9 E9 _ _ _ (tb_out K.2.2.2.2.2.1 rfl) hx9.1 hx9.2.1 hx9.2.2.1 (((hE.trans xσ132).trans xσ135).trans hx9.2.2.2))
  obtain ⟨r137, rfl, ⟨gr137, gzr137⟩, h, hGσ136, hYσ136, xσ136⟩ := hq
  have h := h xσ136
  intro H locs ls hH hl hc
  refine W.eq (g2 := F0 m 68 ls [.int (i32 r137)]) (rfl) ?_
  try dsimp only at h
  refine lv_if_eq (tgt := 200) B.1 B.2.1 dX9_takeThing_68 (by decide) (fun h9 => ?_) (fun h9 => ?_)
  · rw [if_pos ((z_eq gr137).mp h9)] at h
    exact a_X9_takeThing_200 K hQ hX hTh _ h hGσ136 hYσ136 (((hE.trans xσ132).trans xσ135).trans xσ136) (hth.up (xσ132.trans (xσ135.trans xσ136))) _ _ _ hH (lv_sub (l' := [(0, .ref th)]) hl [0] rfl) hc
  · rw [if_neg (fun q => h9 ((z_eq gr137).mpr q))] at h
    exact a_X9_takeThing_71 K hQ hX hTh _ _ _ (g1.up (xσ132.trans (xσ135.trans xσ136))) (g2.up (xσ132.trans (xσ135.trans xσ136))) h hGσ136 hYσ136 (((hE.trans xσ132).trans xσ135).trans xσ136) (hth.up (xσ132.trans (xσ135.trans xσ136))) _ _ _ hH (lv_sub (l' := [(0, .ref th), (1, va_rf v1), (2, va_rf v2)]) hl [0, 1, 2] rfl) hc
set_option maxRecDepth 20000 in
theorem a_X9_takeThing_30 {Q : Sg → Int → Prop} {X : Sg → String → Prop} {th : Nat} (K : MD l R p s m args c cX9_takeThing 5 RX9 D cA tys A n0 s0 11 223 []) (hQ : CQZ p l e R s m args below meth c cX9_takeThing D cA A n0 s0 QM σi Q) (hX : CX p l e R s m args below meth c 5 D cA A n0 s0 QM σi X) (hTh : CT p l e R s m args below meth c cX9_takeThing 5 D cA A n0 s0 QM σi RX9 X) : ∀ (σ : Sg) (v1 : Option Nat) (v2 : Option Nat) (v3 : Option Nat) (v4 : Option Nat) (g1 : tyV σ 10 v1) (g2 : tyV σ 5 v2) (g3 : tyV σ 2 v3) (g4 : tyV σ 0 v4), w_X9_takeThing_30 th Q X σ v1 v2 v3 v4 → RG σ → TY σ → Ext σi σ → kO σ th 9 → JJ p l e R s m args below meth c 5 D cA A n0 s0 QM σ 30 [(0, .ref th), (1, va_rf v1), (2, va_rf v2), (3, va_rf v3), (4, va_rf v4)] [] := by
  intro σ v1 v2 v3 v4 g1 g2 g3 g4 h hGσ hYσ hE hth H locs ls hH hl hc
  have B := K.1
  have hl9 := K.2.2.2.2.2.2
  unfold w_X9_takeThing_30 at h
  refine lv_aload_nQ B.1 B.2.1 dX9_takeThing_30 rfl (lv_at hl 1 rfl) ?_
  refine lv_dup B.1 B.2.1 dX9_takeThing_31 (rf_cat _) ?_
  obtain ⟨a138, ea138, h⟩ := h
  have ka138 : kO σ a138 10 := g1 a138 ea138
  have h := h ka138
  refine W.eq (g2 := F0 m 32 ls [.ref a138, va_rf v1]) (by rw [ea138]; rfl) ?_
  refine f_geti B hH ka138 (by decide) rfl wu_X10 8 (by decide) wf_X9_261 rfl rfl dX9_takeThing_32 ?_
  refine lv_iconst (v := i32 1) B.1 B.2.1 dX9_takeThing_35 (by decide) ?_
  refine lv_iadd B.1 B.2.1 dX9_takeThing_36 ?_
  rw [i32_add]
  refine W.eq (g2 := F0 m 37 ls [.int (i32 (wr (gI σ a138 8 + 1))), va_rf v1]) (by rw [i32_wr]) ?_
  obtain ⟨σ139, eσ139⟩ : ∃ z, z = pI σ a138 8 (wr (gI σ a138 8 + 1)) := ⟨_, rfl⟩
  have h := h σ139 eσ139
  refine W.eq (g2 := F0 m 37 ls [.int (i32 (wr (gI σ a138 8 + 1))), .ref a138]) (by rw [ea138]; rfl) ?_
  refine f_puti B hH ka138 (by decide) rfl wu_X10 tyX10 tyX10_ok nmX10 8 (by decide) wf_X9_261 rfl (ty := .int) rfl rfl rfl rfl rfl dX9_takeThing_37 (fun H locs hH => ?_)
  have hH : Hd D cA A s (pI σ a138 8 (wr (gI σ a138 8 + 1))) H locs := hH
  rw [← eσ139] at hH
  have hGσ139 : RG σ139 := by rw [eσ139]; exact hGσ.pI (rng_wr _)
  have hYσ139 : TY σ139 := by rw [eσ139]; exact hYσ.pI
  have xσ139 : Ext σ σ139 := by rw [eσ139]; exact Ext.pI
  have hc : CB n0 s0 σ139 := by rw [eσ139]; exact hc
  rw [show gc σ = gc σ139 by rw [eσ139]; try rfl, show gs σ = gs σ139 by rw [eσ139]; try rfl]
  refine lv_aloadQ B.1 B.2.1 dX9_takeThing_40 (lv_at hl 4 rfl) ?_
  obtain ⟨a140, ea140, h⟩ := h
  have ka140 : kO σ139 a140 0 := (g4.up xσ139) a140 ea140
  have h := h ka140
  refine W.eq (g2 := F0 m 42 ls [.ref a140]) (by rw [ea140]; rfl) ?_
  refine f_geti B hH ka140 (by decide) rfl wu_X0 2 (by decide) wf_X9_291 rfl rfl dX9_takeThing_42 ?_
  refine lv_iconst (v := i32 2) B.1 B.2.1 dX9_takeThing_45 (by decide) ?_
  refine lv_icmp_ne (tgt := 95) B.1 B.2.1 dX9_takeThing_46 (by decide) (fun h9 => ?_) (fun h9 => ?_)
  · rw [if_pos (fun q => h9 ((i32_eq (hGσ139 _ _) (by unfold rng; omega)).mpr q))] at h
    exact a_X9_takeThing_95 K hQ hX hTh _ _ _ _ _ (g1.up xσ139) (g2.up xσ139) (g3.up xσ139) (g4.up xσ139) h hGσ139 hYσ139 (hE.trans xσ139) (hth.up xσ139) _ _ _ hH (lv_sub (l' := [(0, .ref th), (1, va_rf v1), (2, va_rf v2), (3, va_rf v3), (4, va_rf v4)]) hl [0, 1, 2, 3, 4] rfl) hc
  · rw [if_neg (fun q => q ((i32_eq (hGσ139 _ _) (by unfold rng; omega)).mp h9))] at h
    exact a_X9_takeThing_49 K hQ hX hTh _ _ _ _ _ (g1.up xσ139) (g2.up xσ139) (g3.up xσ139) (g4.up xσ139) h hGσ139 hYσ139 (hE.trans xσ139) (hth.up xσ139) _ _ _ hH (lv_sub (l' := [(0, .ref th), (1, va_rf v1), (2, va_rf v2), (3, va_rf v3), (4, va_rf v4)]) hl [0, 1, 2, 3, 4] rfl) hc
set_option maxRecDepth 20000 in
theorem a_X9_takeThing_28 {Q : Sg → Int → Prop} {X : Sg → String → Prop} {th : Nat} (K : MD l R p s m args c cX9_takeThing 5 RX9 D cA tys A n0 s0 11 223 []) (hQ : CQZ p l e R s m args below meth c cX9_takeThing D cA A n0 s0 QM σi Q) (hX : CX p l e R s m args below meth c 5 D cA A n0 s0 QM σi X) (hTh : CT p l e R s m args below meth c cX9_takeThing 5 D cA A n0 s0 QM σi RX9 X) : ∀ (σ : Sg), w_X9_takeThing_28 th Q X σ → RG σ → TY σ → Ext σi σ → kO σ th 9 → JJ p l e R s m args below meth c 5 D cA A n0 s0 QM σ 28 [(0, .ref th)] [] := by
  intro σ h hGσ hYσ hE hth H locs ls hH hl hc
  have B := K.1
  have hl9 := K.2.2.2.2.2.2
  unfold w_X9_takeThing_28 at h
  refine lv_iconst (v := i32 0) B.1 B.2.1 dX9_takeThing_28 (by decide) ?_
  exact hQ _ _ _ _ _ _ (by unfold rng; omega) (Or.inl rfl) dX9_takeThing_29 hH hc h hGσ hYσ hE
set_option maxRecDepth 20000 in
theorem a_X9_takeThing_21 {Q : Sg → Int → Prop} {X : Sg → String → Prop} {th : Nat} (K : MD l R p s m args c cX9_takeThing 5 RX9 D cA tys A n0 s0 11 223 []) (hQ : CQZ p l e R s m args below meth c cX9_takeThing D cA A n0 s0 QM σi Q) (hX : CX p l e R s m args below meth c 5 D cA A n0 s0 QM σi X) (hTh : CT p l e R s m args below meth c cX9_takeThing 5 D cA A n0 s0 QM σi RX9 X) : ∀ (σ : Sg) (v1 : Option Nat) (v2 : Option Nat) (v3 : Option Nat) (u0 : Option Nat) (g1 : tyV σ 10 v1) (g2 : tyV σ 5 v2) (g3 : tyV σ 2 v3) (gu0 : tyV σ 0 u0), w_X9_takeThing_21 th Q X σ v1 v2 v3 u0 → RG σ → TY σ → Ext σi σ → kO σ th 9 → JJ p l e R s m args below meth c 5 D cA A n0 s0 QM σ 21 [(0, .ref th), (1, va_rf v1), (2, va_rf v2), (3, va_rf v3)] [va_rf u0] := by
  intro σ v1 v2 v3 u0 g1 g2 g3 gu0 h hGσ hYσ hE hth H locs ls hH hl hc
  have B := K.1
  have hl9 := K.2.2.2.2.2.2
  unfold w_X9_takeThing_21 at h
  refine lv_astoreQ (lv' := [(4, va_rf u0), (0, .ref th), (1, va_rf v1), (2, va_rf v2), (3, va_rf v3)]) B.1 B.2.1 dX9_takeThing_21 hl (by decide) (by generalize v3 = w9; cases w9 <;> rfl) (fun ls hl => ?_)
  refine lv_aloadQ B.1 B.2.1 dX9_takeThing_23 (lv_at hl 0 rfl) ?_
  refine lv_ifnonnullQ (tgt := 30) B.1 B.2.1 dX9_takeThing_25 (by decide) (fun h9 => ?_) (fun h9 => ?_)
  · rw [if_pos (h9)] at h
    exact a_X9_takeThing_30 K hQ hX hTh _ _ _ _ _ g1 g2 g3 gu0 h hGσ hYσ hE hth _ _ _ hH (lv_sub (l' := [(0, .ref th), (1, va_rf v1), (2, va_rf v2), (3, va_rf v3), (4, va_rf u0)]) hl [1, 2, 3, 4, 0] rfl) hc
  · rw [if_neg (h9)] at h
    exact a_X9_takeThing_28 K hQ hX hTh _ h hGσ hYσ hE hth _ _ _ hH (lv_sub (l' := [(0, .ref th)]) hl [1] rfl) hc
set_option maxRecDepth 20000 in
theorem a_X9_takeThing_14 {Q : Sg → Int → Prop} {X : Sg → String → Prop} {th : Nat} (K : MD l R p s m args c cX9_takeThing 5 RX9 D cA tys A n0 s0 11 223 []) (hQ : CQZ p l e R s m args below meth c cX9_takeThing D cA A n0 s0 QM σi Q) (hX : CX p l e R s m args below meth c 5 D cA A n0 s0 QM σi X) (hTh : CT p l e R s m args below meth c cX9_takeThing 5 D cA A n0 s0 QM σi RX9 X) : ∀ (σ : Sg) (v1 : Option Nat) (v2 : Option Nat) (v3 : Option Nat) (g1 : tyV σ 10 v1) (g2 : tyV σ 5 v2) (g3 : tyV σ 2 v3), w_X9_takeThing_14 th Q X σ v1 v2 v3 → RG σ → TY σ → Ext σi σ → kO σ th 9 → JJ p l e R s m args below meth c 5 D cA A n0 s0 QM σ 14 [(0, .ref th), (1, va_rf v1), (2, va_rf v2), (3, va_rf v3)] [] := by
  intro σ v1 v2 v3 g1 g2 g3 h hGσ hYσ hE hth H locs ls hH hl hc
  have B := K.1
  have hl9 := K.2.2.2.2.2.2
  unfold w_X9_takeThing_14 at h
  refine lv_aload_nQ B.1 B.2.1 dX9_takeThing_14 rfl (lv_at hl 3 rfl) ?_
  obtain ⟨a141, ea141, h⟩ := h
  have ka141 : kO σ a141 2 := g3 a141 ea141
  have h := h ka141
  refine W.eq (g2 := F0 m 15 ls [.ref a141]) (by rw [ea141]; rfl) ?_
  refine f_getp B hH ka141 (by decide) rfl wu_X2 0 (by decide) wf_X9_148 rfl rfl dX9_takeThing_15 ?_
  obtain ⟨a144, ea144, h⟩ := h
  have ka144 : kO σ a144 1 := (hYσ.get ka141 (by decide)) a144 ea144
  have h := h ka144
  refine W.eq (g2 := F0 m 18 ls [.ref a144]) (by rw [ea144]; rfl) ?_
  refine c_V B hH hl hc K.2.2.1 (C := RX1) (T := TX1) (N := 3) (ci := 1) (As := []) (ok_X1_takeFirst hl9 K.2.1 σ a144 ka144 hGσ hYσ h) wc_X9_287 0 hd_X1_takeFirst ⟨Nat.le_trans (Nat.le_of_ble_eq_true rfl) K.2.2.2.1, Nat.le_trans (Nat.le_of_ble_eq_true rfl) K.2.2.2.2.1⟩ ka144.1 ka144.2 (by decide) rfl rfl (rest := []) rfl (Nat.le_of_ble_eq_true rfl) dX9_takeThing_18 (fun σ142 w hq => ?_) (fun σ9 E9 hx9 => hX σ9 E9 _ _ _ (tb_out K.2.2.2.2.2.1 rfl) hx9.1 hx9.2.1 hx9.2.2.1 (hE.trans hx9.2.2.2))
  obtain ⟨r143, rfl, tr143, h, hGσ142, hYσ142, xσ142⟩ := hq
  have h := h xσ142 tr143
  intro H locs ls hH hl hc
  refine W.eq (g2 := F0 m 21 ls [va_rf r143]) (rfl) ?_
  try dsimp only at h
  exact a_X9_takeThing_21 K hQ hX hTh _ _ _ _ _ (g1.up xσ142) (g2.up xσ142) (g3.up xσ142) tr143 h hGσ142 hYσ142 (hE.trans xσ142) (hth.up xσ142) _ _ _ hH (lv_sub (l' := [(0, .ref th), (1, va_rf v1), (2, va_rf v2), (3, va_rf v3)]) hl [0, 1, 2, 3] rfl) hc
set_option maxRecDepth 20000 in
theorem a_X9_takeThing_10 {Q : Sg → Int → Prop} {X : Sg → String → Prop} {th : Nat} (K : MD l R p s m args c cX9_takeThing 5 RX9 D cA tys A n0 s0 11 223 []) (hQ : CQZ p l e R s m args below meth c cX9_takeThing D cA A n0 s0 QM σi Q) (hX : CX p l e R s m args below meth c 5 D cA A n0 s0 QM σi X) (hTh : CT p l e R s m args below meth c cX9_takeThing 5 D cA A n0 s0 QM σi RX9 X) : ∀ (σ : Sg) (v1 : Option Nat) (v2 : Option Nat) (v3 : Option Nat) (g1 : tyV σ 10 v1) (g2 : tyV σ 5 v2) (g3 : tyV σ 2 v3), w_X9_takeThing_10 th Q X σ v1 v2 v3 → RG σ → TY σ → Ext σi σ → kO σ th 9 → JJ p l e R s m args below meth c 5 D cA A n0 s0 QM σ 10 [(0, .ref th), (1, va_rf v1), (2, va_rf v2), (3, va_rf v3)] [] := by
  intro σ v1 v2 v3 g1 g2 g3 h hGσ hYσ hE hth H locs ls hH hl hc
  have B := K.1
  have hl9 := K.2.2.2.2.2.2
  unfold w_X9_takeThing_10 at h
  refine lv_null B.1 B.2.1 dX9_takeThing_10 ?_
  refine lv_goto (tgt := 21) B.1 B.2.1 dX9_takeThing_11 (by decide) ?_
  exact a_X9_takeThing_21 K hQ hX hTh _ _ _ _ _ g1 g2 g3 (tyn _ _) h hGσ hYσ hE hth _ _ _ hH (lv_sub (l' := [(0, .ref th), (1, va_rf v1), (2, va_rf v2), (3, va_rf v3)]) hl [0, 1, 2, 3] rfl) hc
set_option maxRecDepth 20000 in
theorem a_X9_takeThing_0 {Q : Sg → Int → Prop} {X : Sg → String → Prop} {th : Nat} (K : MD l R p s m args c cX9_takeThing 5 RX9 D cA tys A n0 s0 11 223 []) (hQ : CQZ p l e R s m args below meth c cX9_takeThing D cA A n0 s0 QM σi Q) (hX : CX p l e R s m args below meth c 5 D cA A n0 s0 QM σi X) (hTh : CT p l e R s m args below meth c cX9_takeThing 5 D cA A n0 s0 QM σi RX9 X) : ∀ (σ : Sg) (v1 : Option Nat) (v2 : Option Nat) (g1 : tyV σ 10 v1) (g2 : tyV σ 5 v2), w_X9_takeThing_0 th Q X σ v1 v2 → RG σ → TY σ → Ext σi σ → kO σ th 9 → JJ p l e R s m args below meth c 5 D cA A n0 s0 QM σ 0 [(0, .ref th), (1, va_rf v1), (2, va_rf v2)] [] := by
  intro σ v1 v2 g1 g2 h hGσ hYσ hE hth H locs ls hH hl hc
  have B := K.1
  have hl9 := K.2.2.2.2.2.2
  unfold w_X9_takeThing_0 at h
  refine lv_aload_n B.1 B.2.1 dX9_takeThing_0 rfl (lv_at hl 0 rfl) ?_
  refine lv_aload_nQ B.1 B.2.1 dX9_takeThing_1 rfl (lv_at hl 1 rfl) ?_
  refine W.eq (g2 := F0 m 2 ls [va_rf v1, .ref th]) (rfl) ?_
  refine c_V B hH hl hc K.2.2.1 (C := RX9) (T := TX9) (N := 20) (ci := 9) (As := [va_rf v1]) (ok_X9_nextChannel hl9 K.2.1 σ th v1 g1 hth hGσ hYσ h) wc_X9_283 1 hd_X9_nextChannel ⟨Nat.le_trans (Nat.le_of_ble_eq_true rfl) K.2.2.2.1, Nat.le_trans (Nat.le_of_ble_eq_true rfl) K.2.2.2.2.1⟩ hth.1 hth.2 (by decide) rfl rfl (rest := []) rfl (Nat.le_of_ble_eq_true rfl) dX9_takeThing_2 (fun σ145 w hq => ?_) (fun σ9 E9 hx9 => hX σ9 E9 _ _ _ (tb_out K.2.2.2.2.2.1 rfl) hx9.1 hx9.2.1 hx9.2.2.1 (hE.trans hx9.2.2.2))
  obtain ⟨r146, rfl, tr146, h, hGσ145, hYσ145, xσ145⟩ := hq
  have h := h xσ145 tr146
  intro H locs ls hH hl hc
  refine W.eq (g2 := F0 m 5 ls [va_rf r146]) (rfl) ?_
  try dsimp only at h
  refine lv_astore_nQ (lv' := [(3, va_rf r146), (0, .ref th), (1, va_rf v1), (2, va_rf v2)]) B.1 B.2.1 dX9_takeThing_5 rfl hl (by decide) (by generalize v2 = w9; cases w9 <;> rfl) (fun ls hl => ?_)
  refine lv_aload_nQ B.1 B.2.1 dX9_takeThing_6 rfl (lv_at hl 0 rfl) ?_
  refine lv_ifnonnullQ (tgt := 14) B.1 B.2.1 dX9_takeThing_7 (by decide) (fun h9 => ?_) (fun h9 => ?_)
  · rw [if_pos (h9)] at h
    exact a_X9_takeThing_14 K hQ hX hTh _ _ _ _ (g1.up xσ145) (g2.up xσ145) tr146 h hGσ145 hYσ145 (hE.trans xσ145) (hth.up xσ145) _ _ _ hH (lv_sub (l' := [(0, .ref th), (1, va_rf v1), (2, va_rf v2), (3, va_rf r146)]) hl [1, 2, 3, 0] rfl) hc
  · rw [if_neg (h9)] at h
    exact a_X9_takeThing_10 K hQ hX hTh _ _ _ _ (g1.up xσ145) (g2.up xσ145) tr146 h hGσ145 hYσ145 (hE.trans xσ145) (hth.up xσ145) _ _ _ hH (lv_sub (l' := [(0, .ref th), (1, va_rf v1), (2, va_rf v2), (3, va_rf r146)]) hl [1, 2, 3, 0] rfl) hc
theorem ok_X9_takeThing (hl0 : l.stackTraces = false) (hT : TyC cA tys) {Q : Sg → Int → Prop} {X : Sg → String → Prop} (σ : Sg) (th : Nat) (v1 : Option Nat) (v2 : Option Nat) (g1 : tyV σ 10 v1) (g2 : tyV σ 5 v2) (hth : kO σ th 9) (hG : RG σ) (hY : TY σ) (h : wp_X9_takeThing th v1 v2 σ Q X) : Ok l D cA tys A yX9_takeThing (.code yX9_takeThing cX9_takeThing 5 (some .boolean)) 11 223 [.ref th, va_rf v1, va_rf v2] σ (QcZ σ Q) (QxC σ X) := by
  unfold wp_X9_takeThing at h
  exact oc_Z hl0 (by decide) (by cases v1 <;> cases v2 <;> exact Nat.le_of_ble_eq_true rfl) hT (fun p e R s m args below meth c K hQ hX hTh H locs ls hH hl hc => a_X9_takeThing_0 K hQ hX hTh σ v1 v2 g1 g2 h hG hY (Ext.rfl' σ) hth H locs ls hH (lv_sub (l' := [(0, .ref th), (1, va_rf v1), (2, va_rf v2)]) hl [0, 1, 2] (by cases v1 <;> cases v2 <;> rfl)) hc)
theorem dX9_unload_0 : decode cX9_unload 0 = .ok (.aload_n 1, 1) := by decide +kernel
theorem dX9_unload_1 : decode cX9_unload 1 = .ok (.getfield 145, 3) := by decide +kernel
theorem dX9_unload_4 : decode cX9_unload 4 = .ok (.getfield 234, 3) := by decide +kernel
theorem dX9_unload_7 : decode cX9_unload 7 = .ok (.astore_n 2, 1) := by decide +kernel
theorem dX9_unload_8 : decode cX9_unload 8 = .ok (.aload_n 2, 1) := by decide +kernel
theorem dX9_unload_9 : decode cX9_unload 9 = .ok (.ifnull 87, 3) := by decide +kernel
theorem dX9_unload_12 : decode cX9_unload 12 = .ok (.aload_n 0, 1) := by decide +kernel
theorem dX9_unload_13 : decode cX9_unload 13 = .ok (.getfield 26, 3) := by decide +kernel
theorem dX9_unload_16 : decode cX9_unload 16 = .ok (.aload_n 2, 1) := by decide +kernel
theorem dX9_unload_17 : decode cX9_unload 17 = .ok (.getfield 335, 3) := by decide +kernel
theorem dX9_unload_20 : decode cX9_unload 20 = .ok (.aaload, 1) := by decide +kernel
theorem dX9_unload_21 : decode cX9_unload 21 = .ok (.astore_n 3, 1) := by decide +kernel
theorem dX9_unload_22 : decode cX9_unload 22 = .ok (.aload_n 3, 1) := by decide +kernel
theorem dX9_unload_23 : decode cX9_unload 23 = .ok (.getfield 148, 3) := by decide +kernel
theorem dX9_unload_26 : decode cX9_unload 26 = .ok (.getfield 338, 3) := by decide +kernel
theorem dX9_unload_29 : decode cX9_unload 29 = .ok (.aload_n 0, 1) := by decide +kernel
theorem dX9_unload_30 : decode cX9_unload 30 = .ok (.getfield 105, 3) := by decide +kernel
theorem dX9_unload_33 : decode cX9_unload 33 = .ok (.if_icmp .lt 5, 3) := by decide +kernel
theorem dX9_unload_36 : decode cX9_unload 36 = .ok (.iconst 0, 1) := by decide +kernel
theorem dX9_unload_37 : decode cX9_unload 37 = .ok (.ireturn, 1) := by decide +kernel
theorem dX9_unload_38 : decode cX9_unload 38 = .ok (.aload_n 1, 1) := by decide +kernel
theorem dX9_unload_39 : decode cX9_unload 39 = .ok (.getfield 145, 3) := by decide +kernel
theorem dX9_unload_42 : decode cX9_unload 42 = .ok (.invokevirtual 287, 3) := by decide +kernel
theorem dX9_unload_45 : decode cX9_unload 45 = .ok (.pop, 1) := by decide +kernel
theorem dX9_unload_46 : decode cX9_unload 46 = .ok (.aload_n 0, 1) := by decide +kernel
theorem dX9_unload_47 : decode cX9_unload 47 = .ok (.dup, 1) := by decide +kernel
theorem dX9_unload_48 : decode cX9_unload 48 = .ok (.getfield 151, 3) := by decide +kernel
theorem dX9_unload_51 : decode cX9_unload 51 = .ok (.iconst 1, 1) := by decide +kernel
theorem dX9_unload_52 : decode cX9_unload 52 = .ok (.isub, 1) := by decide +kernel
theorem dX9_unload_53 : decode cX9_unload 53 = .ok (.putfield 151, 3) := by decide +kernel
theorem dX9_unload_56 : decode cX9_unload 56 = .ok (.aload_n 3, 1) := by decide +kernel
theorem dX9_unload_57 : decode cX9_unload 57 = .ok (.getfield 148, 3) := by decide +kernel
theorem dX9_unload_60 : decode cX9_unload 60 = .ok (.aload_n 2, 1) := by decide +kernel
theorem dX9_unload_61 : decode cX9_unload 61 = .ok (.invokevirtual 341, 3) := by decide +kernel
theorem dX9_unload_64 : decode cX9_unload 64 = .ok (.aload_n 3, 1) := by decide +kernel
theorem dX9_unload_65 : decode cX9_unload 65 = .ok (.dup, 1) := by decide +kernel
theorem dX9_unload_66 : decode cX9_unload 66 = .ok (.getfield 344, 3) := by decide +kernel
theorem dX9_unload_69 : decode cX9_unload 69 = .ok (.aload_n 2, 1) := by decide +kernel
theorem dX9_unload_70 : decode cX9_unload 70 = .ok (.getfield 291, 3) := by decide +kernel
theorem dX9_unload_73 : decode cX9_unload 73 = .ok (.ifCond .ne 7, 3) := by decide +kernel
theorem dX9_unload_76 : decode cX9_unload 76 = .ok (.iconst 1, 1) := by decide +kernel
theorem dX9_unload_77 : decode cX9_unload 77 = .ok (.goto 4, 3) := by decide +kernel
theorem dX9_unload_80 : decode cX9_unload 80 = .ok (.iconst 0, 1) := by decide +kernel
theorem dX9_unload_81 : decode cX9_unload 81 = .ok (.iadd, 1) := by decide +kernel
theorem dX9_unload_82 : decode cX9_unload 82 = .ok (.putfield 344, 3) := by decide +kernel
theorem dX9_unload_85 : decode cX9_unload 85 = .ok (.aload_n 1, 1) := by decide +kernel
theorem dX9_unload_86 : decode cX9_unload 86 = .ok (.getfield 145, 3) := by decide +kernel
theorem dX9_unload_89 : decode cX9_unload 89 = .ok (.getfield 234, 3) := by decide +kernel
theorem dX9_unload_92 : decode cX9_unload 92 = .ok (.astore_n 2, 1) := by decide +kernel
theorem dX9_unload_93 : decode cX9_unload 93 = .ok (.goto (-85), 3) := by decide +kernel
theorem dX9_unload_96 : decode cX9_unload 96 = .ok (.iconst 1, 1) := by decide +kernel
theorem dX9_unload_97 : decode cX9_unload 97 = .ok (.ireturn, 1) := by decide +kernel
set_option maxRecDepth 20000 in
theorem a_X9_unload_96 {Q : Sg → Int → Prop} {X : Sg → String → Prop} {th : Nat} (K : MD l R p s m args c cX9_unload 4 RX9 D cA tys A n0 s0 2 42 []) (hQ : CQZ p l e R s m args below meth c cX9_unload D cA A n0 s0 QM σi Q) (hX : CX p l e R s m args below meth c 4 D cA A n0 s0 QM σi X) (hTh : CT p l e R s m args below meth c cX9_unload 4 D cA A n0 s0 QM σi RX9 X) : ∀ (σ : Sg), w_X9_unload_96 th Q X σ → RG σ → TY σ → Ext σi σ → kO σ th 9 → JJ p l e R s m args below meth c 4 D cA A n0 s0 QM σ 96 [(0, .ref th)] [] := by
  intro σ h hGσ hYσ hE hth H locs ls hH hl hc
  have B := K.1
  have hl9 := K.2.2.2.2.2.2
  unfold w_X9_unload_96 at h
  refine lv_iconst (v := i32 1) B.1 B.2.1 dX9_unload_96 (by decide) ?_
  exact hQ _ _ _ _ _ _ (by unfold rng; omega) (Or.inr rfl) dX9_unload_97 hH hc h hGσ hYσ hE
set_option maxRecDepth 20000 in
theorem a_X9_unload_81 {Q : Sg → Int → Prop} {X : Sg → String → Prop} {th : Nat} (K : MD l R p s m args c cX9_unload 4 RX9 D cA tys A n0 s0 2 42 []) (hQ : CQZ p l e R s m args below meth c cX9_unload D cA A n0 s0 QM σi Q) (hX : CX p l e R s m args below meth c 4 D cA A n0 s0 QM σi X) (hTh : CT p l e R s m args below meth c cX9_unload 4 D cA A n0 s0 QM σi RX9 X) {K8 : Sg → Option Nat → Option Nat → Prop} (hK8 : ∀ (σ : Sg) (v1 : Option Nat) (v2 : Option Nat) (g1 : tyV σ 10 v1) (g2 : tyV σ 0 v2), K8 σ v1 v2 → RG σ → TY σ → Ext σi σ → kO σ th 9 → JJ p l e R s m args below meth c 4 D cA A n0 s0 QM σ 8 [(0, .ref th), (1, va_rf v1), (2, va_rf v2)] []) : ∀ (σ : Sg) (v1 : Option Nat) (u0 : Int) (u1 : Int) (u2 : Option Nat) (g1 : tyV σ 10 v1) (gu0 : rng u0) (gu1 : rng u1) (gu2 : tyV σ 2 u2), w_X9_unload_81 th K8 Q X σ v1 u0 u1 u2 → RG σ → TY σ → Ext σi σ → kO σ th 9 → JJ p l e R s m args below meth c 4 D cA A n0 s0 QM σ 81 [(0, .ref th), (1, va_rf v1)] [.int (i32 u0), .int (i32 u1), va_rf u2] := by
  intro σ v1 u0 u1 u2 g1 gu0 gu1 gu2 h hGσ hYσ hE hth H locs ls hH hl hc
  have B := K.1
  have hl9 := K.2.2.2.2.2.2
  unfold w_X9_unload_81 at h
  refine lv_iadd B.1 B.2.1 dX9_unload_81 ?_
  rw [i32_add]
  refine W.eq (g2 := F0 m 82 ls [.int (i32 (wr (u1 + u0))), va_rf u2]) (by rw [i32_wr]) ?_
  obtain ⟨a39, ea39, h⟩ := h
  have ka39 : kO σ a39 2 := gu2 a39 ea39
  have h := h ka39
  obtain ⟨σ40, eσ40⟩ : ∃ z, z = pI σ a39 6 (wr (u1 + u0)) := ⟨_, rfl⟩
  have h := h σ40 eσ40
  refine W.eq (g2 := F0 m 82 ls [.int (i32 (wr (u1 + u0))), .ref a39]) (by rw [ea39]; rfl) ?_
  refine f_puti B hH ka39 (by decide) rfl wu_X2 tyX2 tyX2_ok nmX2 6 (by decide) wf_X9_344 rfl (ty := .int) rfl rfl rfl rfl rfl dX9_unload_82 (fun H locs hH => ?_)
  have hH : Hd D cA A s (pI σ a39 6 (wr (u1 + u0))) H locs := hH
  rw [← eσ40] at hH
  have hGσ40 : RG σ40 := by rw [eσ40]; exact hGσ.pI (rng_wr _)
  have hYσ40 : TY σ40 := by rw [eσ40]; exact hYσ.pI
  have xσ40 : Ext σ σ40 := by rw [eσ40]; exact Ext.pI
  have hc : CB n0 s0 σ40 := by rw [eσ40]; exact hc
  rw [show gc σ = gc σ40 by rw [eσ40]; try rfl, show gs σ = gs σ40 by rw [eσ40]; try rfl]
  refine lv_aload_nQ B.1 B.2.1 dX9_unload_85 rfl (lv_at hl 1 rfl) ?_
  obtain ⟨a41, ea41, h⟩ := h
  have ka41 : kO σ40 a41 10 := (g1.up xσ40) a41 ea41
  have h := h ka41
  refine W.eq (g2 := F0 m 86 ls [.ref a41]) (by rw [ea41]; rfl) ?_
  refine f_getp B hH ka41 (by decide) rfl wu_X10 4 (by decide) wf_X9_145 rfl rfl dX9_unload_86 ?_
  obtain ⟨a42, ea42, h⟩ := h
  have ka42 : kO σ40 a42 1 := (hYσ40.get ka41 (by decide)) a42 ea42
  have h := h ka42
  refine W.eq (g2 := F0 m 89 ls [.ref a42]) (by rw [ea42]; rfl) ?_
  refine f_getp B hH ka42 (by decide) rfl wu_X1 0 (by decide) wf_X9_234 rfl rfl dX9_unload_89 ?_
  refine lv_astore_nQ (lv' := [(2, va_rf (gP σ40 a42 0)), (0, .ref th), (1, va_rf v1)]) B.1 B.2.1 dX9_unload_92 rfl hl (by decide) (by generalize v1 = w9; cases w9 <;> rfl) (fun ls hl => ?_)
  refine lv_goto (tgt := 8) B.1 B.2.1 dX9_unload_93 (by decide) ?_
  exact hK8 _ _ _ (g1.up xσ40) (hYσ40.get ka42 (by decide)) h hGσ40 hYσ40 (hE.trans xσ40) (hth.up xσ40) _ _ _ hH (lv_sub (l' := [(0, .ref th), (1, va_rf v1), (2, va_rf (gP σ40 a42 0))]) hl [1, 2, 0] rfl) hc
set_option maxRecDepth 20000 in
theorem a_X9_unload_80 {Q : Sg → Int → Prop} {X : Sg → String → Prop} {th : Nat} (K : MD l R p s m args c cX9_unload 4 RX9 D cA tys A n0 s0 2 42 []) (hQ : CQZ p l e R s m args below meth c cX9_unload D cA A n0 s0 QM σi Q) (hX : CX p l e R s m args below meth c 4 D cA A n0 s0 QM σi X) (hTh : CT p l e R s m args below meth c cX9_unload 4 D cA A n0 s0 QM σi RX9 X) {K8 : Sg → Option Nat → Option Nat → Prop} (hK8 : ∀ (σ : Sg) (v1 : Option Nat) (v2 : Option Nat) (g1 : tyV σ 10 v1) (g2 : tyV σ 0 v2), K8 σ v1 v2 → RG σ → TY σ → Ext σi σ → kO σ th 9 → JJ p l e R s m args below meth c 4 D cA A n0 s0 QM σ 8 [(0, .ref th), (1, va_rf v1), (2, va_rf v2)] []) : ∀ (σ : Sg) (v1 : Option Nat) (u0 : Int) (u1 : Option Nat) (g1 : tyV σ 10 v1) (gu0 : rng u0) (gu1 : tyV σ 2 u1), w_X9_unload_80 th K8 Q X σ v1 u0 u1 → RG σ → TY σ → Ext σi σ → kO σ th 9 → JJ p l e R s m args below meth c 4 D cA A n0 s0 QM σ 80 [(0, .ref th), (1, va_rf v1)] [.int (i32 u0), va_rf u1] := by
  intro σ v1 u0 u1 g1 gu0 gu1 h hGσ hYσ hE hth H locs ls hH hl hc
  have B := K.1
  have hl9 := K.2.2.2.2.2.2
  unfold w_X9_unload_80 at h
  refine lv_iconst (v := i32 0) B.1 B.2.1 dX9_unload_80 (by decide) ?_
  exact a_X9_unload_81 K hQ hX hTh hK8 _ _ _ _ _ g1 (by unfold rng; omega) gu0 gu1 h hGσ hYσ hE hth _ _ _ hH (lv_sub (l' := [(0, .ref th), (1, va_rf v1)]) hl [0, 1] rfl) hc
set_option maxRecDepth 20000 in
theorem a_X9_unload_76 {Q : Sg → Int → Prop} {X : Sg → String → Prop} {th : Nat} (K : MD l R p s m args c cX9_unload 4 RX9 D cA tys A n0 s0 2 42 []) (hQ : CQZ p l e R s m args below meth c cX9_unload D cA A n0 s0 QM σi Q) (hX : CX p l e R s m args below meth c 4 D cA A n0 s0 QM σi X) (hTh : CT p l e R s m args below meth c cX9_unload 4 D cA A n0 s0 QM σi RX9 X) {K8 : Sg → Option Nat → Option Nat → Prop} (hK8 : ∀ (σ : Sg) (v1 : Option Nat) (v2 : Option Nat) (g1 : tyV σ 10 v1) (g2 : tyV σ 0 v2), K8 σ v1 v2 → RG σ → TY σ → Ext σi σ → kO σ th 9 → JJ p l e R s m args below meth c 4 D cA A n0 s0 QM σ 8 [(0, .ref th), (1, va_rf v1), (2, va_rf v2)] []) : ∀ (σ : Sg) (v1 : Option Nat) (u0 : Int) (u1 : Option Nat) (g1 : tyV σ 10 v1) (gu0 : rng u0) (gu1 : tyV σ 2 u1), w_X9_unload_76 th K8 Q X σ v1 u0 u1 → RG σ → TY σ → Ext σi σ → kO σ th 9 → JJ p l e R s m args below meth c 4 D cA A n0 s0 QM σ 76 [(0, .ref th), (1, va_rf v1)] [.int (i32 u0), va_rf u1] := by
  intro σ v1 u0 u1 g1 gu0 gu1 h hGσ hYσ hE hth H locs ls hH hl hc
  have B := K.1
  have hl9 := K.2.2.2.2.2.2
  unfold w_X9_unload_76 at h
  refine lv_iconst (v := i32 1) B.1 B.2.1 dX9_unload_76 (by decide) ?_
  refine lv_goto (tgt := 81) B.1 B.2.1 dX9_unload_77 (by decide) ?_
  exact a_X9_unload_81 K hQ hX hTh hK8 _ _ _ _ _ g1 (by unfold rng; omega) gu0 gu1 h hGσ hYσ hE hth _ _ _ hH (lv_sub (l' := [(0, .ref th), (1, va_rf v1)]) hl [0, 1] rfl) hc
set_option maxRecDepth 20000 in
theorem a_X9_unload_38 {Q : Sg → Int → Prop} {X : Sg → String → Prop} {th : Nat} (K : MD l R p s m args c cX9_unload 4 RX9 D cA tys A n0 s0 2 42 []) (hQ : CQZ p l e R s m args below meth c cX9_unload D cA A n0 s0 QM σi Q) (hX : CX p l e R s m args below meth c 4 D cA A n0 s0 QM σi X) (hTh : CT p l e R s m args below meth c cX9_unload 4 D cA A n0 s0 QM σi RX9 X) {K8 : Sg → Option Nat → Option Nat → Prop} (hK8 : ∀ (σ : Sg) (v1 : Option Nat) (v2 : Option Nat) (g1 : tyV σ 10 v1) (g2 : tyV σ 0 v2), K8 σ v1 v2 → RG σ → TY σ → Ext σi σ → kO σ th 9 → JJ p l e R s m args below meth c 4 D cA A n0 s0 QM σ 8 [(0, .ref th), (1, va_rf v1), (2, va_rf v2)] []) : ∀ (σ : Sg) (v1 : Option Nat) (v2 : Option Nat) (v3 : Option Nat) (g1 : tyV σ 10 v1) (g2 : tyV σ 0 v2) (g3 : tyV σ 2 v3), w_X9_unload_38 th K8 Q X σ v1 v2 v3 → RG σ → TY σ → Ext σi σ → kO σ th 9 → JJ p l e R s m args below meth c 4 D cA A n0 s0 QM σ 38 [(0, .ref th), (1, va_rf v1), (2, va_rf v2), (3, va_rf v3)] [] := by
  intro σ v1 v2 v3 g1 g2 g3 h hGσ hYσ hE hth H locs ls hH hl hc
  have B := K.1
  have hl9 := K.2.2.2.2.2.2
  unfold w_X9_unload_38 at h
  refine lv_aload_nQ B.1 B.2.1 dX9_unload_38 rfl (lv_at hl 1 rfl) ?_
  obtain ⟨a43, ea43, h⟩ := h
  have ka43 : kO σ a43 10 := g1 a43 ea43
  have h := h ka43
  refine W.eq (g2 := F0 m 39 ls [.ref a43]) (by rw [ea43]; rfl) ?_
  refine f_getp B hH ka43 (by decide) rfl wu_X10 4 (by decide) wf_X9_145 rfl rfl dX9_unload_39 ?_
  obtain ⟨a46, ea46, h⟩ := h
  have ka46 : kO σ a46 1 := (hYσ.get ka43 (by decide)) a46 ea46
  have h := h ka46
  refine W.eq (g2 := F0 m 42 ls [.ref a46]) (by rw [ea46]; rfl) ?_
  refine c_V B hH hl hc K.2.2.1 (C := RX1) (T := TX1) (N := 3) (ci := 1) (As := []) (ok_X1_takeFirst hl9 K.2.1 σ a46 ka46 hGσ hYσ h) wc_X9_287 0 hd_X1_takeFirst ⟨Nat.le_trans (Nat.le_of_ble_eq_true rfl) K.2.2.2.1, Nat.le_trans (Nat.le_of_ble_eq_true rfl) K.2.2.2.2.1⟩ ka46.1 ka46.2 (by decide) rfl rfl (rest := []) rfl (Nat.le_of_ble_eq_true rfl) dX9_unload_42 (fun σ44 w hq => ?_) (fun σ9 E9 hx9 => hX σ9 E9 _ _ _ (tb_out K.2.2.2.2.2.1 rfl) hx9.1 hx9.2.1 hx9.2.2.1 (hE.trans hx9.2.2.2))
  obtain ⟨r45, rfl, tr45, h, hGσ44, hYσ44, xσ44⟩ := hq
  have h := h xσ44 tr45
  intro H locs ls hH hl hc
  refine W.eq (g2 := F0 m 45 ls [va_rf r45]) (rfl) ?_
  try dsimp only at h
  refine lv_pop B.1 B.2.1 dX9_unload_45 (rf_cat _) ?_
  refine lv_aload_n B.1 B.2.1 dX9_unload_46 rfl (lv_at hl 0 rfl) ?_
  refine lv_dup B.1 B.2.1 dX9_unload_47 rfl ?_
  refine f_geti B hH (hth.up xσ44) (by decide) rfl wu_X9 14 (by decide) wf_X9_151 rfl rfl dX9_unload_48 ?_
  refine lv_iconst (v := i32 1) B.1 B.2.1 dX9_unload_51 (by decide) ?_
  obtain ⟨q1, h⟩ := h
  refine lv_isub B.1 B.2.1 dX9_unload_52 ?_
  rw [i32_sub]
  obtain ⟨σ47, eσ47⟩ : ∃ z, z = pI σ44 th 14 (gI σ44 th 14 - 1) := ⟨_, rfl⟩
  have h := h σ47 eσ47
  refine f_puti B hH (hth.up xσ44) (by decide) rfl wu_X9 tyX9 tyX9_ok nmX9 14 (by decide) wf_X9_151 rfl (ty := .int) rfl rfl rfl rfl rfl dX9_unload_53 (fun H locs hH => ?_)
  have hH : Hd D cA A s (pI σ44 th 14 (gI σ44 th 14 - 1)) H locs := hH
  rw [← eσ47] at hH
  have hGσ47 : RG σ47 := by rw [eσ47]; exact hGσ44.pI q1
  have hYσ47 : TY σ47 := by rw [eσ47]; exact hYσ44.pI
  have xσ47 : Ext σ44 σ47 := by rw [eσ47]; exact Ext.pI
  have hc : CB n0 s0 σ47 := by rw [eσ47]; exact hc
  rw [show gc σ44 = gc σ47 by rw [eσ47]; try rfl, show gs σ44 = gs σ47 by rw [eσ47]; try rfl]
  refine lv_aload_nQ B.1 B.2.1 dX9_unload_56 rfl (lv_at hl 3 rfl) ?_
  obtain ⟨a48, ea48, h⟩ := h
  have ka48 : kO σ47 a48 2 := (g3.up (xσ44.trans xσ47)) a48 ea48
  have h := h ka48
  refine W.eq (g2 := F0 m 57 ls [.ref a48]) (by rw [ea48]; rfl) ?_
  refine f_getp B hH ka48 (by decide) rfl wu_X2 0 (by decide) wf_X9_148 rfl rfl dX9_unload_57 ?_
  refine lv_aload_nQ B.1 B.2.1 dX9_unload_60 rfl (lv_at hl 2 rfl) ?_
  obtain ⟨a50, ea50, h⟩ := h
  have ka50 : kO σ47 a50 1 := (hYσ47.get ka48 (by decide)) a50 ea50
  have h := h ka50
  refine W.eq (g2 := F0 m 61 ls [va_rf v2, .ref a50]) (by rw [ea50]; rfl) ?_
  refine c_V B hH hl hc K.2.2.1 (C := RX1) (T := TX1) (N := 3) (ci := 1) (As := [va_rf v2]) (ok_X1_add hl9 K.2.1 σ47 a50 v2 (g2.up (xσ44.trans xσ47)) ka50 hGσ47 hYσ47 h) wc_X9_341 1 hd_X1_add ⟨Nat.le_trans (Nat.le_of_ble_eq_true rfl) K.2.2.2.1, Nat.le_trans (Nat.le_of_ble_eq_true rfl) K.2.2.2.2.1⟩ ka50.1 ka50.2 (by decide) rfl rfl (rest := []) rfl (Nat.le_of_ble_eq_true rfl) dX9_unload_61 (fun σ49 w hq => ?_) (fun σ9 E9 hx9 => hX σ9 E9 _ _ _ (tb_out K.2.2.2.2.2.1 rfl) hx9.1 hx9.2.1 hx9.2.2.1 (((hE.trans xσ44).trans xσ47).trans hx9.2.2.2))
  obtain ⟨rfl, h, hGσ49, hYσ49, xσ49⟩ := hq
  have h := h xσ49
  intro H locs ls hH hl hc
  refine W.eq (g2 := F0 m 64 ls []) (rfl) ?_
  try dsimp only at h
  refine lv_aload_nQ B.1 B.2.1 dX9_unload_64 rfl (lv_at hl 3 rfl) ?_
  refine lv_dup B.1 B.2.1 dX9_unload_65 (rf_cat _) ?_
  refine W.eq (g2 := F0 m 66 ls [.ref a48, va_rf v3]) (by rw [ea48]; rfl) ?_
  refine f_geti B hH (ka48.up xσ49) (by decide) rfl wu_X2 6 (by decide) wf_X9_344 rfl rfl dX9_unload_66 ?_
  refine lv_aload_nQ B.1 B.2.1 dX9_unload_69 rfl (lv_at hl 2 rfl) ?_
  obtain ⟨a51, ea51, h⟩ := h
  have ka51 : kO σ49 a51 0 := (g2.up (xσ44.trans (xσ47.trans xσ49))) a51 ea51
  have h := h ka51
  refine W.eq (g2 := F0 m 70 ls [.ref a51, .int (i32 (gI σ49 a48 6)), va_rf v3]) (by rw [ea51]; rfl) ?_
  refine f_geti B hH ka51 (by decide) rfl wu_X0 2 (by decide) wf_X9_291 rfl rfl dX9_unload_70 ?_
  refine lv_if_ne (tgt := 80) B.1 B.2.1 dX9_unload_73 (by decide) (fun h9 => ?_) (fun h9 => ?_)
  · rw [if_pos (fun q => h9 ((z_eq (hGσ49 _ _)).mpr q))] at h
    exact a_X9_unload_80 K hQ hX hTh hK8 _ _ _ _ (g1.up (xσ44.trans (xσ47.trans xσ49))) (hGσ49 _ _) (g3.up (xσ44.trans (xσ47.trans xσ49))) h hGσ49 hYσ49 (((hE.trans xσ44).trans xσ47).trans xσ49) (hth.up (xσ44.trans (xσ47.trans xσ49))) _ _ _ hH (lv_sub (l' := [(0, .ref th), (1, va_rf v1)]) hl [0, 1] rfl) hc
  · rw [if_neg (fun q => q ((z_eq (hGσ49 _ _)).mp h9))] at h
    exact a_X9_unload_76 K hQ hX hTh hK8 _ _ _ _ (g1.up (xσ44.trans (xσ47.trans xσ49))) (hGσ49 _ _) (g3.up (xσ44.trans (xσ47.trans xσ49))) h hGσ49 hYσ49 (((hE.trans xσ44).trans xσ47).trans xσ49) (hth.up (xσ44.trans (xσ47.trans xσ49))) _ _ _ hH (lv_sub (l' := [(0, .ref th), (1, va_rf v1)]) hl [0, 1] rfl) hc
set_option maxRecDepth 20000 in
theorem a_X9_unload_36 {Q : Sg → Int → Prop} {X : Sg → String → Prop} {th : Nat} (K : MD l R p s m args c cX9_unload 4 RX9 D cA tys A n0 s0 2 42 []) (hQ : CQZ p l e R s m args below meth c cX9_unload D cA A n0 s0 QM σi Q) (hX : CX p l e R s m args below meth c 4 D cA A n0 s0 QM σi X) (hTh : CT p l e R s m args below meth c cX9_unload 4 D cA A n0 s0 QM σi RX9 X) : ∀ (σ : Sg), w_X9_unload_36 th Q X σ → RG σ → TY σ → Ext σi σ → kO σ th 9 → JJ p l e R s m args below meth c 4 D cA A n0 s0 QM σ 36 [(0, .ref th)] [] := by
  intro σ h hGσ hYσ hE hth H locs ls hH hl hc
  have B := K.1
  have hl9 := K.2.2.2.2.2.2
  unfold w_X9_unload_36 at h
  refine lv_iconst (v := i32 0) B.1 B.2.1 dX9_unload_36 (by decide) ?_
  exact hQ _ _ _ _ _ _ (by unfold rng; omega) (Or.inl rfl) dX9_unload_37 hH hc h hGσ hYσ hE
set_option maxRecDepth 20000 in
theorem a_X9_unload_12 {Q : Sg → Int → Prop} {X : Sg → String → Prop} {th : Nat} (K : MD l R p s m args c cX9_unload 4 RX9 D cA tys A n0 s0 2 42 []) (hQ : CQZ p l e R s m args below meth c cX9_unload D cA A n0 s0 QM σi Q) (hX : CX p l e R s m args below meth c 4 D cA A n0 s0 QM σi X) (hTh : CT p l e R s m args below meth c cX9_unload 4 D cA A n0 s0 QM σi RX9 X) {K8 : Sg → Option Nat → Option Nat → Prop} (hK8 : ∀ (σ : Sg) (v1 : Option Nat) (v2 : Option Nat) (g1 : tyV σ 10 v1) (g2 : tyV σ 0 v2), K8 σ v1 v2 → RG σ → TY σ → Ext σi σ → kO σ th 9 → JJ p l e R s m args below meth c 4 D cA A n0 s0 QM σ 8 [(0, .ref th), (1, va_rf v1), (2, va_rf v2)] []) : ∀ (σ : Sg) (v1 : Option Nat) (v2 : Option Nat) (g1 : tyV σ 10 v1) (g2 : tyV σ 0 v2), w_X9_unload_12 th K8 Q X σ v1 v2 → RG σ → TY σ → Ext σi σ → kO σ th 9 → JJ p l e R s m args below meth c 4 D cA A n0 s0 QM σ 12 [(0, .ref th), (1, va_rf v1), (2, va_rf v2)] [] := by
  intro σ v1 v2 g1 g2 h hGσ hYσ hE hth H locs ls hH hl hc
  have B := K.1
  have hl9 := K.2.2.2.2.2.2
  unfold w_X9_unload_12 at h
  refine lv_aload_n B.1 B.2.1 dX9_unload_12 rfl (lv_at hl 0 rfl) ?_
  refine f_getp B hH hth (by decide) rfl wu_X9 4 (by decide) wf_X9_26 rfl rfl dX9_unload_13 ?_
  refine lv_aload_nQ B.1 B.2.1 dX9_unload_16 rfl (lv_at hl 2 rfl) ?_
  obtain ⟨a52, ea52, h⟩ := h
  have ka52 : kO σ a52 0 := g2 a52 ea52
  have h := h ka52
  refine W.eq (g2 := F0 m 17 ls [.ref a52, va_rf (gP σ th 4)]) (by rw [ea52]; rfl) ?_
  refine f_geti B hH ka52 (by decide) rfl wu_X0 3 (by decide) wf_X9_335 rfl rfl dX9_unload_17 ?_
  obtain ⟨a53, ea53, h⟩ := h
  have ka53 : kO σ a53 112 := (hYσ.get hth (by decide)) a53 ea53
  have h := h ka53
  obtain ⟨q1, h⟩ := h
  refine W.eq (g2 := F0 m 20 ls [.int (i32 (gI σ a52 3)), .ref a53]) (by rw [ea53]; rfl) ?_
  refine y_aald B hH (t0 := 5) ka53 (by decide) K.2.1.2.2.1 q1 (hYσ.2 _) dX9_unload_20 ?_
  refine lv_astore_nQ (lv' := [(3, va_rf (gP σ a53 (gI σ a52 3).toNat)), (0, .ref th), (1, va_rf v1), (2, va_rf v2)]) B.1 B.2.1 dX9_unload_21 rfl hl (by decide) (by generalize v2 = w9; cases w9 <;> rfl) (fun ls hl => ?_)
  refine lv_aload_nQ B.1 B.2.1 dX9_unload_22 rfl (lv_at hl 0 rfl) ?_
  obtain ⟨a54, ea54, h⟩ := h
  have ka54 : kO σ a54 2 := (hYσ.get ka53 rfl) a54 ea54
  have h := h ka54
  refine W.eq (g2 := F0 m 23 ls [.ref a54]) (by rw [ea54]; rfl) ?_
  refine f_getp B hH ka54 (by decide) rfl wu_X2 0 (by decide) wf_X9_148 rfl rfl dX9_unload_23 ?_
  obtain ⟨a55, ea55, h⟩ := h
  have ka55 : kO σ a55 1 := (hYσ.get ka54 (by decide)) a55 ea55
  have h := h ka55
  refine W.eq (g2 := F0 m 26 ls [.ref a55]) (by rw [ea55]; rfl) ?_
  refine f_geti B hH ka55 (by decide) rfl wu_X1 2 (by decide) wf_X9_338 rfl rfl dX9_unload_26 ?_
  refine lv_aload_n B.1 B.2.1 dX9_unload_29 rfl (lv_at hl 1 rfl) ?_
  refine f_geti B hH hth (by decide) rfl wu_X9 13 (by decide) wf_X9_105 rfl rfl dX9_unload_30 ?_
  refine lv_icmp_lt (tgt := 38) B.1 B.2.1 dX9_unload_33 (by decide) (fun h9 => ?_) (fun h9 => ?_)
  · rw [if_pos ((i32_lt (hGσ _ _) (hGσ _ _)).mp h9)] at h
    exact a_X9_unload_38 K hQ hX hTh hK8 _ _ _ _ g1 g2 (hYσ.get ka53 rfl) h hGσ hYσ hE hth _ _ _ hH (lv_sub (l' := [(0, .ref th), (1, va_rf v1), (2, va_rf v2), (3, va_rf (gP σ a53 (gI σ a52 3).toNat))]) hl [1, 2, 3, 0] rfl) hc
  · rw [if_neg (fun q => h9 ((i32_lt (hGσ _ _) (hGσ _ _)).mpr q))] at h
    exact a_X9_unload_36 K hQ hX hTh _ h hGσ hYσ hE hth _ _ _ hH (lv_sub (l' := [(0, .ref th)]) hl [1] rfl) hc
set_option maxRecDepth 20000 in
theorem a_X9_unload_8 {Q : Sg → Int → Prop} {X : Sg → String → Prop} {th : Nat} (K : MD l R p s m args c cX9_unload 4 RX9 D cA tys A n0 s0 2 42 []) (hQ : CQZ p l e R s m args below meth c cX9_unload D cA A n0 s0 QM σi Q) (hX : CX p l e R s m args below meth c 4 D cA A n0 s0 QM σi X) (hTh : CT p l e R s m args below meth c cX9_unload 4 D cA A n0 s0 QM σi RX9 X) {K8 : Sg → Option Nat → Option Nat → Prop} (hK8 : ∀ (σ : Sg) (v1 : Option Nat) (v2 : Option Nat) (g1 : tyV σ 10 v1) (g2 : tyV σ 0 v2), K8 σ v1 v2 → RG σ → TY σ → Ext σi σ → kO σ th 9 → JJ p l e R s m args below meth c 4 D cA A n0 s0 QM σ 8 [(0, .ref th), (1, va_rf v1), (2, va_rf v2)] []) : ∀ (σ : Sg) (v1 : Option Nat) (v2 : Option Nat) (g1 : tyV σ 10 v1) (g2 : tyV σ 0 v2), w_X9_unload_8 th K8 Q X σ v1 v2 → RG σ → TY σ → Ext σi σ → kO σ th 9 → JJ p l e R s m args below meth c 4 D cA A n0 s0 QM σ 8 [(0, .ref th), (1, va_rf v1), (2, va_rf v2)] [] := by
  intro σ v1 v2 g1 g2 h hGσ hYσ hE hth H locs ls hH hl hc
  have B := K.1
  have hl9 := K.2.2.2.2.2.2
  unfold w_X9_unload_8 at h
  refine lv_aload_nQ B.1 B.2.1 dX9_unload_8 rfl (lv_at hl 2 rfl) ?_
  refine lv_ifnullQ (tgt := 96) B.1 B.2.1 dX9_unload_9 (by decide) (fun h9 => ?_) (fun h9 => ?_)
  · rw [if_pos (h9)] at h
    exact a_X9_unload_96 K hQ hX hTh _ h hGσ hYσ hE hth _ _ _ hH (lv_sub (l' := [(0, .ref th)]) hl [0] rfl) hc
  · rw [if_neg (h9)] at h
    exact a_X9_unload_12 K hQ hX hTh hK8 _ _ _ g1 g2 h hGσ hYσ hE hth _ _ _ hH (lv_sub (l' := [(0, .ref th), (1, va_rf v1), (2, va_rf v2)]) hl [0, 1, 2] rfl) hc
theorem al_X9_unload_8 {Q : Sg → Int → Prop} {X : Sg → String → Prop} {th : Nat} (K : MD l R p s m args c cX9_unload 4 RX9 D cA tys A n0 s0 2 42 []) (hQ : CQZ p l e R s m args below meth c cX9_unload D cA A n0 s0 QM σi Q) (hX : CX p l e R s m args below meth c 4 D cA A n0 s0 QM σi X) (hTh : CT p l e R s m args below meth c cX9_unload 4 D cA A n0 s0 QM σi RX9 X) : ∀ (n : Nat), ∀ (σ : Sg) (v1 : Option Nat) (v2 : Option Nat) (g1 : tyV σ 10 v1) (g2 : tyV σ 0 v2), wl_X9_unload_8 th Q X n σ v1 v2 → RG σ → TY σ → Ext σi σ → kO σ th 9 → JJ p l e R s m args below meth c 4 D cA A n0 s0 QM σ 8 [(0, .ref th), (1, va_rf v1), (2, va_rf v2)] [] := by
  intro n
  induction n with
  | zero => intro σ v1 v2 g1 g2 h; exact h.elim
  | succ n ih => exact fun σ v1 v2 g1 g2 h => a_X9_unload_8 K hQ hX hTh ih σ v1 v2 g1 g2 h
set_option maxRecDepth 20000 in
theorem a_X9_unload_0 {Q : Sg → Int → Prop} {X : Sg → String → Prop} {th : Nat} (K : MD l R p s m args c cX9_unload 4 RX9 D cA tys A n0 s0 2 42 []) (hQ : CQZ p l e R s m args below meth c cX9_unload D cA A n0 s0 QM σi Q) (hX : CX p l e R s m args below meth c 4 D cA A n0 s0 QM σi X) (hTh : CT p l e R s m args below meth c cX9_unload 4 D cA A n0 s0 QM σi RX9 X) : ∀ (σ : Sg) (v1 : Option Nat) (g1 : tyV σ 10 v1), w_X9_unload_0 th Q X σ v1 → RG σ → TY σ → Ext σi σ → kO σ th 9 → JJ p l e R s m args below meth c 4 D cA A n0 s0 QM σ 0 [(0, .ref th), (1, va_rf v1)] [] := by
  intro σ v1 g1 h hGσ hYσ hE hth H locs ls hH hl hc
  have B := K.1
  have hl9 := K.2.2.2.2.2.2
  unfold w_X9_unload_0 at h
  refine lv_aload_nQ B.1 B.2.1 dX9_unload_0 rfl (lv_at hl 1 rfl) ?_
  obtain ⟨a56, ea56, h⟩ := h
  have ka56 : kO σ a56 10 := g1 a56 ea56
  have h := h ka56
  refine W.eq (g2 := F0 m 1 ls [.ref a56]) (by rw [ea56]; rfl) ?_
  refine f_getp B hH ka56 (by decide) rfl wu_X10 4 (by decide) wf_X9_145 rfl rfl dX9_unload_1 ?_
  obtain ⟨a57, ea57, h⟩ := h
  have ka57 : kO σ a57 1 := (hYσ.get ka56 (by decide)) a57 ea57
  have h := h ka57
  refine W.eq (g2 := F0 m 4 ls [.ref a57]) (by rw [ea57]; rfl) ?_
  refine f_getp B hH ka57 (by decide) rfl wu_X1 0 (by decide) wf_X9_234 rfl rfl dX9_unload_4 ?_
  refine lv_astore_nQ (lv' := [(2, va_rf (gP σ a57 0)), (0, .ref th), (1, va_rf v1)]) B.1 B.2.1 dX9_unload_7 rfl hl (by decide) (by generalize v1 = w9; cases w9 <;> rfl) (fun ls hl => ?_)
  obtain ⟨n9, h⟩ := h
  exact al_X9_unload_8 K hQ hX hTh n9 _ _ _ g1 (hYσ.get ka57 (by decide)) h hGσ hYσ hE hth _ _ _ hH (lv_sub (l' := [(0, .ref th), (1, va_rf v1), (2, va_rf (gP σ a57 0))]) hl [1, 2, 0] rfl) hc
theorem ok_X9_unload (hl0 : l.stackTraces = false) (hT : TyC cA tys) {Q : Sg → Int → Prop} {X : Sg → String → Prop} (σ : Sg) (th : Nat) (v1 : Option Nat) (g1 : tyV σ 10 v1) (hth : kO σ th 9) (hG : RG σ) (hY : TY σ) (h : wp_X9_unload th v1 σ Q X) : Ok l D cA tys A yX9_unload (.code yX9_unload cX9_unload 4 (some .boolean)) 2 42 [.ref th, va_rf v1] σ (QcZ σ Q) (QxC σ X) := by
  unfold wp_X9_unload at h
  exact oc_Z hl0 (by decide) (by cases v1 <;> exact Nat.le_of_ble_eq_true rfl) hT (fun p e R s m args below meth c K hQ hX hTh H locs ls hH hl hc => a_X9_unload_0 K hQ hX hTh σ v1 g1 h hG hY (Ext.rfl' σ) hth H locs ls hH (lv_sub (l' := [(0, .ref th), (1, va_rf v1)]) hl [0, 1] (by cases v1 <;> rfl)) hc)
theorem dX9_playTurn_0 : decode cX9_playTurn 0 = .ok (.aload_n 0, 1) := by decide +kernel
theorem dX9_playTurn_1 : decode cX9_playTurn 1 = .ok (.aload_n 0, 1) := by decide +kernel
theorem dX9_playTurn_2 : decode cX9_playTurn 2 = .ok (.getfield 108, 3) := by decide +kernel
theorem dX9_playTurn_5 : decode cX9_playTurn 5 = .ok (.ldc2_w 257, 3) := by decide +kernel
theorem dX9_playTurn_8 : decode cX9_playTurn 8 = .ok (.lmul, 1) := by decide +kernel
theorem dX9_playTurn_9 : decode cX9_playTurn 9 = .ok (.ldc2_w 259, 3) := by decide +kernel
theorem dX9_playTurn_12 : decode cX9_playTurn 12 = .ok (.ladd, 1) := by decide +kernel
theorem dX9_playTurn_13 : decode cX9_playTurn 13 = .ok (.putfield 108, 3) := by decide +kernel
theorem dX9_playTurn_16 : decode cX9_playTurn 16 = .ok (.aload_n 0, 1) := by decide +kernel
theorem dX9_playTurn_17 : decode cX9_playTurn 17 = .ok (.getfield 78, 3) := by decide +kernel
theorem dX9_playTurn_20 : decode cX9_playTurn 20 = .ok (.ifCond .ne 5, 3) := by decide +kernel
theorem dX9_playTurn_23 : decode cX9_playTurn 23 = .ok (.iconst 0, 1) := by decide +kernel
theorem dX9_playTurn_24 : decode cX9_playTurn 24 = .ok (.ireturn, 1) := by decide +kernel
theorem dX9_playTurn_25 : decode cX9_playTurn 25 = .ok (.aload_n 0, 1) := by decide +kernel
theorem dX9_playTurn_26 : decode cX9_playTurn 26 = .ok (.getfield 20, 3) := by decide +kernel
theorem dX9_playTurn_29 : decode cX9_playTurn 29 = .ok (.aload_n 0, 1) := by decide +kernel
theorem dX9_playTurn_30 : decode cX9_playTurn 30 = .ok (.getfield 108, 3) := by decide +kernel
theorem dX9_playTurn_33 : decode cX9_playTurn 33 = .ok (.bipush 33, 2) := by decide +kernel
theorem dX9_playTurn_35 : decode cX9_playTurn 35 = .ok (.lushr, 1) := by decide +kernel
theorem dX9_playTurn_36 : decode cX9_playTurn 36 = .ok (.aload_n 0, 1) := by decide +kernel
theorem dX9_playTurn_37 : decode cX9_playTurn 37 = .ok (.getfield 78, 3) := by decide +kernel
theorem dX9_playTurn_40 : decode cX9_playTurn 40 = .ok (.i2l, 1) := by decide +kernel
theorem dX9_playTurn_41 : decode cX9_playTurn 41 = .ok (.lrem, 1) := by decide +kernel
theorem dX9_playTurn_42 : decode cX9_playTurn 42 = .ok (.l2i, 1) := by decide +kernel
theorem dX9_playTurn_43 : decode cX9_playTurn 43 = .ok (.aaload, 1) := by decide +kernel
theorem dX9_playTurn_44 : decode cX9_playTurn 44 = .ok (.astore_n 1, 1) := by decide +kernel
theorem dX9_playTurn_45 : decode cX9_playTurn 45 = .ok (.aload_n 0, 1) := by decide +kernel
theorem dX9_playTurn_46 : decode cX9_playTurn 46 = .ok (.getfield 100, 3) := by decide +kernel
theorem dX9_playTurn_49 : decode cX9_playTurn 49 = .ok (.getfield 160, 3) := by decide +kernel
theorem dX9_playTurn_52 : decode cX9_playTurn 52 = .ok (.aload_n 1, 1) := by decide +kernel
theorem dX9_playTurn_53 : decode cX9_playTurn 53 = .ok (.getfield 181, 3) := by decide +kernel
theorem dX9_playTurn_56 : decode cX9_playTurn 56 = .ok (.aaload, 1) := by decide +kernel
theorem dX9_playTurn_57 : decode cX9_playTurn 57 = .ok (.astore_n 2, 1) := by decide +kernel
theorem dX9_playTurn_58 : decode cX9_playTurn 58 = .ok (.aload_n 1, 1) := by decide +kernel
theorem dX9_playTurn_59 : decode cX9_playTurn 59 = .ok (.getfield 261, 3) := by decide +kernel
theorem dX9_playTurn_62 : decode cX9_playTurn 62 = .ok (.istore_n 3, 1) := by decide +kernel
theorem dX9_playTurn_63 : decode cX9_playTurn 63 = .ok (.aload_n 0, 1) := by decide +kernel
theorem dX9_playTurn_64 : decode cX9_playTurn 64 = .ok (.getfield 48, 3) := by decide +kernel
theorem dX9_playTurn_67 : decode cX9_playTurn 67 = .ok (.getfield 74, 3) := by decide +kernel
theorem dX9_playTurn_70 : decode cX9_playTurn 70 = .ok (.istore 4, 2) := by decide +kernel
theorem dX9_playTurn_72 : decode cX9_playTurn 72 = .ok (.aload_n 0, 1) := by decide +kernel
theorem dX9_playTurn_73 : decode cX9_playTurn 73 = .ok (.getfield 12, 3) := by decide +kernel
theorem dX9_playTurn_76 : decode cX9_playTurn 76 = .ok (.getfield 264, 3) := by decide +kernel
theorem dX9_playTurn_79 : decode cX9_playTurn 79 = .ok (.istore 5, 2) := by decide +kernel
theorem dX9_playTurn_81 : decode cX9_playTurn 81 = .ok (.aload_n 0, 1) := by decide +kernel
theorem dX9_playTurn_82 : decode cX9_playTurn 82 = .ok (.dup, 1) := by decide +kernel
theorem dX9_playTurn_83 : decode cX9_playTurn 83 = .ok (.getfield 88, 3) := by decide +kernel
theorem dX9_playTurn_86 : decode cX9_playTurn 86 = .ok (.iconst 1, 1) := by decide +kernel
theorem dX9_playTurn_87 : decode cX9_playTurn 87 = .ok (.iadd, 1) := by decide +kernel
theorem dX9_playTurn_88 : decode cX9_playTurn 88 = .ok (.putfield 88, 3) := by decide +kernel
theorem dX9_playTurn_91 : decode cX9_playTurn 91 = .ok (.aload_n 0, 1) := by decide +kernel
theorem dX9_playTurn_92 : decode cX9_playTurn 92 = .ok (.aload_n 1, 1) := by decide +kernel
theorem dX9_playTurn_93 : decode cX9_playTurn 93 = .ok (.invokevirtual 267, 3) := by decide +kernel
theorem dX9_playTurn_96 : decode cX9_playTurn 96 = .ok (.ifCond .eq 52, 3) := by decide +kernel
theorem dX9_playTurn_99 : decode cX9_playTurn 99 = .ok (.aload_n 2, 1) := by decide +kernel
theorem dX9_playTurn_100 : decode cX9_playTurn 100 = .ok (.getfield 164, 3) := by decide +kernel
theorem dX9_playTurn_103 : decode cX9_playTurn 103 = .ok (.ifCond .ne 12, 3) := by decide +kernel
theorem dX9_playTurn_106 : decode cX9_playTurn 106 = .ok (.aload_n 0, 1) := by decide +kernel
theorem dX9_playTurn_107 : decode cX9_playTurn 107 = .ok (.aload_n 1, 1) := by decide +kernel
theorem dX9_playTurn_108 : decode cX9_playTurn 108 = .ok (.aload_n 2, 1) := by decide +kernel
theorem dX9_playTurn_109 : decode cX9_playTurn 109 = .ok (.invokevirtual 271, 3) := by decide +kernel
theorem dX9_playTurn_112 : decode cX9_playTurn 112 = .ok (.goto 9, 3) := by decide +kernel
theorem dX9_playTurn_115 : decode cX9_playTurn 115 = .ok (.aload_n 0, 1) := by decide +kernel
theorem dX9_playTurn_116 : decode cX9_playTurn 116 = .ok (.aload_n 1, 1) := by decide +kernel
theorem dX9_playTurn_117 : decode cX9_playTurn 117 = .ok (.aload_n 2, 1) := by decide +kernel
theorem dX9_playTurn_118 : decode cX9_playTurn 118 = .ok (.invokevirtual 275, 3) := by decide +kernel
theorem dX9_playTurn_121 : decode cX9_playTurn 121 = .ok (.istore 6, 2) := by decide +kernel
theorem dX9_playTurn_123 : decode cX9_playTurn 123 = .ok (.aload_n 0, 1) := by decide +kernel
theorem dX9_playTurn_124 : decode cX9_playTurn 124 = .ok (.dup, 1) := by decide +kernel
theorem dX9_playTurn_125 : decode cX9_playTurn 125 = .ok (.getfield 91, 3) := by decide +kernel
theorem dX9_playTurn_128 : decode cX9_playTurn 128 = .ok (.iload 6, 2) := by decide +kernel
theorem dX9_playTurn_130 : decode cX9_playTurn 130 = .ok (.ifCond .eq 7, 3) := by decide +kernel
theorem dX9_playTurn_133 : decode cX9_playTurn 133 = .ok (.iconst 0, 1) := by decide +kernel
theorem dX9_playTurn_134 : decode cX9_playTurn 134 = .ok (.goto 4, 3) := by decide +kernel
theorem dX9_playTurn_137 : decode cX9_playTurn 137 = .ok (.iconst 1, 1) := by decide +kernel
theorem dX9_playTurn_138 : decode cX9_playTurn 138 = .ok (.iadd, 1) := by decide +kernel
theorem dX9_playTurn_139 : decode cX9_playTurn 139 = .ok (.putfield 91, 3) := by decide +kernel
theorem dX9_playTurn_142 : decode cX9_playTurn 142 = .ok (.aload_n 0, 1) := by decide +kernel
theorem dX9_playTurn_143 : decode cX9_playTurn 143 = .ok (.aload_n 1, 1) := by decide +kernel
theorem dX9_playTurn_144 : decode cX9_playTurn 144 = .ok (.invokevirtual 267, 3) := by decide +kernel
theorem dX9_playTurn_147 : decode cX9_playTurn 147 = .ok (.pop, 1) := by decide +kernel
theorem dX9_playTurn_148 : decode cX9_playTurn 148 = .ok (.goto 42, 3) := by decide +kernel
theorem dX9_playTurn_151 : decode cX9_playTurn 151 = .ok (.astore 6, 2) := by decide +kernel
theorem dX9_playTurn_153 : decode cX9_playTurn 153 = .ok (.aload_n 0, 1) := by decide +kernel
theorem dX9_playTurn_154 : decode cX9_playTurn 154 = .ok (.iconst 1, 1) := by decide +kernel
theorem dX9_playTurn_155 : decode cX9_playTurn 155 = .ok (.putfield 84, 3) := by decide +kernel
theorem dX9_playTurn_158 : decode cX9_playTurn 158 = .ok (.aload_n 0, 1) := by decide +kernel
theorem dX9_playTurn_159 : decode cX9_playTurn 159 = .ok (.getfield 48, 3) := by decide +kernel
theorem dX9_playTurn_162 : decode cX9_playTurn 162 = .ok (.iload 4, 2) := by decide +kernel
theorem dX9_playTurn_164 : decode cX9_playTurn 164 = .ok (.putfield 74, 3) := by decide +kernel
theorem dX9_playTurn_167 : decode cX9_playTurn 167 = .ok (.aload_n 0, 1) := by decide +kernel
theorem dX9_playTurn_168 : decode cX9_playTurn 168 = .ok (.getfield 12, 3) := by decide +kernel
theorem dX9_playTurn_171 : decode cX9_playTurn 171 = .ok (.iload 5, 2) := by decide +kernel
theorem dX9_playTurn_173 : decode cX9_playTurn 173 = .ok (.putfield 264, 3) := by decide +kernel
theorem dX9_playTurn_176 : decode cX9_playTurn 176 = .ok (.aload_n 0, 1) := by decide +kernel
theorem dX9_playTurn_177 : decode cX9_playTurn 177 = .ok (.getfield 48, 3) := by decide +kernel
theorem dX9_playTurn_180 : decode cX9_playTurn 180 = .ok (.aload_n 0, 1) := by decide +kernel
theorem dX9_playTurn_181 : decode cX9_playTurn 181 = .ok (.getfield 57, 3) := by decide +kernel
theorem dX9_playTurn_184 : decode cX9_playTurn 184 = .ok (.getfield 280, 3) := by decide +kernel
theorem dX9_playTurn_187 : decode cX9_playTurn 187 = .ok (.invokevirtual 64, 3) := by decide +kernel
theorem dX9_playTurn_190 : decode cX9_playTurn 190 = .ok (.aload_n 1, 1) := by decide +kernel
theorem dX9_playTurn_191 : decode cX9_playTurn 191 = .ok (.getfield 261, 3) := by decide +kernel
theorem dX9_playTurn_194 : decode cX9_playTurn 194 = .ok (.iload_n 3, 1) := by decide +kernel
theorem dX9_playTurn_195 : decode cX9_playTurn 195 = .ok (.isub, 1) := by decide +kernel
theorem dX9_playTurn_196 : decode cX9_playTurn 196 = .ok (.ireturn, 1) := by decide +kernel
set_option maxRecDepth 20000 in
theorem a_X9_playTurn_190 {Q : Sg → Int → Prop} {X : Sg → String → Prop} {th : Nat} (K : MD l R p s m args c cX9_playTurn 7 RX9 D cA tys A n0 s0 12 247 [(91, 148, 151, 278)]) (hQ : CQI p l e R s m args below meth c cX9_playTurn D cA A n0 s0 QM σi Q) (hX : CX p l e R s m args below meth c 7 D cA A n0 s0 QM σi X) : ∀ (σ : Sg) (v1 : Option Nat) (v3 : Int) (g1 : tyV σ 10 v1) (g3 : rng v3), w_X9_playTurn_190 th Q X σ v1 v3 → RG σ → TY σ → Ext σi σ → kO σ th 9 → JJ p l e R s m args below meth c 7 D cA A n0 s0 QM σ 190 [(0, .ref th), (1, va_rf v1), (3, .int (i32 v3))] [] := by
  intro σ v1 v3 g1 g3 h hGσ hYσ hE hth H locs ls hH hl hc
  have B := K.1
  have hl9 := K.2.2.2.2.2.2
  unfold w_X9_playTurn_190 at h
  refine lv_aload_nQ B.1 B.2.1 dX9_playTurn_190 rfl (lv_at hl 1 rfl) ?_
  obtain ⟨a56, ea56, h⟩ := h
  have ka56 : kO σ a56 10 := g1 a56 ea56
  have h := h ka56
  refine W.eq (g2 := F0 m 191 ls [.ref a56]) (by rw [ea56]; rfl) ?_
  refine f_geti B hH ka56 (by decide) rfl wu_X10 8 (by decide) wf_X9_261 rfl rfl dX9_playTurn_191 ?_
  refine lv_iload_n B.1 B.2.1 dX9_playTurn_194 rfl (lv_at hl 2 rfl) ?_
  refine lv_isub B.1 B.2.1 dX9_playTurn_195 ?_
  rw [i32_sub]
  refine W.eq (g2 := F0 m 196 ls [.int (i32 (wr (gI σ a56 8 - v3)))]) (by rw [i32_wr]) ?_
  exact hQ _ _ _ _ _ _ (rng_wr _) dX9_playTurn_196 hH hc h hGσ hYσ hE
set_option maxRecDepth 20000 in
theorem a_X9_playTurn_151 {Q : Sg → Int → Prop} {X : Sg → String → Prop} {th : Nat} (K : MD l R p s m args c cX9_playTurn 7 RX9 D cA tys A n0 s0 12 247 [(91, 148, 151, 278)]) (hQ : CQI p l e R s m args below meth c cX9_playTurn D cA A n0 s0 QM σi Q) (hX : CX p l e R s m args below meth c 7 D cA A n0 s0 QM σi X) : ∀ (σ : Sg) (v1 : Option Nat) (v3 : Int) (v4 : Int) (v5 : Int) (u0 : Option Nat) (g1 : tyV σ 10 v1) (g3 : rng v3) (g4 : rng v4) (g5 : rng v5), w_X9_playTurn_151 th Q X σ v1 v3 v4 v5 u0 → RG σ → TY σ → Ext σi σ → kO σ th 9 → JJ p l e R s m args below meth c 7 D cA A n0 s0 QM σ 151 [(0, .ref th), (1, va_rf v1), (3, .int (i32 v3)), (4, .int (i32 v4)), (5, .int (i32 v5))] [va_rf u0] := by
  intro σ v1 v3 v4 v5 u0 g1 g3 g4 g5 h hGσ hYσ hE hth H locs ls hH hl hc
  have B := K.1
  have hl9 := K.2.2.2.2.2.2
  unfold w_X9_playTurn_151 at h
  refine lv_astoreQ (lv' := [(6, va_rf u0), (0, .ref th), (1, va_rf v1), (3, .int (i32 v3)), (4, .int (i32 v4)), (5, .int (i32 v5))]) B.1 B.2.1 dX9_playTurn_151 hl (by decide) rfl (fun ls hl => ?_)
  refine lv_aload_n B.1 B.2.1 dX9_playTurn_153 rfl (lv_at hl 1 rfl) ?_
  refine lv_iconst (v := i32 1) B.1 B.2.1 dX9_playTurn_154 (by decide) ?_
  obtain ⟨σ57, eσ57⟩ : ∃ z, z = pI σ th 16 1 := ⟨_, rfl⟩
  have h := h σ57 eσ57
  refine f_puti B hH hth (by decide) rfl wu_X9 tyX9 tyX9_ok nmX9 16 (by decide) wf_X9_84 rfl (ty := .boolean) rfl rfl rfl rfl rfl dX9_playTurn_155 (fun H locs hH => ?_)
  have hH : Hd D cA A s (pI σ th 16 1) H locs := hH
  rw [← eσ57] at hH
  have hGσ57 : RG σ57 := by rw [eσ57]; exact hGσ.pI (by unfold rng; omega)
  have hYσ57 : TY σ57 := by rw [eσ57]; exact hYσ.pI
  have xσ57 : Ext σ σ57 := by rw [eσ57]; exact Ext.pI
  have hc : CB n0 s0 σ57 := by rw [eσ57]; exact hc
  rw [show gc σ = gc σ57 by rw [eσ57]; try rfl, show gs σ = gs σ57 by rw [eσ57]; try rfl]
  refine lv_aload_n B.1 B.2.1 dX9_playTurn_158 rfl (lv_at hl 1 rfl) ?_
  refine f_getp B hH (hth.up xσ57) (by decide) rfl wu_X9 0 (by decide) wf_X9_48 rfl rfl dX9_playTurn_159 ?_
  refine lv_iload B.1 B.2.1 dX9_playTurn_162 (lv_at hl 4 rfl) ?_
  obtain ⟨a58, ea58, h⟩ := h
  have ka58 : kO σ57 a58 8 := (hYσ57.get (hth.up xσ57) (by decide)) a58 ea58
  have h := h ka58
  obtain ⟨σ59, eσ59⟩ : ∃ z, z = pI σ57 a58 1 v4 := ⟨_, rfl⟩
  have h := h σ59 eσ59
  refine W.eq (g2 := F0 m 164 ls [.int (i32 v4), .ref a58]) (by rw [ea58]; rfl) ?_
  refine f_puti B hH ka58 (by decide) rfl wu_X8 tyX8 tyX8_ok nmX8 1 (by decide) wf_X9_74 rfl (ty := .int) rfl rfl rfl rfl rfl dX9_playTurn_164 (fun H locs hH => ?_)
  have hH : Hd D cA A s (pI σ57 a58 1 v4) H locs := hH
  rw [← eσ59] at hH
  have hGσ59 : RG σ59 := by rw [eσ59]; exact hGσ57.pI g4
  have hYσ59 : TY σ59 := by rw [eσ59]; exact hYσ57.pI
  have xσ59 : Ext σ57 σ59 := by rw [eσ59]; exact Ext.pI
  have hc : CB n0 s0 σ59 := by rw [eσ59]; exact hc
  rw [show gc σ57 = gc σ59 by rw [eσ59]; try rfl, show gs σ57 = gs σ59 by rw [eσ59]; try rfl]
  refine lv_aload_n B.1 B.2.1 dX9_playTurn_167 rfl (lv_at hl 1 rfl) ?_
  refine f_getp B hH (hth.up (xσ57.trans xσ59)) (by decide) rfl wu_X9 2 (by decide) wf_X9_12 rfl rfl dX9_playTurn_168 ?_
  refine lv_iload B.1 B.2.1 dX9_playTurn_171 (lv_at hl 5 rfl) ?_
  obtain ⟨a60, ea60, h⟩ := h
  have ka60 : kO σ59 a60 3 := (hYσ59.get (hth.up (xσ57.trans xσ59)) (by decide)) a60 ea60
  have h := h ka60
  obtain ⟨σ61, eσ61⟩ : ∃ z, z = pI σ59 a60 8 v5 := ⟨_, rfl⟩
  have h := h σ61 eσ61
  refine W.eq (g2 := F0 m 173 ls [.int (i32 v5), .ref a60]) (by rw [ea60]; rfl) ?_
  refine f_puti B hH ka60 (by decide) rfl wu_X3 tyX3 tyX3_ok nmX3 8 (by decide) wf_X9_264 rfl (ty := .int) rfl rfl rfl rfl rfl dX9_playTurn_173 (fun H locs hH => ?_)
  have hH : Hd D cA A s (pI σ59 a60 8 v5) H locs := hH
  rw [← eσ61] at hH
  have hGσ61 : RG σ61 := by rw [eσ61]; exact hGσ59.pI g5
  have hYσ61 : TY σ61 := by rw [eσ61]; exact hYσ59.pI
  have xσ61 : Ext σ59 σ61 := by rw [eσ61]; exact Ext.pI
  have hc : CB n0 s0 σ61 := by rw [eσ61]; exact hc
  rw [show gc σ59 = gc σ61 by rw [eσ61]; try rfl, show gs σ59 = gs σ61 by rw [eσ61]; try rfl]
  refine lv_aload_n B.1 B.2.1 dX9_playTurn_176 rfl (lv_at hl 1 rfl) ?_
  refine f_getp B hH (hth.up (xσ57.trans (xσ59.trans xσ61))) (by decide) rfl wu_X9 0 (by decide) wf_X9_48 rfl rfl dX9_playTurn_177 ?_
  refine lv_aload_n B.1 B.2.1 dX9_playTurn_180 rfl (lv_at hl 1 rfl) ?_
  refine f_getp B hH (hth.up (xσ57.trans (xσ59.trans xσ61))) (by decide) rfl wu_X9 1 (by decide) wf_X9_57 rfl rfl dX9_playTurn_181 ?_
  obtain ⟨a62, ea62, h⟩ := h
  have ka62 : kO σ61 a62 11 := (hYσ61.get (hth.up (xσ57.trans (xσ59.trans xσ61))) (by decide)) a62 ea62
  have h := h ka62
  refine W.eq (g2 := F0 m 184 ls [.ref a62, va_rf (gP σ61 th 0)]) (by rw [ea62]; rfl) ?_
  refine f_getp B hH ka62 (by decide) rfl wu_X11 2 (by decide) wf_X9_280 rfl rfl dX9_playTurn_184 ?_
  obtain ⟨a64, ea64, h⟩ := h
  have ka64 : kO σ61 a64 8 := (hYσ61.get (hth.up (xσ57.trans (xσ59.trans xσ61))) (by decide)) a64 ea64
  have h := h ka64
  refine W.eq (g2 := F0 m 187 ls [va_rf (gP σ61 a62 2), .ref a64]) (by rw [ea64]; rfl) ?_
  refine c_V B hH hl hc K.2.2.1 (C := RX8) (T := TX8) (N := 3) (ci := 8) (As := [va_rf (gP σ61 a62 2)]) (ok_X8_releaseAll hl9 K.2.1 σ61 a64 (gP σ61 a62 2) (hYσ61.get ka62 (by decide)) ka64 hGσ61 hYσ61 h) wc_X9_64 1 hd_X8_releaseAll ⟨Nat.le_trans (Nat.le_of_ble_eq_true rfl) K.2.2.2.1, Nat.le_trans (Nat.le_of_ble_eq_true rfl) K.2.2.2.2.1⟩ ka64.1 ka64.2 (by decide) rfl rfl (rest := []) rfl (Nat.le_of_ble_eq_true rfl) dX9_playTurn_187 (fun σ63 w hq => ?_) (fun σ9 E9 hx9 => hX σ9 E9 _ _ _ (tb_out K.2.2.2.2.2.1 rfl) hx9.1 hx9.2.1 hx9.2.2.1 ((((hE.trans xσ57).trans xσ59).trans xσ61).trans hx9.2.2.2))
  obtain ⟨rfl, h, hGσ63, hYσ63, xσ63⟩ := hq
  have h := h xσ63
  intro H locs ls hH hl hc
  refine W.eq (g2 := F0 m 190 ls []) (rfl) ?_
  try dsimp only at h
  exact a_X9_playTurn_190 K hQ hX _ _ _ (g1.up (xσ57.trans (xσ59.trans (xσ61.trans xσ63)))) g3 h hGσ63 hYσ63 ((((hE.trans xσ57).trans xσ59).trans xσ61).trans xσ63) (hth.up (xσ57.trans (xσ59.trans (xσ61.trans xσ63)))) _ _ _ hH (lv_sub (l' := [(0, .ref th), (1, va_rf v1), (3, .int (i32 v3))]) hl [1, 2, 3] rfl) hc
set_option maxRecDepth 20000 in
theorem a_X9_playTurn_148 {Q : Sg → Int → Prop} {X : Sg → String → Prop} {th : Nat} (K : MD l R p s m args c cX9_playTurn 7 RX9 D cA tys A n0 s0 12 247 [(91, 148, 151, 278)]) (hQ : CQI p l e R s m args below meth c cX9_playTurn D cA A n0 s0 QM σi Q) (hX : CX p l e R s m args below meth c 7 D cA A n0 s0 QM σi X) : ∀ (σ : Sg) (v1 : Option Nat) (v3 : Int) (g1 : tyV σ 10 v1) (g3 : rng v3), w_X9_playTurn_148 th Q X σ v1 v3 → RG σ → TY σ → Ext σi σ → kO σ th 9 → JJ p l e R s m args below meth c 7 D cA A n0 s0 QM σ 148 [(0, .ref th), (1, va_rf v1), (3, .int (i32 v3))] [] := by
  intro σ v1 v3 g1 g3 h hGσ hYσ hE hth H locs ls hH hl hc
  have B := K.1
  have hl9 := K.2.2.2.2.2.2
  unfold w_X9_playTurn_148 at h
  refine lv_goto (tgt := 190) B.1 B.2.1 dX9_playTurn_148 (by decide) ?_
  exact a_X9_playTurn_190 K hQ hX _ _ _ g1 g3 h hGσ hYσ hE hth _ _ _ hH (lv_sub (l' := [(0, .ref th), (1, va_rf v1), (3, .int (i32 v3))]) hl [0, 1, 2] rfl) hc
set_option maxRecDepth 20000 in
theorem a_X9_playTurn_138 {Q : Sg → Int → Prop} {X : Sg → String → Prop} {th : Nat} (K : MD l R p s m args c cX9_playTurn 7 RX9 D cA tys A n0 s0 12 247 [(91, 148, 151, 278)]) (hQ : CQI p l e R s m args below meth c cX9_playTurn D cA A n0 s0 QM σi Q) (hX : CX p l e R s m args below meth c 7 D cA A n0 s0 QM σi X) : ∀ (σ : Sg) (v1 : Option Nat) (v3 : Int) (v4 : Int) (v5 : Int) (u0 : Int) (u1 : Int) (g1 : tyV σ 10 v1) (g3 : rng v3) (g4 : rng v4) (g5 : rng v5) (gu0 : rng u0) (gu1 : rng u1), w_X9_playTurn_138 th Q X σ v1 v3 v4 v5 u0 u1 → RG σ → TY σ → Ext σi σ → kO σ th 9 → JJ p l e R s m args below meth c 7 D cA A n0 s0 QM σ 138 [(0, .ref th), (1, va_rf v1), (3, .int (i32 v3)), (4, .int (i32 v4)), (5, .int (i32 v5))] [.int (i32 u0), .int (i32 u1), .ref th] := by
  intro σ v1 v3 v4 v5 u0 u1 g1 g3 g4 g5 gu0 gu1 h hGσ hYσ hE hth H locs ls hH hl hc
  have B := K.1
  have hl9 := K.2.2.2.2.2.2
  unfold w_X9_playTurn_138 at h
  refine lv_iadd B.1 B.2.1 dX9_playTurn_138 ?_
  rw [i32_add]
  refine W.eq (g2 := F0 m 139 ls [.int (i32 (wr (u1 + u0))), .ref th]) (by rw [i32_wr]) ?_
  obtain ⟨σ65, eσ65⟩ : ∃ z, z = pI σ th 18 (wr (u1 + u0)) := ⟨_, rfl⟩
  have h := h σ65 eσ65
  refine f_puti B hH hth (by decide) rfl wu_X9 tyX9 tyX9_ok nmX9 18 (by decide) wf_X9_91 rfl (ty := .int) rfl rfl rfl rfl rfl dX9_playTurn_139 (fun H locs hH => ?_)
  have hH : Hd D cA A s (pI σ th 18 (wr (u1 + u0))) H locs := hH
  rw [← eσ65] at hH
  have hGσ65 : RG σ65 := by rw [eσ65]; exact hGσ.pI (rng_wr _)
  have hYσ65 : TY σ65 := by rw [eσ65]; exact hYσ.pI
  have xσ65 : Ext σ σ65 := by rw [eσ65]; exact Ext.pI
  have hc : CB n0 s0 σ65 := by rw [eσ65]; exact hc
  rw [show gc σ = gc σ65 by rw [eσ65]; try rfl, show gs σ = gs σ65 by rw [eσ65]; try rfl]
  refine lv_aload_n B.1 B.2.1 dX9_playTurn_142 rfl (lv_at hl 0 rfl) ?_
  refine lv_aload_nQ B.1 B.2.1 dX9_playTurn_143 rfl (lv_at hl 1 rfl) ?_
  refine W.eq (g2 := F0 m 144 ls [va_rf v1, .ref th]) (rfl) ?_
  refine c_V B hH hl hc K.2.2.1 (C := RX9) (T := TX9) (N := 20) (ci := 9) (As := [va_rf v1]) (ok_X9_unload hl9 K.2.1 σ65 th v1 (g1.up xσ65) (hth.up xσ65) hGσ65 hYσ65 h) wc_X9_267 1 hd_X9_unload ⟨Nat.le_trans (Nat.le_of_ble_eq_true rfl) K.2.2.2.1, Nat.le_trans (Nat.le_of_ble_eq_true rfl) K.2.2.2.2.1⟩ (hth.up xσ65).1 (hth.up xσ65).2 (by decide) rfl rfl (rest := []) rfl (Nat.le_of_ble_eq_true rfl) dX9_playTurn_144 (fun σ66 w hq => ?_) (fun σ9 E9 hx9 => (by obtain ⟨h9, hG9, hY9, xσ9⟩ := hx9; obtain ⟨rfl, h⟩ := h9 xσ9; exact h_catchP B [] (K.2.2.2.2.2.1.trans rfl) rfl rfl (by decide) wl_X9_278 (by decide) (fun q9 H locs ls hH hl hc => a_X9_playTurn_151 K hQ hX σ9 _ _ _ _ (some q9) (g1.up (xσ65.trans xσ9)) g3 g4 g5 (h (some q9)) hG9 hY9 ((hE.trans xσ65).trans xσ9) (hth.up (xσ65.trans xσ9)) H locs ls hH (lv_sub (l' := [(0, .ref th), (1, va_rf v1), (3, .int (i32 v3)), (4, .int (i32 v4)), (5, .int (i32 v5))]) hl [0, 1, 2, 3, 4] rfl) hc)))
  obtain ⟨r67, rfl, ⟨gr67, gzr67⟩, h, hGσ66, hYσ66, xσ66⟩ := hq
  have h := h xσ66
  intro H locs ls hH hl hc
  refine W.eq (g2 := F0 m 147 ls [.int (i32 r67)]) (rfl) ?_
  try dsimp only at h
  refine lv_pop B.1 B.2.1 dX9_playTurn_147 rfl ?_
  exact a_X9_playTurn_148 K hQ hX _ _ _ (g1.up (xσ65.trans xσ66)) g3 h hGσ66 hYσ66 ((hE.trans xσ65).trans xσ66) (hth.up (xσ65.trans xσ66)) _ _ _ hH (lv_sub (l' := [(0, .ref th), (1, va_rf v1), (3, .int (i32 v3))]) hl [0, 1, 2] rfl) hc
set_option maxRecDepth 20000 in
theorem a_X9_playTurn_137 {Q : Sg → Int → Prop} {X : Sg → String → Prop} {th : Nat} (K : MD l R p s m args c cX9_playTurn 7 RX9 D cA tys A n0 s0 12 247 [(91, 148, 151, 278)]) (hQ : CQI p l e R s m args below meth c cX9_playTurn D cA A n0 s0 QM σi Q) (hX : CX p l e R s m args below meth c 7 D cA A n0 s0 QM σi X) : ∀ (σ : Sg) (v1 : Option Nat) (v3 : Int) (v4 : Int) (v5 : Int) (u0 : Int) (g1 : tyV σ 10 v1) (g3 : rng v3) (g4 : rng v4) (g5 : rng v5) (gu0 : rng u0), w_X9_playTurn_137 th Q X σ v1 v3 v4 v5 u0 → RG σ → TY σ → Ext σi σ → kO σ th 9 → JJ p l e R s m args below meth c 7 D cA A n0 s0 QM σ 137 [(0, .ref th), (1, va_rf v1), (3, .int (i32 v3)), (4, .int (i32 v4)), (5, .int (i32 v5))] [.int (i32 u0), .ref th] := by
  intro σ v1 v3 v4 v5 u0 g1 g3 g4 g5 gu0 h hGσ hYσ hE hth H locs ls hH hl hc
  have B := K.1
  have hl9 := K.2.2.2.2.2.2
  unfold w_X9_playTurn_137 at h
  refine lv_iconst (v := i32 1) B.1 B.2.1 dX9_playTurn_137 (by decide) ?_
  exact a_X9_playTurn_138 K hQ hX _ _ _ _ _ _ _ g1 g3 g4 g5 (by unfold rng; omega) gu0 h hGσ hYσ hE hth _ _ _ hH (lv_sub (l' := [(0, .ref th), (1, va_rf v1), (3, .int (i32 v3)), (4, .int (i32 v4)), (5, .int (i32 v5))]) hl [0, 1, 2, 3, 4] rfl) hc
set_option maxRecDepth 20000 in
theorem a_X9_playTurn_133 {Q : Sg → Int → Prop} {X : Sg → String → Prop} {th : Nat} (K : MD l R p s m args c cX9_playTurn 7 RX9 D cA tys A n0 s0 12 247 [(91, 148, 151, 278)]) (hQ : CQI p l e R s m args below meth c cX9_playTurn D cA A n0 s0 QM σi Q) (hX : CX p l e R s m args below meth c 7 D cA A n0 s0 QM σi X) : ∀ (σ : Sg) (v1 : Option Nat) (v3 : Int) (v4 : Int) (v5 : Int) (u0 : Int) (g1 : tyV σ 10 v1) (g3 : rng v3) (g4 : rng v4) (g5 : rng v5) (gu0 : rng u0), w_X9_playTurn_133 th Q X σ v1 v3 v4 v5 u0 → RG σ → TY σ → Ext σi σ → kO σ th 9 → JJ p l e R s m args below meth c 7 D cA A n0 s0 QM σ 133 [(0, .ref th), (1, va_rf v1), (3, .int (i32 v3)), (4, .int (i32 v4)), (5, .int (i32 v5))] [.int (i32 u0), .ref th] := by
  intro σ v1 v3 v4 v5 u0 g1 g3 g4 g5 gu0 h hGσ hYσ hE hth H locs ls hH hl hc
  have B := K.1
  have hl9 := K.2.2.2.2.2.2
  unfold w_X9_playTurn_133 at h
  refine lv_iconst (v := i32 0) B.1 B.2.1 dX9_playTurn_133 (by decide) ?_
  refine lv_goto (tgt := 138) B.1 B.2.1 dX9_playTurn_134 (by decide) ?_
  exact a_X9_playTurn_138 K hQ hX _ _ _ _ _ _ _ g1 g3 g4 g5 (by unfold rng; omega) gu0 h hGσ hYσ hE hth _ _ _ hH (lv_sub (l' := [(0, .ref th), (1, va_rf v1), (3, .int (i32 v3)), (4, .int (i32 v4)), (5, .int (i32 v5))]) hl [0, 1, 2, 3, 4] rfl) hc
set_option maxRecDepth 20000 in
theorem a_X9_playTurn_121 {Q : Sg → Int → Prop} {X : Sg → String → Prop} {th : Nat} (K : MD l R p s m args c cX9_playTurn 7 RX9 D cA tys A n0 s0 12 247 [(91, 148, 151, 278)]) (hQ : CQI p l e R s m args below meth c cX9_playTurn D cA A n0 s0 QM σi Q) (hX : CX p l e R s m args below meth c 7 D cA A n0 s0 QM σi X) : ∀ (σ : Sg) (v1 : Option Nat) (v3 : Int) (v4 : Int) (v5 : Int) (u0 : Int) (g1 : tyV σ 10 v1) (g3 : rng v3) (g4 : rng v4) (g5 : rng v5) (gu0 : rng u0), w_X9_playTurn_121 th Q X σ v1 v3 v4 v5 u0 → RG σ → TY σ → Ext σi σ → kO σ th 9 → JJ p l e R s m args below meth c 7 D cA A n0 s0 QM σ 121 [(0, .ref th), (1, va_rf v1), (3, .int (i32 v3)), (4, .int (i32 v4)), (5, .int (i32 v5))] [.int (i32 u0)] := by
  intro σ v1 v3 v4 v5 u0 g1 g3 g4 g5 gu0 h hGσ hYσ hE hth H locs ls hH hl hc
  have B := K.1
  have hl9 := K.2.2.2.2.2.2
  unfold w_X9_playTurn_121 at h
  refine lv_istore (lv' := [(6, .int (i32 u0)), (0, .ref th), (1, va_rf v1), (3, .int (i32 v3)), (4, .int (i32 v4)), (5, .int (i32 v5))]) B.1 B.2.1 dX9_playTurn_121 hl (by decide) rfl (fun ls hl => ?_)
  refine lv_aload_n B.1 B.2.1 dX9_playTurn_123 rfl (lv_at hl 1 rfl) ?_
  refine lv_dup B.1 B.2.1 dX9_playTurn_124 rfl ?_
  refine f_geti B hH hth (by decide) rfl wu_X9 18 (by decide) wf_X9_91 rfl rfl dX9_playTurn_125 ?_
  refine lv_iload B.1 B.2.1 dX9_playTurn_128 (lv_at hl 0 rfl) ?_
  refine lv_if_eq (tgt := 137) B.1 B.2.1 dX9_playTurn_130 (by decide) (fun h9 => ?_) (fun h9 => ?_)
  · rw [if_pos ((z_eq gu0).mp h9)] at h
    exact a_X9_playTurn_137 K hQ hX _ _ _ _ _ _ g1 g3 g4 g5 (hGσ _ _) h hGσ hYσ hE hth _ _ _ hH (lv_sub (l' := [(0, .ref th), (1, va_rf v1), (3, .int (i32 v3)), (4, .int (i32 v4)), (5, .int (i32 v5))]) hl [1, 2, 3, 4, 5] rfl) hc
  · rw [if_neg (fun q => h9 ((z_eq gu0).mpr q))] at h
    exact a_X9_playTurn_133 K hQ hX _ _ _ _ _ _ g1 g3 g4 g5 (hGσ _ _) h hGσ hYσ hE hth _ _ _ hH (lv_sub (l' := [(0, .ref th), (1, va_rf v1), (3, .int (i32 v3)), (4, .int (i32 v4)), (5, .int (i32 v5))]) hl [1, 2, 3, 4, 5] rfl) hc
set_option maxRecDepth 20000 in
theorem a_X9_playTurn_115 {Q : Sg → Int → Prop} {X : Sg → String → Prop} {th : Nat} (K : MD l R p s m args c cX9_playTurn 7 RX9 D cA tys A n0 s0 12 247 [(91, 148, 151, 278)]) (hQ : CQI p l e R s m args below meth c cX9_playTurn D cA A n0 s0 QM σi Q) (hX : CX p l e R s m args below meth c 7 D cA A n0 s0 QM σi X) : ∀ (σ : Sg) (v1 : Option Nat) (v2 : Option Nat) (v3 : Int) (v4 : Int) (v5 : Int) (g1 : tyV σ 10 v1) (g2 : tyV σ 5 v2) (g3 : rng v3) (g4 : rng v4) (g5 : rng v5), w_X9_playTurn_115 th Q X σ v1 v2 v3 v4 v5 → RG σ → TY σ → Ext σi σ → kO σ th 9 → JJ p l e R s m args below meth c 7 D cA A n0 s0 QM σ 115 [(0, .ref th), (1, va_rf v1), (2, va_rf v2), (3, .int (i32 v3)), (4, .int (i32 v4)), (5, .int (i32 v5))] [] := by
  intro σ v1 v2 v3 v4 v5 g1 g2 g3 g4 g5 h hGσ hYσ hE hth H locs ls hH hl hc
  have B := K.1
  have hl9 := K.2.2.2.2.2.2
  unfold w_X9_playTurn_115 at h
  refine lv_aload_n B.1 B.2.1 dX9_playTurn_115 rfl (lv_at hl 0 rfl) ?_
  refine lv_aload_nQ B.1 B.2.1 dX9_playTurn_116 rfl (lv_at hl 1 rfl) ?_
  refine lv_aload_nQ B.1 B.2.1 dX9_playTurn_117 rfl (lv_at hl 2 rfl) ?_
  refine W.eq (g2 := F0 m 118 ls [va_rf v2, va_rf v1, .ref th]) (rfl) ?_
  refine c_V B hH hl hc K.2.2.1 (C := RX9) (T := TX9) (N := 20) (ci := 9) (As := [va_rf v1, va_rf v2]) (ok_X9_takeThing hl9 K.2.1 σ th v1 v2 g1 g2 hth hGσ hYσ h) wc_X9_275 2 hd_X9_takeThing ⟨Nat.le_trans (Nat.le_of_ble_eq_true rfl) K.2.2.2.1, Nat.le_trans (Nat.le_of_ble_eq_true rfl) K.2.2.2.2.1⟩ hth.1 hth.2 (by decide) rfl rfl (rest := []) rfl (Nat.le_of_ble_eq_true rfl) dX9_playTurn_118 (fun σ68 w hq => ?_) (fun σ9 E9 hx9 => (by obtain ⟨h9, hG9, hY9, xσ9⟩ := hx9; obtain ⟨rfl, h⟩ := h9 xσ9; exact h_catchP B [] (K.2.2.2.2.2.1.trans rfl) rfl rfl (by decide) wl_X9_278 (by decide) (fun q9 H locs ls hH hl hc => a_X9_playTurn_151 K hQ hX σ9 _ _ _ _ (some q9) (g1.up xσ9) g3 g4 g5 (h (some q9)) hG9 hY9 (hE.trans xσ9) (hth.up xσ9) H locs ls hH (lv_sub (l' := [(0, .ref th), (1, va_rf v1), (3, .int (i32 v3)), (4, .int (i32 v4)), (5, .int (i32 v5))]) hl [0, 1, 3, 4, 5] rfl) hc)))
  obtain ⟨r69, rfl, ⟨gr69, gzr69⟩, h, hGσ68, hYσ68, xσ68⟩ := hq
  have h := h xσ68
  intro H locs ls hH hl hc
  refine W.eq (g2 := F0 m 121 ls [.int (i32 r69)]) (rfl) ?_
  try dsimp only at h
  exact a_X9_playTurn_121 K hQ hX _ _ _ _ _ _ (g1.up xσ68) g3 g4 g5 gr69 h hGσ68 hYσ68 (hE.trans xσ68) (hth.up xσ68) _ _ _ hH (lv_sub (l' := [(0, .ref th), (1, va_rf v1), (3, .int (i32 v3)), (4, .int (i32 v4)), (5, .int (i32 v5))]) hl [0, 1, 3, 4, 5] rfl) hc
set_option maxRecDepth 20000 in
theorem a_X9_playTurn_106 {Q : Sg → Int → Prop} {X : Sg → String → Prop} {th : Nat} (K : MD l R p s m args c cX9_playTurn 7 RX9 D cA tys A n0 s0 12 247 [(91, 148, 151, 278)]) (hQ : CQI p l e R s m args below meth c cX9_playTurn D cA A n0 s0 QM σi Q) (hX : CX p l e R s m args below meth c 7 D cA A n0 s0 QM σi X) : ∀ (σ : Sg) (v1 : Option Nat) (v2 : Option Nat) (v3 : Int) (v4 : Int) (v5 : Int) (g1 : tyV σ 10 v1) (g2 : tyV σ 5 v2) (g3 : rng v3) (g4 : rng v4) (g5 : rng v5), w_X9_playTurn_106 th Q X σ v1 v2 v3 v4 v5 → RG σ → TY σ → Ext σi σ → kO σ th 9 → JJ p l e R s m args below meth c 7 D cA A n0 s0 QM σ 106 [(0, .ref th), (1, va_rf v1), (2, va_rf v2), (3, .int (i32 v3)), (4, .int (i32 v4)), (5, .int (i32 v5))] [] := by
  intro σ v1 v2 v3 v4 v5 g1 g2 g3 g4 g5 h hGσ hYσ hE hth H locs ls hH hl hc
  have B := K.1
  have hl9 := K.2.2.2.2.2.2
  unfold w_X9_playTurn_106 at h
  refine lv_aload_n B.1 B.2.1 dX9_playTurn_106 rfl (lv_at hl 0 rfl) ?_
  refine lv_aload_nQ B.1 B.2.1 dX9_playTurn_107 rfl (lv_at hl 1 rfl) ?_
  refine lv_aload_nQ B.1 B.2.1 dX9_playTurn_108 rfl (lv_at hl 2 rfl) ?_
  refine W.eq (g2 := F0 m 109 ls [va_rf v2, va_rf v1, .ref th]) (rfl) ?_
  refine c_V B hH hl hc K.2.2.1 (C := RX9) (T := TX9) (N := 20) (ci := 9) (As := [va_rf v1, va_rf v2]) (ok_X9_actAsSource hl9 K.2.1 σ th v1 v2 g1 g2 hth hGσ hYσ h) wc_X9_271 2 hd_X9_actAsSource ⟨Nat.le_trans (Nat.le_of_ble_eq_true rfl) K.2.2.2.1, Nat.le_trans (Nat.le_of_ble_eq_true rfl) K.2.2.2.2.1⟩ hth.1 hth.2 (by decide) rfl rfl (rest := []) rfl (Nat.le_of_ble_eq_true rfl) dX9_playTurn_109 (fun σ70 w hq => ?_) (fun σ9 E9 hx9 => (by obtain ⟨h9, hG9, hY9, xσ9⟩ := hx9; obtain ⟨rfl, h⟩ := h9 xσ9; exact h_catchP B [] (K.2.2.2.2.2.1.trans rfl) rfl rfl (by decide) wl_X9_278 (by decide) (fun q9 H locs ls hH hl hc => a_X9_playTurn_151 K hQ hX σ9 _ _ _ _ (some q9) (g1.up xσ9) g3 g4 g5 (h (some q9)) hG9 hY9 (hE.trans xσ9) (hth.up xσ9) H locs ls hH (lv_sub (l' := [(0, .ref th), (1, va_rf v1), (3, .int (i32 v3)), (4, .int (i32 v4)), (5, .int (i32 v5))]) hl [0, 1, 3, 4, 5] rfl) hc)))
  obtain ⟨r71, rfl, ⟨gr71, gzr71⟩, h, hGσ70, hYσ70, xσ70⟩ := hq
  have h := h xσ70
  intro H locs ls hH hl hc
  refine W.eq (g2 := F0 m 112 ls [.int (i32 r71)]) (rfl) ?_
  try dsimp only at h
  refine lv_goto (tgt := 121) B.1 B.2.1 dX9_playTurn_112 (by decide) ?_
  exact a_X9_playTurn_121 K hQ hX _ _ _ _ _ _ (g1.up xσ70) g3 g4 g5 gr71 h hGσ70 hYσ70 (hE.trans xσ70) (hth.up xσ70) _ _ _ hH (lv_sub (l' := [(0, .ref th), (1, va_rf v1), (3, .int (i32 v3)), (4, .int (i32 v4)), (5, .int (i32 v5))]) hl [0, 1, 3, 4, 5] rfl) hc
set_option maxRecDepth 20000 in
theorem a_X9_playTurn_99 {Q : Sg → Int → Prop} {X : Sg → String → Prop} {th : Nat} (K : MD l R p s m args c cX9_playTurn 7 RX9 D cA tys A n0 s0 12 247 [(91, 148, 151, 278)]) (hQ : CQI p l e R s m args below meth c cX9_playTurn D cA A n0 s0 QM σi Q) (hX : CX p l e R s m args below meth c 7 D cA A n0 s0 QM σi X) : ∀ (σ : Sg) (v1 : Option Nat) (v2 : Option Nat) (v3 : Int) (v4 : Int) (v5 : Int) (g1 : tyV σ 10 v1) (g2 : tyV σ 5 v2) (g3 : rng v3) (g4 : rng v4) (g5 : rng v5), w_X9_playTurn_99 th Q X σ v1 v2 v3 v4 v5 → RG σ → TY σ → Ext σi σ → kO σ th 9 → JJ p l e R s m args below meth c 7 D cA A n0 s0 QM σ 99 [(0, .ref th), (1, va_rf v1), (2, va_rf v2), (3, .int (i32 v3)), (4, .int (i32 v4)), (5, .int (i32 v5))] [] := by
  intro σ v1 v2 v3 v4 v5 g1 g2 g3 g4 g5 h hGσ hYσ hE hth H locs ls hH hl hc
  have B := K.1
  have hl9 := K.2.2.2.2.2.2
  unfold w_X9_playTurn_99 at h
  refine lv_aload_nQ B.1 B.2.1 dX9_playTurn_99 rfl (lv_at hl 2 rfl) ?_
  obtain ⟨a72, ea72, h⟩ := h
  have ka72 : kO σ a72 5 := g2 a72 ea72
  have h := h ka72
  refine W.eq (g2 := F0 m 100 ls [.ref a72]) (by rw [ea72]; rfl) ?_
  refine f_geti B hH ka72 (by decide) rfl wu_X5 6 (by decide) wf_X9_164 rfl rfl dX9_playTurn_100 ?_
  refine lv_if_ne (tgt := 115) B.1 B.2.1 dX9_playTurn_103 (by decide) (fun h9 => ?_) (fun h9 => ?_)
  · rw [if_pos (fun q => h9 ((z_eq (hGσ _ _)).mpr q))] at h
    exact a_X9_playTurn_115 K hQ hX _ _ _ _ _ _ g1 g2 g3 g4 g5 h hGσ hYσ hE hth _ _ _ hH (lv_sub (l' := [(0, .ref th), (1, va_rf v1), (2, va_rf v2), (3, .int (i32 v3)), (4, .int (i32 v4)), (5, .int (i32 v5))]) hl [0, 1, 2, 3, 4, 5] rfl) hc
  · rw [if_neg (fun q => q ((z_eq (hGσ _ _)).mp h9))] at h
    exact a_X9_playTurn_106 K hQ hX _ _ _ _ _ _ g1 g2 g3 g4 g5 h hGσ hYσ hE hth _ _ _ hH (lv_sub (l' := [(0, .ref th), (1, va_rf v1), (2, va_rf v2), (3, .int (i32 v3)), (4, .int (i32 v4)), (5, .int (i32 v5))]) hl [0, 1, 2, 3, 4, 5] rfl) hc
set_option maxRecDepth 20000 in
theorem a_X9_playTurn_91 {Q : Sg → Int → Prop} {X : Sg → String → Prop} {th : Nat} (K : MD l R p s m args c cX9_playTurn 7 RX9 D cA tys A n0 s0 12 247 [(91, 148, 151, 278)]) (hQ : CQI p l e R s m args below meth c cX9_playTurn D cA A n0 s0 QM σi Q) (hX : CX p l e R s m args below meth c 7 D cA A n0 s0 QM σi X) : ∀ (σ : Sg) (v1 : Option Nat) (v2 : Option Nat) (v3 : Int) (v4 : Int) (v5 : Int) (g1 : tyV σ 10 v1) (g2 : tyV σ 5 v2) (g3 : rng v3) (g4 : rng v4) (g5 : rng v5), w_X9_playTurn_91 th Q X σ v1 v2 v3 v4 v5 → RG σ → TY σ → Ext σi σ → kO σ th 9 → JJ p l e R s m args below meth c 7 D cA A n0 s0 QM σ 91 [(0, .ref th), (1, va_rf v1), (2, va_rf v2), (3, .int (i32 v3)), (4, .int (i32 v4)), (5, .int (i32 v5))] [] := by
  intro σ v1 v2 v3 v4 v5 g1 g2 g3 g4 g5 h hGσ hYσ hE hth H locs ls hH hl hc
  have B := K.1
  have hl9 := K.2.2.2.2.2.2
  unfold w_X9_playTurn_91 at h
  refine lv_aload_n B.1 B.2.1 dX9_playTurn_91 rfl (lv_at hl 0 rfl) ?_
  refine lv_aload_nQ B.1 B.2.1 dX9_playTurn_92 rfl (lv_at hl 1 rfl) ?_
  refine W.eq (g2 := F0 m 93 ls [va_rf v1, .ref th]) (rfl) ?_
  refine c_V B hH hl hc K.2.2.1 (C := RX9) (T := TX9) (N := 20) (ci := 9) (As := [va_rf v1]) (ok_X9_unload hl9 K.2.1 σ th v1 g1 hth hGσ hYσ h) wc_X9_267 1 hd_X9_unload ⟨Nat.le_trans (Nat.le_of_ble_eq_true rfl) K.2.2.2.1, Nat.le_trans (Nat.le_of_ble_eq_true rfl) K.2.2.2.2.1⟩ hth.1 hth.2 (by decide) rfl rfl (rest := []) rfl (Nat.le_of_ble_eq_true rfl) dX9_playTurn_93 (fun σ73 w hq => ?_) (fun σ9 E9 hx9 => (by obtain ⟨h9, hG9, hY9, xσ9⟩ := hx9; obtain ⟨rfl, h⟩ := h9 xσ9; exact h_catchP B [] (K.2.2.2.2.2.1.trans rfl) rfl rfl (by decide) wl_X9_278 (by decide) (fun q9 H locs ls hH hl hc => a_X9_playTurn_151 K hQ hX σ9 _ _ _ _ (some q9) (g1.up xσ9) g3 g4 g5 (h (some q9)) hG9 hY9 (hE.trans xσ9) (hth.up xσ9) H locs ls hH (lv_sub (l' := [(0, .ref th), (1, va_rf v1), (3, .int (i32 v3)), (4, .int (i32 v4)), (5, .int (i32 v5))]) hl [0, 1, 3, 4, 5] rfl) hc)))
  obtain ⟨r74, rfl, ⟨gr74, gzr74⟩, h, hGσ73, hYσ73, xσ73⟩ := hq
  have h := h xσ73
  intro H locs ls hH hl hc
  refine W.eq (g2 := F0 m 96 ls [.int (i32 r74)]) (rfl) ?_
  try dsimp only at h
  refine lv_if_eq (tgt := 148) B.1 B.2.1 dX9_playTurn_96 (by decide) (fun h9 => ?_) (fun h9 => ?_)
  · rw [if_pos ((z_eq gr74).mp h9)] at h
    exact a_X9_playTurn_148 K hQ hX _ _ _ (g1.up xσ73) g3 h hGσ73 hYσ73 (hE.trans xσ73) (hth.up xσ73) _ _ _ hH (lv_sub (l' := [(0, .ref th), (1, va_rf v1), (3, .int (i32 v3))]) hl [0, 1, 3] rfl) hc
  · rw [if_neg (fun q => h9 ((z_eq gr74).mpr q))] at h
    exact a_X9_playTurn_99 K hQ hX _ _ _ _ _ _ (g1.up xσ73) (g2.up xσ73) g3 g4 g5 h hGσ73 hYσ73 (hE.trans xσ73) (hth.up xσ73) _ _ _ hH (lv_sub (l' := [(0, .ref th), (1, va_rf v1), (2, va_rf v2), (3, .int (i32 v3)), (4, .int (i32 v4)), (5, .int (i32 v5))]) hl [0, 1, 2, 3, 4, 5] rfl) hc
set_option maxRecDepth 20000 in
theorem a_X9_playTurn_25 {Q : Sg → Int → Prop} {X : Sg → String → Prop} {th : Nat} (K : MD l R p s m args c cX9_playTurn 7 RX9 D cA tys A n0 s0 12 247 [(91, 148, 151, 278)]) (hQ : CQI p l e R s m args below meth c cX9_playTurn D cA A n0 s0 QM σi Q) (hX : CX p l e R s m args below meth c 7 D cA A n0 s0 QM σi X) : ∀ (σ : Sg), w_X9_playTurn_25 th Q X σ → RG σ → TY σ → Ext σi σ → kO σ th 9 → JJ p l e R s m args below meth c 7 D cA A n0 s0 QM σ 25 [(0, .ref th)] [] := by
  intro σ h hGσ hYσ hE hth H locs ls hH hl hc
  have B := K.1
  have hl9 := K.2.2.2.2.2.2
  unfold w_X9_playTurn_25 at h
  refine lv_aload_n B.1 B.2.1 dX9_playTurn_25 rfl (lv_at hl 0 rfl) ?_
  refine f_getp B hH hth (by decide) rfl wu_X9 3 (by decide) wf_X9_20 rfl rfl dX9_playTurn_26 ?_
  refine lv_aload_n B.1 B.2.1 dX9_playTurn_29 rfl (lv_at hl 0 rfl) ?_
  refine f_getl B hH hth (by decide) rfl wu_X9 15 (by decide) wf_X9_108 rfl rfl dX9_playTurn_30 ?_
  refine lv_bipush (v := i32 33) B.1 B.2.1 dX9_playTurn_33 (by decide) ?_
  refine lv_lushr B.1 B.2.1 dX9_playTurn_35 rfl ?_
  refine lv_aload_n B.1 B.2.1 dX9_playTurn_36 rfl (lv_at hl 0 rfl) ?_
  refine f_geti B hH hth (by decide) rfl wu_X9 10 (by decide) wf_X9_78 rfl rfl dX9_playTurn_37 ?_
  refine lv_i2l B.1 B.2.1 dX9_playTurn_40 (i32_i64 (hGσ _ _)) ?_
  obtain ⟨q1, h⟩ := h
  refine lv_lrem B.1 B.2.1 dX9_playTurn_41 q1 ?_
  refine lv_l2i B.1 B.2.1 dX9_playTurn_42 rfl ?_
  refine W.eq (g2 := F0 m 43 ls [.int (i32 (((((gJ σ th 15).toUInt64 >>> ((i32 33).toInt64.toUInt64 &&& Int64.toUInt64 63)).toInt64 - ((gJ σ th 15).toUInt64 >>> ((i32 33).toInt64.toUInt64 &&& Int64.toUInt64 63)).toInt64 / (Int64.ofInt (gI σ th 10)) * (Int64.ofInt (gI σ th 10)))).toInt32.toInt)), va_rf (gP σ th 3)]) (by simp only [i32_self]) ?_
  obtain ⟨a75, ea75, h⟩ := h
  have ka75 : kO σ a75 120 := (hYσ.get hth (by decide)) a75 ea75
  have h := h ka75
  obtain ⟨q2, h⟩ := h
  refine W.eq (g2 := F0 m 43 ls [.int (i32 (((((gJ σ th 15).toUInt64 >>> ((i32 33).toInt64.toUInt64 &&& Int64.toUInt64 63)).toInt64 - ((gJ σ th 15).toUInt64 >>> ((i32 33).toInt64.toUInt64 &&& Int64.toUInt64 63)).toInt64 / (Int64.ofInt (gI σ th 10)) * (Int64.ofInt (gI σ th 10)))).toInt32.toInt)), .ref a75]) (by rw [ea75]; rfl) ?_
  refine y_aald B hH (t0 := 7) ka75 (by decide) K.2.1.2.2.2.2.1 q2 (hYσ.2 _) dX9_playTurn_43 ?_
  refine lv_astore_nQ (lv' := [(1, va_rf (gP σ a75 (((((gJ σ th 15).toUInt64 >>> ((i32 33).toInt64.toUInt64 &&& Int64.toUInt64 63)).toInt64 - ((gJ σ th 15).toUInt64 >>> ((i32 33).toInt64.toUInt64 &&& Int64.toUInt64 63)).toInt64 / (Int64.ofInt (gI σ th 10)) * (Int64.ofInt (gI σ th 10)))).toInt32.toInt).toNat)), (0, .ref th)]) B.1 B.2.1 dX9_playTurn_44 rfl hl (by decide) rfl (fun ls hl => ?_)
  refine lv_aload_n B.1 B.2.1 dX9_playTurn_45 rfl (lv_at hl 1 rfl) ?_
  refine f_getp B hH hth (by decide) rfl wu_X9 9 (by decide) wf_X9_100 rfl rfl dX9_playTurn_46 ?_
  obtain ⟨a76, ea76, h⟩ := h
  have ka76 : kO σ a76 4 := (hYσ.get hth (by decide)) a76 ea76
  have h := h ka76
  refine W.eq (g2 := F0 m 49 ls [.ref a76]) (by rw [ea76]; rfl) ?_
  refine f_getp B hH ka76 (by decide) rfl wu_X4 0 (by decide) wf_X9_160 rfl rfl dX9_playTurn_49 ?_
  refine lv_aload_nQ B.1 B.2.1 dX9_playTurn_52 rfl (lv_at hl 0 rfl) ?_
  obtain ⟨a77, ea77, h⟩ := h
  have ka77 : kO σ a77 10 := (hYσ.get ka75 rfl) a77 ea77
  have h := h ka77
  refine W.eq (g2 := F0 m 53 ls [.ref a77, va_rf (gP σ a76 0)]) (by rw [ea77]; rfl) ?_
  refine f_geti B hH ka77 (by decide) rfl wu_X10 0 (by decide) wf_X9_181 rfl rfl dX9_playTurn_53 ?_
  obtain ⟨a78, ea78, h⟩ := h
  have ka78 : kO σ a78 115 := (hYσ.get ka76 (by decide)) a78 ea78
  have h := h ka78
  obtain ⟨q3, h⟩ := h
  refine W.eq (g2 := F0 m 56 ls [.int (i32 (gI σ a77 0)), .ref a78]) (by rw [ea78]; rfl) ?_
  refine y_aald B hH (t0 := 6) ka78 (by decide) K.2.1.2.2.2.1 q3 (hYσ.2 _) dX9_playTurn_56 ?_
  refine lv_astore_nQ (lv' := [(2, va_rf (gP σ a78 (gI σ a77 0).toNat)), (1, va_rf (gP σ a75 (((((gJ σ th 15).toUInt64 >>> ((i32 33).toInt64.toUInt64 &&& Int64.toUInt64 63)).toInt64 - ((gJ σ th 15).toUInt64 >>> ((i32 33).toInt64.toUInt64 &&& Int64.toUInt64 63)).toInt64 / (Int64.ofInt (gI σ th 10)) * (Int64.ofInt (gI σ th 10)))).toInt32.toInt).toNat)), (0, .ref th)]) B.1 B.2.1 dX9_playTurn_57 rfl hl (by decide) (by generalize (gP σ a75 (((((gJ σ th 15).toUInt64 >>> ((i32 33).toInt64.toUInt64 &&& Int64.toUInt64 63)).toInt64 - ((gJ σ th 15).toUInt64 >>> ((i32 33).toInt64.toUInt64 &&& Int64.toUInt64 63)).toInt64 / (Int64.ofInt (gI σ th 10)) * (Int64.ofInt (gI σ th 10)))).toInt32.toInt).toNat) = w9; cases w9 <;> rfl) (fun ls hl => ?_)
  refine lv_aload_nQ B.1 B.2.1 dX9_playTurn_58 rfl (lv_at hl 1 rfl) ?_
  refine W.eq (g2 := F0 m 59 ls [.ref a77]) (by rw [ea77]; rfl) ?_
  refine f_geti B hH ka77 (by decide) rfl wu_X10 8 (by decide) wf_X9_261 rfl rfl dX9_playTurn_59 ?_
  refine lv_istore_n (lv' := [(3, .int (i32 (gI σ a77 8))), (2, va_rf (gP σ a78 (gI σ a77 0).toNat)), (1, va_rf (gP σ a75 (((((gJ σ th 15).toUInt64 >>> ((i32 33).toInt64.toUInt64 &&& Int64.toUInt64 63)).toInt64 - ((gJ σ th 15).toUInt64 >>> ((i32 33).toInt64.toUInt64 &&& Int64.toUInt64 63)).toInt64 / (Int64.ofInt (gI σ th 10)) * (Int64.ofInt (gI σ th 10)))).toInt32.toInt).toNat)), (0, .ref th)]) B.1 B.2.1 dX9_playTurn_62 rfl hl (by decide) (by generalize (gP σ a78 (gI σ a77 0).toNat) = w9; cases w9 <;> rfl) (fun ls hl => ?_)
  refine lv_aload_n B.1 B.2.1 dX9_playTurn_63 rfl (lv_at hl 3 rfl) ?_
  refine f_getp B hH hth (by decide) rfl wu_X9 0 (by decide) wf_X9_48 rfl rfl dX9_playTurn_64 ?_
  obtain ⟨a79, ea79, h⟩ := h
  have ka79 : kO σ a79 8 := (hYσ.get hth (by decide)) a79 ea79
  have h := h ka79
  refine W.eq (g2 := F0 m 67 ls [.ref a79]) (by rw [ea79]; rfl) ?_
  refine f_geti B hH ka79 (by decide) rfl wu_X8 1 (by decide) wf_X9_74 rfl rfl dX9_playTurn_67 ?_
  refine lv_istore (lv' := [(4, .int (i32 (gI σ a79 1))), (3, .int (i32 (gI σ a77 8))), (2, va_rf (gP σ a78 (gI σ a77 0).toNat)), (1, va_rf (gP σ a75 (((((gJ σ th 15).toUInt64 >>> ((i32 33).toInt64.toUInt64 &&& Int64.toUInt64 63)).toInt64 - ((gJ σ th 15).toUInt64 >>> ((i32 33).toInt64.toUInt64 &&& Int64.toUInt64 63)).toInt64 / (Int64.ofInt (gI σ th 10)) * (Int64.ofInt (gI σ th 10)))).toInt32.toInt).toNat)), (0, .ref th)]) B.1 B.2.1 dX9_playTurn_70 hl (by decide) rfl (fun ls hl => ?_)
  refine lv_aload_n B.1 B.2.1 dX9_playTurn_72 rfl (lv_at hl 4 rfl) ?_
  refine f_getp B hH hth (by decide) rfl wu_X9 2 (by decide) wf_X9_12 rfl rfl dX9_playTurn_73 ?_
  obtain ⟨a80, ea80, h⟩ := h
  have ka80 : kO σ a80 3 := (hYσ.get hth (by decide)) a80 ea80
  have h := h ka80
  refine W.eq (g2 := F0 m 76 ls [.ref a80]) (by rw [ea80]; rfl) ?_
  refine f_geti B hH ka80 (by decide) rfl wu_X3 8 (by decide) wf_X9_264 rfl rfl dX9_playTurn_76 ?_
  refine lv_istore (lv' := [(5, .int (i32 (gI σ a80 8))), (4, .int (i32 (gI σ a79 1))), (3, .int (i32 (gI σ a77 8))), (2, va_rf (gP σ a78 (gI σ a77 0).toNat)), (1, va_rf (gP σ a75 (((((gJ σ th 15).toUInt64 >>> ((i32 33).toInt64.toUInt64 &&& Int64.toUInt64 63)).toInt64 - ((gJ σ th 15).toUInt64 >>> ((i32 33).toInt64.toUInt64 &&& Int64.toUInt64 63)).toInt64 / (Int64.ofInt (gI σ th 10)) * (Int64.ofInt (gI σ th 10)))).toInt32.toInt).toNat)), (0, .ref th)]) B.1 B.2.1 dX9_playTurn_79 hl (by decide) rfl (fun ls hl => ?_)
  refine lv_aload_n B.1 B.2.1 dX9_playTurn_81 rfl (lv_at hl 5 rfl) ?_
  refine lv_dup B.1 B.2.1 dX9_playTurn_82 rfl ?_
  refine f_geti B hH hth (by decide) rfl wu_X9 17 (by decide) wf_X9_88 rfl rfl dX9_playTurn_83 ?_
  refine lv_iconst (v := i32 1) B.1 B.2.1 dX9_playTurn_86 (by decide) ?_
  refine lv_iadd B.1 B.2.1 dX9_playTurn_87 ?_
  rw [i32_add]
  refine W.eq (g2 := F0 m 88 ls [.int (i32 (wr (gI σ th 17 + 1))), .ref th]) (by rw [i32_wr]) ?_
  obtain ⟨σ81, eσ81⟩ : ∃ z, z = pI σ th 17 (wr (gI σ th 17 + 1)) := ⟨_, rfl⟩
  have h := h σ81 eσ81
  refine f_puti B hH hth (by decide) rfl wu_X9 tyX9 tyX9_ok nmX9 17 (by decide) wf_X9_88 rfl (ty := .int) rfl rfl rfl rfl rfl dX9_playTurn_88 (fun H locs hH => ?_)
  have hH : Hd D cA A s (pI σ th 17 (wr (gI σ th 17 + 1))) H locs := hH
  rw [← eσ81] at hH
  have hGσ81 : RG σ81 := by rw [eσ81]; exact hGσ.pI (rng_wr _)
  have hYσ81 : TY σ81 := by rw [eσ81]; exact hYσ.pI
  have xσ81 : Ext σ σ81 := by rw [eσ81]; exact Ext.pI
  have hc : CB n0 s0 σ81 := by rw [eσ81]; exact hc
  rw [show gc σ = gc σ81 by rw [eσ81]; try rfl, show gs σ = gs σ81 by rw [eσ81]; try rfl]
  exact a_X9_playTurn_91 K hQ hX _ _ _ _ _ _ ((hYσ.get ka75 rfl).up xσ81) ((hYσ.get ka78 rfl).up xσ81) (hGσ _ _) (hGσ _ _) (hGσ _ _) h hGσ81 hYσ81 (hE.trans xσ81) (hth.up xσ81) _ _ _ hH (lv_sub (l' := [(0, .ref th), (1, va_rf (gP σ a75 (((((gJ σ th 15).toUInt64 >>> ((i32 33).toInt64.toUInt64 &&& Int64.toUInt64 63)).toInt64 - ((gJ σ th 15).toUInt64 >>> ((i32 33).toInt64.toUInt64 &&& Int64.toUInt64 63)).toInt64 / (Int64.ofInt (gI σ th 10)) * (Int64.ofInt (gI σ th 10)))).toInt32.toInt).toNat)), (2, va_rf (gP σ a78 (gI σ a77 0).toNat)), (3, .int (i32 (gI σ a77 8))), (4, .int (i32 (gI σ a79 1))), (5, .int (i32 (gI σ a80 8)))]) hl [5, 4, 3, 2, 1, 0] rfl) hc
set_option maxRecDepth 20000 in
theorem a_X9_playTurn_23 {Q : Sg → Int → Prop} {X : Sg → String → Prop} {th : Nat} (K : MD l R p s m args c cX9_playTurn 7 RX9 D cA tys A n0 s0 12 247 [(91, 148, 151, 278)]) (hQ : CQI p l e R s m args below meth c cX9_playTurn D cA A n0 s0 QM σi Q) (hX : CX p l e R s m args below meth c 7 D cA A n0 s0 QM σi X) : ∀ (σ : Sg), w_X9_playTurn_23 th Q X σ → RG σ → TY σ → Ext σi σ → kO σ th 9 → JJ p l e R s m args below meth c 7 D cA A n0 s0 QM σ 23 [(0, .ref th)] [] := by
  intro σ h hGσ hYσ hE hth H locs ls hH hl hc
  have B := K.1
  have hl9 := K.2.2.2.2.2.2
  unfold w_X9_playTurn_23 at h
  refine lv_iconst (v := i32 0) B.1 B.2.1 dX9_playTurn_23 (by decide) ?_
  exact hQ _ _ _ _ _ _ (by unfold rng; omega) dX9_playTurn_24 hH hc h hGσ hYσ hE
set_option maxRecDepth 20000 in
theorem a_X9_playTurn_0 {Q : Sg → Int → Prop} {X : Sg → String → Prop} {th : Nat} (K : MD l R p s m args c cX9_playTurn 7 RX9 D cA tys A n0 s0 12 247 [(91, 148, 151, 278)]) (hQ : CQI p l e R s m args below meth c cX9_playTurn D cA A n0 s0 QM σi Q) (hX : CX p l e R s m args below meth c 7 D cA A n0 s0 QM σi X) : ∀ (σ : Sg), w_X9_playTurn_0 th Q X σ → RG σ → TY σ → Ext σi σ → kO σ th 9 → JJ p l e R s m args below meth c 7 D cA A n0 s0 QM σ 0 [(0, .ref th)] [] := by
  intro σ h hGσ hYσ hE hth H locs ls hH hl hc
  have B := K.1
  have hl9 := K.2.2.2.2.2.2
  unfold w_X9_playTurn_0 at h
  refine lv_aload_n B.1 B.2.1 dX9_playTurn_0 rfl (lv_at hl 0 rfl) ?_
  refine lv_aload_n B.1 B.2.1 dX9_playTurn_1 rfl (lv_at hl 0 rfl) ?_
  refine f_getl B hH hth (by decide) rfl wu_X9 15 (by decide) wf_X9_108 rfl rfl dX9_playTurn_2 ?_
  refine lv_ldc2 B.1 B.2.1 B.2.2.1 (B.2.2.2.1 _ (wk_X9_257)) dX9_playTurn_5 ?_
  refine lv_lmul B.1 B.2.1 dX9_playTurn_8 ?_
  refine lv_ldc2 B.1 B.2.1 B.2.2.1 (B.2.2.2.1 _ (wk_X9_259)) dX9_playTurn_9 ?_
  refine lv_ladd B.1 B.2.1 dX9_playTurn_12 ?_
  obtain ⟨σ82, eσ82⟩ : ∃ z, z = pJ σ th 15 ((gJ σ th 15 * 6364136223846793005) + 1442695040888963407) := ⟨_, rfl⟩
  have h := h σ82 eσ82
  refine f_putl B hH hth (by decide) rfl wu_X9 tyX9 tyX9_ok nmX9 15 (by decide) wf_X9_108 rfl (ty := .long) rfl rfl rfl rfl rfl dX9_playTurn_13 (fun H locs hH => ?_)
  have hH : Hd D cA A s (pJ σ th 15 ((gJ σ th 15 * 6364136223846793005) + 1442695040888963407)) H locs := hH
  rw [← eσ82] at hH
  have hGσ82 : RG σ82 := by rw [eσ82]; exact hGσ.pJ
  have hYσ82 : TY σ82 := by rw [eσ82]; exact hYσ.pJ
  have xσ82 : Ext σ σ82 := by rw [eσ82]; exact Ext.pJ
  have hc : CB n0 s0 σ82 := by rw [eσ82]; exact hc
  rw [show gc σ = gc σ82 by rw [eσ82]; try rfl, show gs σ = gs σ82 by rw [eσ82]; try rfl]
  refine lv_aload_n B.1 B.2.1 dX9_playTurn_16 rfl (lv_at hl 0 rfl) ?_
  refine f_geti B hH (hth.up xσ82) (by decide) rfl wu_X9 10 (by decide) wf_X9_78 rfl rfl dX9_playTurn_17 ?_
  refine lv_if_ne (tgt := 25) B.1 B.2.1 dX9_playTurn_20 (by decide) (fun h9 => ?_) (fun h9 => ?_)
  · rw [if_pos (fun q => h9 ((z_eq (hGσ82 _ _)).mpr q))] at h
    exact a_X9_playTurn_25 K hQ hX _ h hGσ82 hYσ82 (hE.trans xσ82) (hth.up xσ82) _ _ _ hH (lv_sub (l' := [(0, .ref th)]) hl [0] rfl) hc
  · rw [if_neg (fun q => q ((z_eq (hGσ82 _ _)).mp h9))] at h
    exact a_X9_playTurn_23 K hQ hX _ h hGσ82 hYσ82 (hE.trans xσ82) (hth.up xσ82) _ _ _ hH (lv_sub (l' := [(0, .ref th)]) hl [0] rfl) hc
theorem ok_X9_playTurn (hl0 : l.stackTraces = false) (hT : TyC cA tys) {Q : Sg → Int → Prop} {X : Sg → String → Prop} (σ : Sg) (th : Nat) (hth : kO σ th 9) (hG : RG σ) (hY : TY σ) (h : wp_X9_playTurn th σ Q X) : Ok l D cA tys A yX9_playTurn (.codeWith yX9_playTurn cX9_playTurn 7 (some .int) [(91, 148, 151, 278)]) 12 247 [.ref th] σ (QcI σ Q) (QxC σ X) := by
  unfold wp_X9_playTurn at h
  exact oc_IH hl0 (by decide) (by exact Nat.le_of_ble_eq_true rfl) hT (fun p e R s m args below meth c K hQ hX H locs ls hH hl hc => a_X9_playTurn_0 K hQ hX σ h hG hY (Ext.rfl' σ) hth H locs ls hH (lv_sub (l' := [(0, .ref th)]) hl [0] rfl) hc)
theorem dX12_turn_0 : decode cX12_turn 0 = .ok (.aload_n 0, 1) := by decide +kernel
theorem dX12_turn_1 : decode cX12_turn 1 = .ok (.invokevirtual 140, 3) := by decide +kernel
theorem dX12_turn_4 : decode cX12_turn 4 = .ok (.iload_n 1, 1) := by decide +kernel
theorem dX12_turn_5 : decode cX12_turn 5 = .ok (.iconst 1, 1) := by decide +kernel
theorem dX12_turn_6 : decode cX12_turn 6 = .ok (.if_icmp .lt 10, 3) := by decide +kernel
theorem dX12_turn_9 : decode cX12_turn 9 = .ok (.iload_n 1, 1) := by decide +kernel
theorem dX12_turn_10 : decode cX12_turn 10 = .ok (.sipush 5000, 3) := by decide +kernel
theorem dX12_turn_13 : decode cX12_turn 13 = .ok (.if_icmp .le 11, 3) := by decide +kernel
theorem dX12_turn_16 : decode cX12_turn 16 = .ok (.new 60, 3) := by decide +kernel
theorem dX12_turn_19 : decode cX12_turn 19 = .ok (.dup, 1) := by decide +kernel
theorem dX12_turn_20 : decode cX12_turn 20 = .ok (.invokespecial 62, 3) := by decide +kernel
theorem dX12_turn_23 : decode cX12_turn 23 = .ok (.athrow, 1) := by decide +kernel
theorem dX12_turn_24 : decode cX12_turn 24 = .ok (.iconst 0, 1) := by decide +kernel
theorem dX12_turn_25 : decode cX12_turn 25 = .ok (.istore_n 2, 1) := by decide +kernel
theorem dX12_turn_26 : decode cX12_turn 26 = .ok (.iconst 0, 1) := by decide +kernel
theorem dX12_turn_27 : decode cX12_turn 27 = .ok (.istore_n 3, 1) := by decide +kernel
theorem dX12_turn_28 : decode cX12_turn 28 = .ok (.iload_n 3, 1) := by decide +kernel
theorem dX12_turn_29 : decode cX12_turn 29 = .ok (.iload_n 1, 1) := by decide +kernel
theorem dX12_turn_30 : decode cX12_turn 30 = .ok (.if_icmp .ge 42, 3) := by decide +kernel
theorem dX12_turn_33 : decode cX12_turn 33 = .ok (.aload_n 0, 1) := by decide +kernel
theorem dX12_turn_34 : decode cX12_turn 34 = .ok (.getfield 49, 3) := by decide +kernel
theorem dX12_turn_37 : decode cX12_turn 37 = .ok (.getfield 143, 3) := by decide +kernel
theorem dX12_turn_40 : decode cX12_turn 40 = .ok (.ifCond .ne 32, 3) := by decide +kernel
theorem dX12_turn_43 : decode cX12_turn 43 = .ok (.aload_n 0, 1) := by decide +kernel
theorem dX12_turn_44 : decode cX12_turn 44 = .ok (.getfield 49, 3) := by decide +kernel
theorem dX12_turn_47 : decode cX12_turn 47 = .ok (.getfield 66, 3) := by decide +kernel
theorem dX12_turn_50 : decode cX12_turn 50 = .ok (.getfield 70, 3) := by decide +kernel
theorem dX12_turn_53 : decode cX12_turn 53 = .ok (.ifCond .ne 19, 3) := by decide +kernel
theorem dX12_turn_56 : decode cX12_turn 56 = .ok (.iload_n 2, 1) := by decide +kernel
theorem dX12_turn_57 : decode cX12_turn 57 = .ok (.aload_n 0, 1) := by decide +kernel
theorem dX12_turn_58 : decode cX12_turn 58 = .ok (.getfield 49, 3) := by decide +kernel
theorem dX12_turn_61 : decode cX12_turn 61 = .ok (.invokevirtual 146, 3) := by decide +kernel
theorem dX12_turn_64 : decode cX12_turn 64 = .ok (.iadd, 1) := by decide +kernel
theorem dX12_turn_65 : decode cX12_turn 65 = .ok (.istore_n 2, 1) := by decide +kernel
theorem dX12_turn_66 : decode cX12_turn 66 = .ok (.iinc 3 1, 3) := by decide +kernel
theorem dX12_turn_69 : decode cX12_turn 69 = .ok (.goto (-41), 3) := by decide +kernel
theorem dX12_turn_72 : decode cX12_turn 72 = .ok (.iload_n 2, 1) := by decide +kernel
theorem dX12_turn_73 : decode cX12_turn 73 = .ok (.ireturn, 1) := by decide +kernel
set_option maxRecDepth 20000 in
theorem a_X12_turn_16 {Q : Sg → Int → Prop} {X : Sg → String → Prop} {th : Nat} (K : MD l R p s m args c cX12_turn 4 RX12 D cA tys A n0 s0 13 273 []) (hQ : CQI p l e R s m args below meth c cX12_turn D cA A n0 s0 QM σi Q) (hX : CX p l e R s m args below meth c 4 D cA A n0 s0 QM σi X) (hTh : CT p l e R s m args below meth c cX12_turn 4 D cA A n0 s0 QM σi RX12 X) : ∀ (σ : Sg), w_X12_turn_16 th Q X σ → RG σ → TY σ → Ext σi σ → kO σ th 12 → JJ p l e R s m args below meth c 4 D cA A n0 s0 QM σ 16 [(0, .ref th)] [] := by
  intro σ h hGσ hYσ hE hth H locs ls hH hl hc
  have B := K.1
  have hl9 := K.2.2.2.2.2.2
  unfold w_X12_turn_16 at h
  obtain ⟨q9, h⟩ := h
  exact hTh _ _ _ _ _ _ _ _ _ tw_X12_60_62 dX12_turn_16 dX12_turn_19 dX12_turn_20 dX12_turn_23 hH hl hc q9 h hGσ hYσ hE (by have := K.2.2.2.1; omega) (by have := K.2.2.2.2.1; omega)
set_option maxRecDepth 20000 in
theorem a_X12_turn_72 {Q : Sg → Int → Prop} {X : Sg → String → Prop} {th : Nat} (K : MD l R p s m args c cX12_turn 4 RX12 D cA tys A n0 s0 13 273 []) (hQ : CQI p l e R s m args below meth c cX12_turn D cA A n0 s0 QM σi Q) (hX : CX p l e R s m args below meth c 4 D cA A n0 s0 QM σi X) (hTh : CT p l e R s m args below meth c cX12_turn 4 D cA A n0 s0 QM σi RX12 X) : ∀ (σ : Sg) (v2 : Int) (g2 : rng v2), w_X12_turn_72 th Q X σ v2 → RG σ → TY σ → Ext σi σ → kO σ th 12 → JJ p l e R s m args below meth c 4 D cA A n0 s0 QM σ 72 [(0, .ref th), (2, .int (i32 v2))] [] := by
  intro σ v2 g2 h hGσ hYσ hE hth H locs ls hH hl hc
  have B := K.1
  have hl9 := K.2.2.2.2.2.2
  unfold w_X12_turn_72 at h
  refine lv_iload_n B.1 B.2.1 dX12_turn_72 rfl (lv_at hl 1 rfl) ?_
  exact hQ _ _ _ _ _ _ g2 dX12_turn_73 hH hc h hGσ hYσ hE
set_option maxRecDepth 20000 in
theorem a_X12_turn_56 {Q : Sg → Int → Prop} {X : Sg → String → Prop} {th : Nat} (K : MD l R p s m args c cX12_turn 4 RX12 D cA tys A n0 s0 13 273 []) (hQ : CQI p l e R s m args below meth c cX12_turn D cA A n0 s0 QM σi Q) (hX : CX p l e R s m args below meth c 4 D cA A n0 s0 QM σi X) (hTh : CT p l e R s m args below meth c cX12_turn 4 D cA A n0 s0 QM σi RX12 X) {K28 : Sg → Int → Int → Int → Prop} (hK28 : ∀ (σ : Sg) (v1 : Int) (v2 : Int) (v3 : Int) (g1 : rng v1) (g2 : rng v2) (g3 : rng v3), K28 σ v1 v2 v3 → RG σ → TY σ → Ext σi σ → kO σ th 12 → JJ p l e R s m args below meth c 4 D cA A n0 s0 QM σ 28 [(0, .ref th), (1, .int (i32 v1)), (2, .int (i32 v2)), (3, .int (i32 v3))] []) : ∀ (σ : Sg) (v1 : Int) (v2 : Int) (v3 : Int) (g1 : rng v1) (g2 : rng v2) (g3 : rng v3), w_X12_turn_56 th K28 Q X σ v1 v2 v3 → RG σ → TY σ → Ext σi σ → kO σ th 12 → JJ p l e R s m args below meth c 4 D cA A n0 s0 QM σ 56 [(0, .ref th), (1, .int (i32 v1)), (2, .int (i32 v2)), (3, .int (i32 v3))] [] := by
  intro σ v1 v2 v3 g1 g2 g3 h hGσ hYσ hE hth H locs ls hH hl hc
  have B := K.1
  have hl9 := K.2.2.2.2.2.2
  unfold w_X12_turn_56 at h
  refine lv_iload_n B.1 B.2.1 dX12_turn_56 rfl (lv_at hl 2 rfl) ?_
  refine lv_aload_n B.1 B.2.1 dX12_turn_57 rfl (lv_at hl 0 rfl) ?_
  refine f_getp B hH hth (by decide) rfl wu_X12 7 (by decide) wf_X12_49 rfl rfl dX12_turn_58 ?_
  obtain ⟨a17, ea17, h⟩ := h
  have ka17 : kO σ a17 9 := (hYσ.get hth (by decide)) a17 ea17
  have h := h ka17
  refine W.eq (g2 := F0 m 61 ls [.ref a17, .int (i32 v2)]) (by rw [ea17]; rfl) ?_
  refine c_VH B hH hl hc K.2.2.1 (C := RX9) (T := TX9) (N := 20) (ci := 9) (As := []) (ok_X9_playTurn hl9 K.2.1 σ a17 ka17 hGσ hYσ h) wc_X12_146 0 hd_X9_playTurn ⟨Nat.le_trans (Nat.le_of_ble_eq_true rfl) K.2.2.2.1, Nat.le_trans (Nat.le_of_ble_eq_true rfl) K.2.2.2.2.1⟩ ka17.1 ka17.2 (by decide) rfl rfl (rest := [.int (i32 v2)]) rfl (Nat.le_of_ble_eq_true rfl) dX12_turn_61 (fun σ15 w hq => ?_) (fun σ9 E9 hx9 => hX σ9 E9 _ _ _ (tb_out K.2.2.2.2.2.1 rfl) hx9.1 hx9.2.1 hx9.2.2.1 (hE.trans hx9.2.2.2))
  obtain ⟨r16, rfl, gr16, h, hGσ15, hYσ15, xσ15⟩ := hq
  have h := h xσ15
  intro H locs ls hH hl hc
  refine W.eq (g2 := F0 m 64 ls [.int (i32 r16), .int (i32 v2)]) (rfl) ?_
  try dsimp only at h
  refine lv_iadd B.1 B.2.1 dX12_turn_64 ?_
  rw [i32_add]
  refine W.eq (g2 := F0 m 65 ls [.int (i32 (wr (v2 + r16)))]) (by rw [i32_wr]) ?_
  refine lv_istore_n (lv' := [(2, .int (i32 (wr (v2 + r16)))), (0, .ref th), (1, .int (i32 v1)), (3, .int (i32 v3))]) B.1 B.2.1 dX12_turn_65 rfl hl (by decide) rfl (fun ls hl => ?_)
  obtain ⟨q1, h⟩ := h
  refine lv_iinc (k := 3) (v := i32 (v3 + 1)) (lv' := [(3, .int (i32 (v3 + 1))), (2, .int (i32 (wr (v2 + r16)))), (0, .ref th), (1, .int (i32 v1))]) B.1 B.2.1 dX12_turn_66 hl rfl (i32_add _ _) (by decide) rfl (fun ls hl => ?_)
  refine lv_goto (tgt := 28) B.1 B.2.1 dX12_turn_69 (by decide) ?_
  exact hK28 _ _ _ _ g1 (rng_wr _) q1 h hGσ15 hYσ15 (hE.trans xσ15) (hth.up xσ15) _ _ _ hH (lv_sub (l' := [(0, .ref th), (1, .int (i32 v1)), (2, .int (i32 (wr (v2 + r16)))), (3, .int (i32 (v3 + 1)))]) hl [2, 3, 1, 0] rfl) hc
set_option maxRecDepth 20000 in
theorem a_X12_turn_43 {Q : Sg → Int → Prop} {X : Sg → String → Prop} {th : Nat} (K : MD l R p s m args c cX12_turn 4 RX12 D cA tys A n0 s0 13 273 []) (hQ : CQI p l e R s m args below meth c cX12_turn D cA A n0 s0 QM σi Q) (hX : CX p l e R s m args below meth c 4 D cA A n0 s0 QM σi X) (hTh : CT p l e R s m args below meth c cX12_turn 4 D cA A n0 s0 QM σi RX12 X) {K28 : Sg → Int → Int → Int → Prop} (hK28 : ∀ (σ : Sg) (v1 : Int) (v2 : Int) (v3 : Int) (g1 : rng v1) (g2 : rng v2) (g3 : rng v3), K28 σ v1 v2 v3 → RG σ → TY σ → Ext σi σ → kO σ th 12 → JJ p l e R s m args below meth c 4 D cA A n0 s0 QM σ 28 [(0, .ref th), (1, .int (i32 v1)), (2, .int (i32 v2)), (3, .int (i32 v3))] []) : ∀ (σ : Sg) (v1 : Int) (v2 : Int) (v3 : Int) (g1 : rng v1) (g2 : rng v2) (g3 : rng v3), w_X12_turn_43 th K28 Q X σ v1 v2 v3 → RG σ → TY σ → Ext σi σ → kO σ th 12 → JJ p l e R s m args below meth c 4 D cA A n0 s0 QM σ 43 [(0, .ref th), (1, .int (i32 v1)), (2, .int (i32 v2)), (3, .int (i32 v3))] [] := by
  intro σ v1 v2 v3 g1 g2 g3 h hGσ hYσ hE hth H locs ls hH hl hc
  have B := K.1
  have hl9 := K.2.2.2.2.2.2
  unfold w_X12_turn_43 at h
  refine lv_aload_n B.1 B.2.1 dX12_turn_43 rfl (lv_at hl 0 rfl) ?_
  refine f_getp B hH hth (by decide) rfl wu_X12 7 (by decide) wf_X12_49 rfl rfl dX12_turn_44 ?_
  obtain ⟨a18, ea18, h⟩ := h
  have ka18 : kO σ a18 9 := (hYσ.get hth (by decide)) a18 ea18
  have h := h ka18
  refine W.eq (g2 := F0 m 47 ls [.ref a18]) (by rw [ea18]; rfl) ?_
  refine f_getp B hH ka18 (by decide) rfl wu_X9 2 (by decide) wf_X12_66 rfl rfl dX12_turn_47 ?_
  obtain ⟨a19, ea19, h⟩ := h
  have ka19 : kO σ a19 3 := (hYσ.get ka18 (by decide)) a19 ea19
  have h := h ka19
  refine W.eq (g2 := F0 m 50 ls [.ref a19]) (by rw [ea19]; rfl) ?_
  refine f_geti B hH ka19 (by decide) rfl wu_X3 9 (by decide) wf_X12_70 rfl rfl dX12_turn_50 ?_
  refine lv_if_ne (tgt := 72) B.1 B.2.1 dX12_turn_53 (by decide) (fun h9 => ?_) (fun h9 => ?_)
  · rw [if_pos (fun q => h9 ((z_eq (hGσ _ _)).mpr q))] at h
    exact a_X12_turn_72 K hQ hX hTh _ _ g2 h hGσ hYσ hE hth _ _ _ hH (lv_sub (l' := [(0, .ref th), (2, .int (i32 v2))]) hl [0, 2] rfl) hc
  · rw [if_neg (fun q => q ((z_eq (hGσ _ _)).mp h9))] at h
    exact a_X12_turn_56 K hQ hX hTh hK28 _ _ _ _ g1 g2 g3 h hGσ hYσ hE hth _ _ _ hH (lv_sub (l' := [(0, .ref th), (1, .int (i32 v1)), (2, .int (i32 v2)), (3, .int (i32 v3))]) hl [0, 1, 2, 3] rfl) hc
set_option maxRecDepth 20000 in
theorem a_X12_turn_33 {Q : Sg → Int → Prop} {X : Sg → String → Prop} {th : Nat} (K : MD l R p s m args c cX12_turn 4 RX12 D cA tys A n0 s0 13 273 []) (hQ : CQI p l e R s m args below meth c cX12_turn D cA A n0 s0 QM σi Q) (hX : CX p l e R s m args below meth c 4 D cA A n0 s0 QM σi X) (hTh : CT p l e R s m args below meth c cX12_turn 4 D cA A n0 s0 QM σi RX12 X) {K28 : Sg → Int → Int → Int → Prop} (hK28 : ∀ (σ : Sg) (v1 : Int) (v2 : Int) (v3 : Int) (g1 : rng v1) (g2 : rng v2) (g3 : rng v3), K28 σ v1 v2 v3 → RG σ → TY σ → Ext σi σ → kO σ th 12 → JJ p l e R s m args below meth c 4 D cA A n0 s0 QM σ 28 [(0, .ref th), (1, .int (i32 v1)), (2, .int (i32 v2)), (3, .int (i32 v3))] []) : ∀ (σ : Sg) (v1 : Int) (v2 : Int) (v3 : Int) (g1 : rng v1) (g2 : rng v2) (g3 : rng v3), w_X12_turn_33 th K28 Q X σ v1 v2 v3 → RG σ → TY σ → Ext σi σ → kO σ th 12 → JJ p l e R s m args below meth c 4 D cA A n0 s0 QM σ 33 [(0, .ref th), (1, .int (i32 v1)), (2, .int (i32 v2)), (3, .int (i32 v3))] [] := by
  intro σ v1 v2 v3 g1 g2 g3 h hGσ hYσ hE hth H locs ls hH hl hc
  have B := K.1
  have hl9 := K.2.2.2.2.2.2
  unfold w_X12_turn_33 at h
  refine lv_aload_n B.1 B.2.1 dX12_turn_33 rfl (lv_at hl 0 rfl) ?_
  refine f_getp B hH hth (by decide) rfl wu_X12 7 (by decide) wf_X12_49 rfl rfl dX12_turn_34 ?_
  obtain ⟨a20, ea20, h⟩ := h
  have ka20 : kO σ a20 9 := (hYσ.get hth (by decide)) a20 ea20
  have h := h ka20
  refine W.eq (g2 := F0 m 37 ls [.ref a20]) (by rw [ea20]; rfl) ?_
  refine f_geti B hH ka20 (by decide) rfl wu_X9 16 (by decide) wf_X12_143 rfl rfl dX12_turn_37 ?_
  refine lv_if_ne (tgt := 72) B.1 B.2.1 dX12_turn_40 (by decide) (fun h9 => ?_) (fun h9 => ?_)
  · rw [if_pos (fun q => h9 ((z_eq (hGσ _ _)).mpr q))] at h
    exact a_X12_turn_72 K hQ hX hTh _ _ g2 h hGσ hYσ hE hth _ _ _ hH (lv_sub (l' := [(0, .ref th), (2, .int (i32 v2))]) hl [0, 2] rfl) hc
  · rw [if_neg (fun q => q ((z_eq (hGσ _ _)).mp h9))] at h
    exact a_X12_turn_43 K hQ hX hTh hK28 _ _ _ _ g1 g2 g3 h hGσ hYσ hE hth _ _ _ hH (lv_sub (l' := [(0, .ref th), (1, .int (i32 v1)), (2, .int (i32 v2)), (3, .int (i32 v3))]) hl [0, 1, 2, 3] rfl) hc
set_option maxRecDepth 20000 in
theorem a_X12_turn_28 {Q : Sg → Int → Prop} {X : Sg → String → Prop} {th : Nat} (K : MD l R p s m args c cX12_turn 4 RX12 D cA tys A n0 s0 13 273 []) (hQ : CQI p l e R s m args below meth c cX12_turn D cA A n0 s0 QM σi Q) (hX : CX p l e R s m args below meth c 4 D cA A n0 s0 QM σi X) (hTh : CT p l e R s m args below meth c cX12_turn 4 D cA A n0 s0 QM σi RX12 X) {K28 : Sg → Int → Int → Int → Prop} (hK28 : ∀ (σ : Sg) (v1 : Int) (v2 : Int) (v3 : Int) (g1 : rng v1) (g2 : rng v2) (g3 : rng v3), K28 σ v1 v2 v3 → RG σ → TY σ → Ext σi σ → kO σ th 12 → JJ p l e R s m args below meth c 4 D cA A n0 s0 QM σ 28 [(0, .ref th), (1, .int (i32 v1)), (2, .int (i32 v2)), (3, .int (i32 v3))] []) : ∀ (σ : Sg) (v1 : Int) (v2 : Int) (v3 : Int) (g1 : rng v1) (g2 : rng v2) (g3 : rng v3), w_X12_turn_28 th K28 Q X σ v1 v2 v3 → RG σ → TY σ → Ext σi σ → kO σ th 12 → JJ p l e R s m args below meth c 4 D cA A n0 s0 QM σ 28 [(0, .ref th), (1, .int (i32 v1)), (2, .int (i32 v2)), (3, .int (i32 v3))] [] := by
  intro σ v1 v2 v3 g1 g2 g3 h hGσ hYσ hE hth H locs ls hH hl hc
  have B := K.1
  have hl9 := K.2.2.2.2.2.2
  unfold w_X12_turn_28 at h
  refine lv_iload_n B.1 B.2.1 dX12_turn_28 rfl (lv_at hl 3 rfl) ?_
  refine lv_iload_n B.1 B.2.1 dX12_turn_29 rfl (lv_at hl 1 rfl) ?_
  refine lv_icmp_ge (tgt := 72) B.1 B.2.1 dX12_turn_30 (by decide) (fun h9 => ?_) (fun h9 => ?_)
  · rw [if_pos ((i32_le g1 g3).mp h9)] at h
    exact a_X12_turn_72 K hQ hX hTh _ _ g2 h hGσ hYσ hE hth _ _ _ hH (lv_sub (l' := [(0, .ref th), (2, .int (i32 v2))]) hl [0, 2] rfl) hc
  · rw [if_neg (fun q => h9 ((i32_le g1 g3).mpr q))] at h
    exact a_X12_turn_33 K hQ hX hTh hK28 _ _ _ _ g1 g2 g3 h hGσ hYσ hE hth _ _ _ hH (lv_sub (l' := [(0, .ref th), (1, .int (i32 v1)), (2, .int (i32 v2)), (3, .int (i32 v3))]) hl [0, 1, 2, 3] rfl) hc
theorem al_X12_turn_28 {Q : Sg → Int → Prop} {X : Sg → String → Prop} {th : Nat} (K : MD l R p s m args c cX12_turn 4 RX12 D cA tys A n0 s0 13 273 []) (hQ : CQI p l e R s m args below meth c cX12_turn D cA A n0 s0 QM σi Q) (hX : CX p l e R s m args below meth c 4 D cA A n0 s0 QM σi X) (hTh : CT p l e R s m args below meth c cX12_turn 4 D cA A n0 s0 QM σi RX12 X) : ∀ (n : Nat), ∀ (σ : Sg) (v1 : Int) (v2 : Int) (v3 : Int) (g1 : rng v1) (g2 : rng v2) (g3 : rng v3), wl_X12_turn_28 th Q X n σ v1 v2 v3 → RG σ → TY σ → Ext σi σ → kO σ th 12 → JJ p l e R s m args below meth c 4 D cA A n0 s0 QM σ 28 [(0, .ref th), (1, .int (i32 v1)), (2, .int (i32 v2)), (3, .int (i32 v3))] [] := by
  intro n
  induction n with
  | zero => intro σ v1 v2 v3 g1 g2 g3 h; exact h.elim
  | succ n ih => exact fun σ v1 v2 v3 g1 g2 g3 h => a_X12_turn_28 K hQ hX hTh ih σ v1 v2 v3 g1 g2 g3 h
set_option maxRecDepth 20000 in
theorem a_X12_turn_24 {Q : Sg → Int → Prop} {X : Sg → String → Prop} {th : Nat} (K : MD l R p s m args c cX12_turn 4 RX12 D cA tys A n0 s0 13 273 []) (hQ : CQI p l e R s m args below meth c cX12_turn D cA A n0 s0 QM σi Q) (hX : CX p l e R s m args below meth c 4 D cA A n0 s0 QM σi X) (hTh : CT p l e R s m args below meth c cX12_turn 4 D cA A n0 s0 QM σi RX12 X) : ∀ (σ : Sg) (v1 : Int) (g1 : rng v1), w_X12_turn_24 th Q X σ v1 → RG σ → TY σ → Ext σi σ → kO σ th 12 → JJ p l e R s m args below meth c 4 D cA A n0 s0 QM σ 24 [(0, .ref th), (1, .int (i32 v1))] [] := by
  intro σ v1 g1 h hGσ hYσ hE hth H locs ls hH hl hc
  have B := K.1
  have hl9 := K.2.2.2.2.2.2
  unfold w_X12_turn_24 at h
  refine lv_iconst (v := i32 0) B.1 B.2.1 dX12_turn_24 (by decide) ?_
  refine lv_istore_n (lv' := [(2, .int (i32 0)), (0, .ref th), (1, .int (i32 v1))]) B.1 B.2.1 dX12_turn_25 rfl hl (by decide) rfl (fun ls hl => ?_)
  refine lv_iconst (v := i32 0) B.1 B.2.1 dX12_turn_26 (by decide) ?_
  refine lv_istore_n (lv' := [(3, .int (i32 0)), (2, .int (i32 0)), (0, .ref th), (1, .int (i32 v1))]) B.1 B.2.1 dX12_turn_27 rfl hl (by decide) rfl (fun ls hl => ?_)
  obtain ⟨n9, h⟩ := h
  exact al_X12_turn_28 K hQ hX hTh n9 _ _ _ _ g1 (by unfold rng; omega) (by unfold rng; omega) h hGσ hYσ hE hth _ _ _ hH (lv_sub (l' := [(0, .ref th), (1, .int (i32 v1)), (2, .int (i32 0)), (3, .int (i32 0))]) hl [2, 3, 1, 0] rfl) hc
set_option maxRecDepth 20000 in
theorem a_X12_turn_9 {Q : Sg → Int → Prop} {X : Sg → String → Prop} {th : Nat} (K : MD l R p s m args c cX12_turn 4 RX12 D cA tys A n0 s0 13 273 []) (hQ : CQI p l e R s m args below meth c cX12_turn D cA A n0 s0 QM σi Q) (hX : CX p l e R s m args below meth c 4 D cA A n0 s0 QM σi X) (hTh : CT p l e R s m args below meth c cX12_turn 4 D cA A n0 s0 QM σi RX12 X) : ∀ (σ : Sg) (v1 : Int) (g1 : rng v1), w_X12_turn_9 th Q X σ v1 → RG σ → TY σ → Ext σi σ → kO σ th 12 → JJ p l e R s m args below meth c 4 D cA A n0 s0 QM σ 9 [(0, .ref th), (1, .int (i32 v1))] [] := by
  intro σ v1 g1 h hGσ hYσ hE hth H locs ls hH hl hc
  have B := K.1
  have hl9 := K.2.2.2.2.2.2
  unfold w_X12_turn_9 at h
  refine lv_iload_n B.1 B.2.1 dX12_turn_9 rfl (lv_at hl 1 rfl) ?_
  refine lv_sipush (v := i32 5000) B.1 B.2.1 dX12_turn_10 (by decide) ?_
  refine lv_icmp_le (tgt := 24) B.1 B.2.1 dX12_turn_13 (by decide) (fun h9 => ?_) (fun h9 => ?_)
  · rw [if_pos ((i32_le g1 (by unfold rng; omega)).mp h9)] at h
    exact a_X12_turn_24 K hQ hX hTh _ _ g1 h hGσ hYσ hE hth _ _ _ hH (lv_sub (l' := [(0, .ref th), (1, .int (i32 v1))]) hl [0, 1] rfl) hc
  · rw [if_neg (fun q => h9 ((i32_le g1 (by unfold rng; omega)).mpr q))] at h
    exact a_X12_turn_16 K hQ hX hTh _ h hGσ hYσ hE hth _ _ _ hH (lv_sub (l' := [(0, .ref th)]) hl [0] rfl) hc
set_option maxRecDepth 20000 in
theorem a_X12_turn_0 {Q : Sg → Int → Prop} {X : Sg → String → Prop} {th : Nat} (K : MD l R p s m args c cX12_turn 4 RX12 D cA tys A n0 s0 13 273 []) (hQ : CQI p l e R s m args below meth c cX12_turn D cA A n0 s0 QM σi Q) (hX : CX p l e R s m args below meth c 4 D cA A n0 s0 QM σi X) (hTh : CT p l e R s m args below meth c cX12_turn 4 D cA A n0 s0 QM σi RX12 X) : ∀ (σ : Sg) (v1 : Int) (g1 : rng v1), w_X12_turn_0 th Q X σ v1 → RG σ → TY σ → Ext σi σ → kO σ th 12 → JJ p l e R s m args below meth c 4 D cA A n0 s0 QM σ 0 [(0, .ref th), (1, .int (i32 v1))] [] := by
  intro σ v1 g1 h hGσ hYσ hE hth H locs ls hH hl hc
  have B := K.1
  have hl9 := K.2.2.2.2.2.2
  unfold w_X12_turn_0 at h
  refine lv_aload_n B.1 B.2.1 dX12_turn_0 rfl (lv_at hl 0 rfl) ?_
  refine W.eq (g2 := F0 m 1 ls [.ref th]) (rfl) ?_
  refine c_V B hH hl hc K.2.2.1 (C := RX12) (T := TX12) (N := 9) (ci := 12) (As := []) (ok_X12_needRun hl9 K.2.1 σ th hth hGσ hYσ h) wc_X12_140 0 hd_X12_needRun ⟨Nat.le_trans (Nat.le_of_ble_eq_true rfl) K.2.2.2.1, Nat.le_trans (Nat.le_of_ble_eq_true rfl) K.2.2.2.2.1⟩ hth.1 hth.2 (by decide) rfl rfl (rest := []) rfl (Nat.le_of_ble_eq_true rfl) dX12_turn_1 (fun σ21 w hq => ?_) (fun σ9 E9 hx9 => hX σ9 E9 _ _ _ (tb_out K.2.2.2.2.2.1 rfl) hx9.1 hx9.2.1 hx9.2.2.1 (hE.trans hx9.2.2.2))
  obtain ⟨rfl, h, hGσ21, hYσ21, xσ21⟩ := hq
  have h := h xσ21
  intro H locs ls hH hl hc
  refine W.eq (g2 := F0 m 4 ls []) (rfl) ?_
  try dsimp only at h
  refine lv_iload_n B.1 B.2.1 dX12_turn_4 rfl (lv_at hl 1 rfl) ?_
  refine lv_iconst (v := i32 1) B.1 B.2.1 dX12_turn_5 (by decide) ?_
  refine lv_icmp_lt (tgt := 16) B.1 B.2.1 dX12_turn_6 (by decide) (fun h9 => ?_) (fun h9 => ?_)
  · rw [if_pos ((i32_lt g1 (by unfold rng; omega)).mp h9)] at h
    exact a_X12_turn_16 K hQ hX hTh _ h hGσ21 hYσ21 (hE.trans xσ21) (hth.up xσ21) _ _ _ hH (lv_sub (l' := [(0, .ref th)]) hl [0] rfl) hc
  · rw [if_neg (fun q => h9 ((i32_lt g1 (by unfold rng; omega)).mpr q))] at h
    exact a_X12_turn_9 K hQ hX hTh _ _ g1 h hGσ21 hYσ21 (hE.trans xσ21) (hth.up xσ21) _ _ _ hH (lv_sub (l' := [(0, .ref th), (1, .int (i32 v1))]) hl [0, 1] rfl) hc
theorem ok_X12_turn (hl0 : l.stackTraces = false) (hT : TyC cA tys) {Q : Sg → Int → Prop} {X : Sg → String → Prop} (σ : Sg) (th : Nat) (v1 : Int) (g1 : rng v1) (hth : kO σ th 12) (hG : RG σ) (hY : TY σ) (h : wp_X12_turn th v1 σ Q X) : Ok l D cA tys A yX12_turn (.code yX12_turn cX12_turn 4 (some .int)) 13 273 [.ref th, .int (i32 v1)] σ (QcI σ Q) (QxC σ X) := by
  unfold wp_X12_turn at h
  exact oc_I hl0 (by decide) (by exact Nat.le_of_ble_eq_true rfl) hT (fun p e R s m args below meth c K hQ hX hTh H locs ls hH hl hc => a_X12_turn_0 K hQ hX hTh σ v1 g1 h hG hY (Ext.rfl' σ) hth H locs ls hH (lv_sub (l' := [(0, .ref th), (1, .int (i32 v1))]) hl [0, 1] rfl) hc)
theorem dX12_visible_0 : decode cX12_visible 0 = .ok (.aload_n 0, 1) := by decide +kernel
theorem dX12_visible_1 : decode cX12_visible 1 = .ok (.iload_n 1, 1) := by decide +kernel
theorem dX12_visible_2 : decode cX12_visible 2 = .ok (.invokevirtual 172, 3) := by decide +kernel
theorem dX12_visible_5 : decode cX12_visible 5 = .ok (.aload_n 0, 1) := by decide +kernel
theorem dX12_visible_6 : decode cX12_visible 6 = .ok (.getfield 49, 3) := by decide +kernel
theorem dX12_visible_9 : decode cX12_visible 9 = .ok (.getfield 175, 3) := by decide +kernel
theorem dX12_visible_12 : decode cX12_visible 12 = .ok (.iload_n 1, 1) := by decide +kernel
theorem dX12_visible_13 : decode cX12_visible 13 = .ok (.aaload, 1) := by decide +kernel
theorem dX12_visible_14 : decode cX12_visible 14 = .ok (.getfield 179, 3) := by decide +kernel
theorem dX12_visible_17 : decode cX12_visible 17 = .ok (.ireturn, 1) := by decide +kernel
set_option maxRecDepth 20000 in
theorem a_X12_visible_0 {Q : Sg → Int → Prop} {X : Sg → String → Prop} {th : Nat} (K : MD l R p s m args c cX12_visible 2 RX12 D cA tys A n0 s0 7 111 []) (hQ : CQI p l e R s m args below meth c cX12_visible D cA A n0 s0 QM σi Q) (hX : CX p l e R s m args below meth c 2 D cA A n0 s0 QM σi X) (hTh : CT p l e R s m args below meth c cX12_visible 2 D cA A n0 s0 QM σi RX12 X) : ∀ (σ : Sg) (v1 : Int) (g1 : rng v1), w_X12_visible_0 th Q X σ v1 → RG σ → TY σ → Ext σi σ → kO σ th 12 → JJ p l e R s m args below meth c 2 D cA A n0 s0 QM σ 0 [(0, .ref th), (1, .int (i32 v1))] [] := by
  intro σ v1 g1 h hGσ hYσ hE hth H locs ls hH hl hc
  have B := K.1
  have hl9 := K.2.2.2.2.2.2
  unfold w_X12_visible_0 at h
  refine lv_aload_n B.1 B.2.1 dX12_visible_0 rfl (lv_at hl 0 rfl) ?_
  refine lv_iload_n B.1 B.2.1 dX12_visible_1 rfl (lv_at hl 1 rfl) ?_
  refine W.eq (g2 := F0 m 2 ls [.int (i32 v1), .ref th]) (rfl) ?_
  refine c_V B hH hl hc K.2.2.1 (C := RX12) (T := TX12) (N := 9) (ci := 12) (As := [.int (i32 v1)]) (ok_X12_needOutput hl9 K.2.1 σ th v1 g1 hth hGσ hYσ h) wc_X12_172 1 hd_X12_needOutput ⟨Nat.le_trans (Nat.le_of_ble_eq_true rfl) K.2.2.2.1, Nat.le_trans (Nat.le_of_ble_eq_true rfl) K.2.2.2.2.1⟩ hth.1 hth.2 (by decide) rfl rfl (rest := []) rfl (Nat.le_of_ble_eq_true rfl) dX12_visible_2 (fun σ9 w hq => ?_) (fun σ9 E9 hx9 => hX σ9 E9 _ _ _ (tb_out K.2.2.2.2.2.1 rfl) hx9.1 hx9.2.1 hx9.2.2.1 (hE.trans hx9.2.2.2))
  obtain ⟨rfl, h, hGσ9, hYσ9, xσ9⟩ := hq
  have h := h xσ9
  intro H locs ls hH hl hc
  refine W.eq (g2 := F0 m 5 ls []) (rfl) ?_
  try dsimp only at h
  refine lv_aload_n B.1 B.2.1 dX12_visible_5 rfl (lv_at hl 0 rfl) ?_
  refine f_getp B hH (hth.up xσ9) (by decide) rfl wu_X12 7 (by decide) wf_X12_49 rfl rfl dX12_visible_6 ?_
  obtain ⟨a10, ea10, h⟩ := h
  have ka10 : kO σ9 a10 9 := (hYσ9.get (hth.up xσ9) (by decide)) a10 ea10
  have h := h ka10
  refine W.eq (g2 := F0 m 9 ls [.ref a10]) (by rw [ea10]; rfl) ?_
  refine f_getp B hH ka10 (by decide) rfl wu_X9 8 (by decide) wf_X12_175 rfl rfl dX12_visible_9 ?_
  refine lv_iload_n B.1 B.2.1 dX12_visible_12 rfl (lv_at hl 1 rfl) ?_
  obtain ⟨a11, ea11, h⟩ := h
  have ka11 : kO σ9 a11 111 := (hYσ9.get ka10 (by decide)) a11 ea11
  have h := h ka11
  obtain ⟨q1, h⟩ := h
  refine W.eq (g2 := F0 m 13 ls [.int (i32 v1), .ref a11]) (by rw [ea11]; rfl) ?_
  refine y_aald B hH (t0 := 4) ka11 (by decide) K.2.1.2.1 q1 (hYσ9.2 _) dX12_visible_13 ?_
  obtain ⟨a12, ea12, h⟩ := h
  have ka12 : kO σ9 a12 1 := (hYσ9.get ka11 rfl) a12 ea12
  have h := h ka12
  refine W.eq (g2 := F0 m 14 ls [.ref a12]) (by rw [ea12]; rfl) ?_
  refine f_geti B hH ka12 (by decide) rfl wu_X1 2 (by decide) wf_X12_179 rfl rfl dX12_visible_14 ?_
  exact hQ _ _ _ _ _ _ (hGσ9 _ _) dX12_visible_17 hH hc h hGσ9 hYσ9 (hE.trans xσ9)
theorem ok_X12_visible (hl0 : l.stackTraces = false) (hT : TyC cA tys) {Q : Sg → Int → Prop} {X : Sg → String → Prop} (σ : Sg) (th : Nat) (v1 : Int) (g1 : rng v1) (hth : kO σ th 12) (hG : RG σ) (hY : TY σ) (h : wp_X12_visible th v1 σ Q X) : Ok l D cA tys A yX12_visible (.code yX12_visible cX12_visible 2 (some .int)) 7 111 [.ref th, .int (i32 v1)] σ (QcI σ Q) (QxC σ X) := by
  unfold wp_X12_visible at h
  exact oc_I hl0 (by decide) (by exact Nat.le_of_ble_eq_true rfl) hT (fun p e R s m args below meth c K hQ hX hTh H locs ls hH hl hc => a_X12_visible_0 K hQ hX hTh σ v1 g1 h hG hY (Ext.rfl' σ) hth H locs ls hH (lv_sub (l' := [(0, .ref th), (1, .int (i32 v1))]) hl [0, 1] rfl) hc)
end C86

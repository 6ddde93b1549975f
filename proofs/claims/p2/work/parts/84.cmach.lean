section C84
variable {p : Program} {l : Launch} {e : Env} {R : Room} {s : State} {m : MethodId} {args : Array Value} {below : List Frame} {meth : Method} {c : Code} {D : va_G} {cA : Nat → ClassId} {tys : List (ClassId × FieldType)} {A : Nat → Prop} {n0 s0 : Nat} {QM : State → Prop} {σi : Sg}
theorem dX8_membersOf_0 : decode cX8_membersOf 0 = .ok (.iconst 0, 1) := by decide +kernel
theorem dX8_membersOf_1 : decode cX8_membersOf 1 = .ok (.istore_n 2, 1) := by decide +kernel
theorem dX8_membersOf_2 : decode cX8_membersOf 2 = .ok (.iconst 0, 1) := by decide +kernel
theorem dX8_membersOf_3 : decode cX8_membersOf 3 = .ok (.istore_n 3, 1) := by decide +kernel
theorem dX8_membersOf_4 : decode cX8_membersOf 4 = .ok (.iload_n 3, 1) := by decide +kernel
theorem dX8_membersOf_5 : decode cX8_membersOf 5 = .ok (.iconst 4, 1) := by decide +kernel
theorem dX8_membersOf_6 : decode cX8_membersOf 6 = .ok (.if_icmp .ge 29, 3) := by decide +kernel
theorem dX8_membersOf_9 : decode cX8_membersOf 9 = .ok (.iload_n 1, 1) := by decide +kernel
theorem dX8_membersOf_10 : decode cX8_membersOf 10 = .ok (.ifCond .lt 25, 3) := by decide +kernel
theorem dX8_membersOf_13 : decode cX8_membersOf 13 = .ok (.iload_n 2, 1) := by decide +kernel
theorem dX8_membersOf_14 : decode cX8_membersOf 14 = .ok (.aload_n 0, 1) := by decide +kernel
theorem dX8_membersOf_15 : decode cX8_membersOf 15 = .ok (.getfield 11, 3) := by decide +kernel
theorem dX8_membersOf_18 : decode cX8_membersOf 18 = .ok (.iload_n 1, 1) := by decide +kernel
theorem dX8_membersOf_19 : decode cX8_membersOf 19 = .ok (.iconst 4, 1) := by decide +kernel
theorem dX8_membersOf_20 : decode cX8_membersOf 20 = .ok (.imul, 1) := by decide +kernel
theorem dX8_membersOf_21 : decode cX8_membersOf 21 = .ok (.iload_n 3, 1) := by decide +kernel
theorem dX8_membersOf_22 : decode cX8_membersOf 22 = .ok (.iadd, 1) := by decide +kernel
theorem dX8_membersOf_23 : decode cX8_membersOf 23 = .ok (.laload, 1) := by decide +kernel
theorem dX8_membersOf_24 : decode cX8_membersOf 24 = .ok (.invokestatic 92, 3) := by decide +kernel
theorem dX8_membersOf_27 : decode cX8_membersOf 27 = .ok (.iadd, 1) := by decide +kernel
theorem dX8_membersOf_28 : decode cX8_membersOf 28 = .ok (.istore_n 2, 1) := by decide +kernel
theorem dX8_membersOf_29 : decode cX8_membersOf 29 = .ok (.iinc 3 1, 3) := by decide +kernel
theorem dX8_membersOf_32 : decode cX8_membersOf 32 = .ok (.goto (-28), 3) := by decide +kernel
theorem dX8_membersOf_35 : decode cX8_membersOf 35 = .ok (.iload_n 2, 1) := by decide +kernel
theorem dX8_membersOf_36 : decode cX8_membersOf 36 = .ok (.ireturn, 1) := by decide +kernel
set_option maxRecDepth 20000 in
theorem a_X8_membersOf_35 {Q : Sg → Int → Prop} {X : Sg → String → Prop} {th : Nat} (K : MD l R p s m args c cX8_membersOf 4 RX8 D cA tys A n0 s0 1 21 []) (hQ : CQI p l e R s m args below meth c cX8_membersOf D cA A n0 s0 QM σi Q) (hX : CX p l e R s m args below meth c 4 D cA A n0 s0 QM σi X) (hTh : CT p l e R s m args below meth c cX8_membersOf 4 D cA A n0 s0 QM σi RX8 X) : ∀ (σ : Sg) (v2 : Int) (g2 : rng v2), w_X8_membersOf_35 th Q X σ v2 → RG σ → TY σ → Ext σi σ → kO σ th 8 → JJ p l e R s m args below meth c 4 D cA A n0 s0 QM σ 35 [(0, .ref th), (2, .int (i32 v2))] [] := by
  intro σ v2 g2 h hGσ hYσ hE hth H locs ls hH hl hc
  have B := K.1
  have hl9 := K.2.2.2.2.2.2
  unfold w_X8_membersOf_35 at h
  refine lv_iload_n B.1 B.2.1 dX8_membersOf_35 rfl (lv_at hl 1 rfl) ?_
  exact hQ _ _ _ _ _ _ g2 dX8_membersOf_36 hH hc h hGσ hYσ hE
set_option maxRecDepth 20000 in
theorem a_X8_membersOf_13 {Q : Sg → Int → Prop} {X : Sg → String → Prop} {th : Nat} (K : MD l R p s m args c cX8_membersOf 4 RX8 D cA tys A n0 s0 1 21 []) (hQ : CQI p l e R s m args below meth c cX8_membersOf D cA A n0 s0 QM σi Q) (hX : CX p l e R s m args below meth c 4 D cA A n0 s0 QM σi X) (hTh : CT p l e R s m args below meth c cX8_membersOf 4 D cA A n0 s0 QM σi RX8 X) {K4 : Sg → Int → Int → Int → Prop} (hK4 : ∀ (σ : Sg) (v1 : Int) (v2 : Int) (v3 : Int) (g1 : rng v1) (g2 : rng v2) (g3 : rng v3), K4 σ v1 v2 v3 → RG σ → TY σ → Ext σi σ → kO σ th 8 → JJ p l e R s m args below meth c 4 D cA A n0 s0 QM σ 4 [(0, .ref th), (1, .int (i32 v1)), (2, .int (i32 v2)), (3, .int (i32 v3))] []) : ∀ (σ : Sg) (v1 : Int) (v2 : Int) (v3 : Int) (g1 : rng v1) (g2 : rng v2) (g3 : rng v3), w_X8_membersOf_13 th K4 Q X σ v1 v2 v3 → RG σ → TY σ → Ext σi σ → kO σ th 8 → JJ p l e R s m args below meth c 4 D cA A n0 s0 QM σ 13 [(0, .ref th), (1, .int (i32 v1)), (2, .int (i32 v2)), (3, .int (i32 v3))] [] := by
  intro σ v1 v2 v3 g1 g2 g3 h hGσ hYσ hE hth H locs ls hH hl hc
  have B := K.1
  have hl9 := K.2.2.2.2.2.2
  unfold w_X8_membersOf_13 at h
  refine lv_iload_n B.1 B.2.1 dX8_membersOf_13 rfl (lv_at hl 2 rfl) ?_
  refine lv_aload_n B.1 B.2.1 dX8_membersOf_14 rfl (lv_at hl 0 rfl) ?_
  refine f_getp B hH hth (by decide) rfl wu_X8 2 (by decide) wf_X8_11 rfl rfl dX8_membersOf_15 ?_
  refine lv_iload_n B.1 B.2.1 dX8_membersOf_18 rfl (lv_at hl 1 rfl) ?_
  refine lv_iconst (v := i32 4) B.1 B.2.1 dX8_membersOf_19 (by decide) ?_
  obtain ⟨q1, h⟩ := h
  refine lv_imul B.1 B.2.1 dX8_membersOf_20 ?_
  rw [i32_mul]
  refine lv_iload_n B.1 B.2.1 dX8_membersOf_21 rfl (lv_at hl 3 rfl) ?_
  obtain ⟨q2, h⟩ := h
  refine lv_iadd B.1 B.2.1 dX8_membersOf_22 ?_
  rw [i32_add]
  obtain ⟨a7, ea7, h⟩ := h
  have ka7 : kO σ a7 101 := (hYσ.get hth (by decide)) a7 ea7
  have h := h ka7
  obtain ⟨q3, h⟩ := h
  refine W.eq (g2 := F0 m 23 ls [.int (i32 ((v1 * 4) + v3)), .ref a7, .int (i32 v2)]) (by rw [ea7]; rfl) ?_
  refine y_lald B K.2.1 hH ka7 q3 dX8_membersOf_23 (hYσ.2 _) ?_
  refine c_S B hH hl hc K.2.2.1 (As := [.long (gJ σ a7 ((v1 * 4) + v3).toNat)]) (okC_J13_bitCount_95d88 hl9 K.2.1 σ (gJ σ a7 ((v1 * 4) + v3).toNat) hGσ hYσ h) wc_X8_92 1 hdC_J13_bitCount_95d88 ⟨Nat.le_trans (Nat.le_of_ble_eq_true rfl) K.2.2.2.1, Nat.le_trans (Nat.le_of_ble_eq_true rfl) K.2.2.2.2.1⟩ rfl (rest := [.int (i32 v2)]) rfl (Nat.le_of_ble_eq_true rfl) dX8_membersOf_24 (fun σ8 w hq => ?_) (fun σ9 E9 hx9 => hX σ9 E9 _ _ _ (tb_out K.2.2.2.2.2.1 rfl) hx9.1 hx9.2.1 hx9.2.2.1 (hE.trans hx9.2.2.2))
  obtain ⟨r9, rfl, gr9, h, hGσ8, hYσ8, xσ8⟩ := hq
  have h := h xσ8
  intro H locs ls hH hl hc
  refine W.eq (g2 := F0 m 27 ls [.int (i32 r9), .int (i32 v2)]) (rfl) ?_
  try dsimp only at h
  refine lv_iadd B.1 B.2.1 dX8_membersOf_27 ?_
  rw [i32_add]
  refine W.eq (g2 := F0 m 28 ls [.int (i32 (wr (v2 + r9)))]) (by rw [i32_wr]) ?_
  refine lv_istore_n (lv' := [(2, .int (i32 (wr (v2 + r9)))), (0, .ref th), (1, .int (i32 v1)), (3, .int (i32 v3))]) B.1 B.2.1 dX8_membersOf_28 rfl hl (by decide) rfl (fun ls hl => ?_)
  obtain ⟨q4, h⟩ := h
  refine lv_iinc (k := 3) (v := i32 (v3 + 1)) (lv' := [(3, .int (i32 (v3 + 1))), (2, .int (i32 (wr (v2 + r9)))), (0, .ref th), (1, .int (i32 v1))]) B.1 B.2.1 dX8_membersOf_29 hl rfl (i32_add _ _) (by decide) rfl (fun ls hl => ?_)
  refine lv_goto (tgt := 4) B.1 B.2.1 dX8_membersOf_32 (by decide) ?_
  exact hK4 _ _ _ _ g1 (rng_wr _) q4 h hGσ8 hYσ8 (hE.trans xσ8) (hth.up xσ8) _ _ _ hH (lv_sub (l' := [(0, .ref th), (1, .int (i32 v1)), (2, .int (i32 (wr (v2 + r9)))), (3, .int (i32 (v3 + 1)))]) hl [2, 3, 1, 0] rfl) hc
set_option maxRecDepth 20000 in
theorem a_X8_membersOf_9 {Q : Sg → Int → Prop} {X : Sg → String → Prop} {th : Nat} (K : MD l R p s m args c cX8_membersOf 4 RX8 D cA tys A n0 s0 1 21 []) (hQ : CQI p l e R s m args below meth c cX8_membersOf D cA A n0 s0 QM σi Q) (hX : CX p l e R s m args below meth c 4 D cA A n0 s0 QM σi X) (hTh : CT p l e R s m args below meth c cX8_membersOf 4 D cA A n0 s0 QM σi RX8 X) {K4 : Sg → Int → Int → Int → Prop} (hK4 : ∀ (σ : Sg) (v1 : Int) (v2 : Int) (v3 : Int) (g1 : rng v1) (g2 : rng v2) (g3 : rng v3), K4 σ v1 v2 v3 → RG σ → TY σ → Ext σi σ → kO σ th 8 → JJ p l e R s m args below meth c 4 D cA A n0 s0 QM σ 4 [(0, .ref th), (1, .int (i32 v1)), (2, .int (i32 v2)), (3, .int (i32 v3))] []) : ∀ (σ : Sg) (v1 : Int) (v2 : Int) (v3 : Int) (g1 : rng v1) (g2 : rng v2) (g3 : rng v3), w_X8_membersOf_9 th K4 Q X σ v1 v2 v3 → RG σ → TY σ → Ext σi σ → kO σ th 8 → JJ p l e R s m args below meth c 4 D cA A n0 s0 QM σ 9 [(0, .ref th), (1, .int (i32 v1)), (2, .int (i32 v2)), (3, .int (i32 v3))] [] := by
  intro σ v1 v2 v3 g1 g2 g3 h hGσ hYσ hE hth H locs ls hH hl hc
  have B := K.1
  have hl9 := K.2.2.2.2.2.2
  unfold w_X8_membersOf_9 at h
  refine lv_iload_n B.1 B.2.1 dX8_membersOf_9 rfl (lv_at hl 1 rfl) ?_
  refine lv_if_lt (tgt := 35) B.1 B.2.1 dX8_membersOf_10 (by decide) (fun h9 => ?_) (fun h9 => ?_)
  · rw [if_pos ((z_lt g1).mp h9)] at h
    exact a_X8_membersOf_35 K hQ hX hTh _ _ g2 h hGσ hYσ hE hth _ _ _ hH (lv_sub (l' := [(0, .ref th), (2, .int (i32 v2))]) hl [0, 2] rfl) hc
  · rw [if_neg (fun q => h9 ((z_lt g1).mpr q))] at h
    exact a_X8_membersOf_13 K hQ hX hTh hK4 _ _ _ _ g1 g2 g3 h hGσ hYσ hE hth _ _ _ hH (lv_sub (l' := [(0, .ref th), (1, .int (i32 v1)), (2, .int (i32 v2)), (3, .int (i32 v3))]) hl [0, 1, 2, 3] rfl) hc
set_option maxRecDepth 20000 in
theorem a_X8_membersOf_4 {Q : Sg → Int → Prop} {X : Sg → String → Prop} {th : Nat} (K : MD l R p s m args c cX8_membersOf 4 RX8 D cA tys A n0 s0 1 21 []) (hQ : CQI p l e R s m args below meth c cX8_membersOf D cA A n0 s0 QM σi Q) (hX : CX p l e R s m args below meth c 4 D cA A n0 s0 QM σi X) (hTh : CT p l e R s m args below meth c cX8_membersOf 4 D cA A n0 s0 QM σi RX8 X) {K4 : Sg → Int → Int → Int → Prop} (hK4 : ∀ (σ : Sg) (v1 : Int) (v2 : Int) (v3 : Int) (g1 : rng v1) (g2 : rng v2) (g3 : rng v3), K4 σ v1 v2 v3 → RG σ → TY σ → Ext σi σ → kO σ th 8 → JJ p l e R s m args below meth c 4 D cA A n0 s0 QM σ 4 [(0, .ref th), (1, .int (i32 v1)), (2, .int (i32 v2)), (3, .int (i32 v3))] []) : ∀ (σ : Sg) (v1 : Int) (v2 : Int) (v3 : Int) (g1 : rng v1) (g2 : rng v2) (g3 : rng v3), w_X8_membersOf_4 th K4 Q X σ v1 v2 v3 → RG σ → TY σ → Ext σi σ → kO σ th 8 → JJ p l e R s m args below meth c 4 D cA A n0 s0 QM σ 4 [(0, .ref th), (1, .int (i32 v1)), (2, .int (i32 v2)), (3, .int (i32 v3))] [] := by
  intro σ v1 v2 v3 g1 g2 g3 h hGσ hYσ hE hth H locs ls hH hl hc
  have B := K.1
  have hl9 := K.2.2.2.2.2.2
  unfold w_X8_membersOf_4 at h
  refine lv_iload_n B.1 B.2.1 dX8_membersOf_4 rfl (lv_at hl 3 rfl) ?_
  refine lv_iconst (v := i32 4) B.1 B.2.1 dX8_membersOf_5 (by decide) ?_
  refine lv_icmp_ge (tgt := 35) B.1 B.2.1 dX8_membersOf_6 (by decide) (fun h9 => ?_) (fun h9 => ?_)
  · rw [if_pos ((i32_le (by unfold rng; omega) g3).mp h9)] at h
    exact a_X8_membersOf_35 K hQ hX hTh _ _ g2 h hGσ hYσ hE hth _ _ _ hH (lv_sub (l' := [(0, .ref th), (2, .int (i32 v2))]) hl [0, 2] rfl) hc
  · rw [if_neg (fun q => h9 ((i32_le (by unfold rng; omega) g3).mpr q))] at h
    exact a_X8_membersOf_9 K hQ hX hTh hK4 _ _ _ _ g1 g2 g3 h hGσ hYσ hE hth _ _ _ hH (lv_sub (l' := [(0, .ref th), (1, .int (i32 v1)), (2, .int (i32 v2)), (3, .int (i32 v3))]) hl [0, 1, 2, 3] rfl) hc
theorem al_X8_membersOf_4 {Q : Sg → Int → Prop} {X : Sg → String → Prop} {th : Nat} (K : MD l R p s m args c cX8_membersOf 4 RX8 D cA tys A n0 s0 1 21 []) (hQ : CQI p l e R s m args below meth c cX8_membersOf D cA A n0 s0 QM σi Q) (hX : CX p l e R s m args below meth c 4 D cA A n0 s0 QM σi X) (hTh : CT p l e R s m args below meth c cX8_membersOf 4 D cA A n0 s0 QM σi RX8 X) : ∀ (n : Nat), ∀ (σ : Sg) (v1 : Int) (v2 : Int) (v3 : Int) (g1 : rng v1) (g2 : rng v2) (g3 : rng v3), wl_X8_membersOf_4 th Q X n σ v1 v2 v3 → RG σ → TY σ → Ext σi σ → kO σ th 8 → JJ p l e R s m args below meth c 4 D cA A n0 s0 QM σ 4 [(0, .ref th), (1, .int (i32 v1)), (2, .int (i32 v2)), (3, .int (i32 v3))] [] := by
  intro n
  induction n with
  | zero => intro σ v1 v2 v3 g1 g2 g3 h; exact h.elim
  | succ n ih => exact fun σ v1 v2 v3 g1 g2 g3 h => a_X8_membersOf_4 K hQ hX hTh ih σ v1 v2 v3 g1 g2 g3 h
set_option maxRecDepth 20000 in
theorem a_X8_membersOf_0 {Q : Sg → Int → Prop} {X : Sg → String → Prop} {th : Nat} (K : MD l R p s m args c cX8_membersOf 4 RX8 D cA tys A n0 s0 1 21 []) (hQ : CQI p l e R s m args below meth c cX8_membersOf D cA A n0 s0 QM σi Q) (hX : CX p l e R s m args below meth c 4 D cA A n0 s0 QM σi X) (hTh : CT p l e R s m args below meth c cX8_membersOf 4 D cA A n0 s0 QM σi RX8 X) : ∀ (σ : Sg) (v1 : Int) (g1 : rng v1), w_X8_membersOf_0 th Q X σ v1 → RG σ → TY σ → Ext σi σ → kO σ th 8 → JJ p l e R s m args below meth c 4 D cA A n0 s0 QM σ 0 [(0, .ref th), (1, .int (i32 v1))] [] := by
  intro σ v1 g1 h hGσ hYσ hE hth H locs ls hH hl hc
  have B := K.1
  have hl9 := K.2.2.2.2.2.2
  unfold w_X8_membersOf_0 at h
  refine lv_iconst (v := i32 0) B.1 B.2.1 dX8_membersOf_0 (by decide) ?_
  refine lv_istore_n (lv' := [(2, .int (i32 0)), (0, .ref th), (1, .int (i32 v1))]) B.1 B.2.1 dX8_membersOf_1 rfl hl (by decide) rfl (fun ls hl => ?_)
  refine lv_iconst (v := i32 0) B.1 B.2.1 dX8_membersOf_2 (by decide) ?_
  refine lv_istore_n (lv' := [(3, .int (i32 0)), (2, .int (i32 0)), (0, .ref th), (1, .int (i32 v1))]) B.1 B.2.1 dX8_membersOf_3 rfl hl (by decide) rfl (fun ls hl => ?_)
  obtain ⟨n9, h⟩ := h
  exact al_X8_membersOf_4 K hQ hX hTh n9 _ _ _ _ g1 (by unfold rng; omega) (by unfold rng; omega) h hGσ hYσ hE hth _ _ _ hH (lv_sub (l' := [(0, .ref th), (1, .int (i32 v1)), (2, .int (i32 0)), (3, .int (i32 0))]) hl [2, 3, 1, 0] rfl) hc
theorem ok_X8_membersOf (hl0 : l.stackTraces = false) (hT : TyC cA tys) {Q : Sg → Int → Prop} {X : Sg → String → Prop} (σ : Sg) (th : Nat) (v1 : Int) (g1 : rng v1) (hth : kO σ th 8) (hG : RG σ) (hY : TY σ) (h : wp_X8_membersOf th v1 σ Q X) : Ok l D cA tys A yX8_membersOf (.code yX8_membersOf cX8_membersOf 4 (some .int)) 1 21 [.ref th, .int (i32 v1)] σ (QcI σ Q) (QxC σ X) := by
  unfold wp_X8_membersOf at h
  exact oc_I hl0 (by decide) (by exact Nat.le_of_ble_eq_true rfl) hT (fun p e R s m args below meth c K hQ hX hTh H locs ls hH hl hc => a_X8_membersOf_0 K hQ hX hTh σ v1 g1 h hG hY (Ext.rfl' σ) hth H locs ls hH (lv_sub (l' := [(0, .ref th), (1, .int (i32 v1))]) hl [0, 1] rfl) hc)
theorem dX12_lineage_0 : decode cX12_lineage 0 = .ok (.aload_n 0, 1) := by decide +kernel
theorem dX12_lineage_1 : decode cX12_lineage 1 = .ok (.iload_n 1, 1) := by decide +kernel
theorem dX12_lineage_2 : decode cX12_lineage 2 = .ok (.iload_n 2, 1) := by decide +kernel
theorem dX12_lineage_3 : decode cX12_lineage 3 = .ok (.invokevirtual 184, 3) := by decide +kernel
theorem dX12_lineage_6 : decode cX12_lineage 6 = .ok (.astore 4, 2) := by decide +kernel
theorem dX12_lineage_8 : decode cX12_lineage 8 = .ok (.iload_n 3, 1) := by decide +kernel
theorem dX12_lineage_9 : decode cX12_lineage 9 = .ok (.iconst (-1), 1) := by decide +kernel
theorem dX12_lineage_10 : decode cX12_lineage 10 = .ok (.if_icmp .ne 16, 3) := by decide +kernel
theorem dX12_lineage_13 : decode cX12_lineage 13 = .ok (.aload_n 0, 1) := by decide +kernel
theorem dX12_lineage_14 : decode cX12_lineage 14 = .ok (.getfield 40, 3) := by decide +kernel
theorem dX12_lineage_17 : decode cX12_lineage 17 = .ok (.aload 4, 2) := by decide +kernel
theorem dX12_lineage_19 : decode cX12_lineage 19 = .ok (.getfield 201, 3) := by decide +kernel
theorem dX12_lineage_22 : decode cX12_lineage 22 = .ok (.invokevirtual 204, 3) := by decide +kernel
theorem dX12_lineage_25 : decode cX12_lineage 25 = .ok (.ireturn, 1) := by decide +kernel
theorem dX12_lineage_26 : decode cX12_lineage 26 = .ok (.aload_n 0, 1) := by decide +kernel
theorem dX12_lineage_27 : decode cX12_lineage 27 = .ok (.getfield 40, 3) := by decide +kernel
theorem dX12_lineage_30 : decode cX12_lineage 30 = .ok (.aload 4, 2) := by decide +kernel
theorem dX12_lineage_32 : decode cX12_lineage 32 = .ok (.getfield 201, 3) := by decide +kernel
theorem dX12_lineage_35 : decode cX12_lineage 35 = .ok (.iload_n 3, 1) := by decide +kernel
theorem dX12_lineage_36 : decode cX12_lineage 36 = .ok (.invokevirtual 208, 3) := by decide +kernel
theorem dX12_lineage_39 : decode cX12_lineage 39 = .ok (.istore 5, 2) := by decide +kernel
theorem dX12_lineage_41 : decode cX12_lineage 41 = .ok (.iload 5, 2) := by decide +kernel
theorem dX12_lineage_43 : decode cX12_lineage 43 = .ok (.iconst (-1), 1) := by decide +kernel
theorem dX12_lineage_44 : decode cX12_lineage 44 = .ok (.if_icmp .ne 11, 3) := by decide +kernel
theorem dX12_lineage_47 : decode cX12_lineage 47 = .ok (.new 92, 3) := by decide +kernel
theorem dX12_lineage_50 : decode cX12_lineage 50 = .ok (.dup, 1) := by decide +kernel
theorem dX12_lineage_51 : decode cX12_lineage 51 = .ok (.invokespecial 94, 3) := by decide +kernel
theorem dX12_lineage_54 : decode cX12_lineage 54 = .ok (.athrow, 1) := by decide +kernel
theorem dX12_lineage_55 : decode cX12_lineage 55 = .ok (.iload 5, 2) := by decide +kernel
theorem dX12_lineage_57 : decode cX12_lineage 57 = .ok (.ireturn, 1) := by decide +kernel
set_option maxRecDepth 20000 in
theorem a_X12_lineage_55 {Q : Sg → Int → Prop} {X : Sg → String → Prop} {th : Nat} (K : MD l R p s m args c cX12_lineage 6 RX12 D cA tys A n0 s0 8 134 []) (hQ : CQI p l e R s m args below meth c cX12_lineage D cA A n0 s0 QM σi Q) (hX : CX p l e R s m args below meth c 6 D cA A n0 s0 QM σi X) (hTh : CT p l e R s m args below meth c cX12_lineage 6 D cA A n0 s0 QM σi RX12 X) : ∀ (σ : Sg) (v5 : Int) (g5 : rng v5), w_X12_lineage_55 th Q X σ v5 → RG σ → TY σ → Ext σi σ → kO σ th 12 → JJ p l e R s m args below meth c 6 D cA A n0 s0 QM σ 55 [(0, .ref th), (5, .int (i32 v5))] [] := by
  intro σ v5 g5 h hGσ hYσ hE hth H locs ls hH hl hc
  have B := K.1
  have hl9 := K.2.2.2.2.2.2
  unfold w_X12_lineage_55 at h
  refine lv_iload B.1 B.2.1 dX12_lineage_55 (lv_at hl 1 rfl) ?_
  exact hQ _ _ _ _ _ _ g5 dX12_lineage_57 hH hc h hGσ hYσ hE
set_option maxRecDepth 20000 in
theorem a_X12_lineage_47 {Q : Sg → Int → Prop} {X : Sg → String → Prop} {th : Nat} (K : MD l R p s m args c cX12_lineage 6 RX12 D cA tys A n0 s0 8 134 []) (hQ : CQI p l e R s m args below meth c cX12_lineage D cA A n0 s0 QM σi Q) (hX : CX p l e R s m args below meth c 6 D cA A n0 s0 QM σi X) (hTh : CT p l e R s m args below meth c cX12_lineage 6 D cA A n0 s0 QM σi RX12 X) : ∀ (σ : Sg), w_X12_lineage_47 th Q X σ → RG σ → TY σ → Ext σi σ → kO σ th 12 → JJ p l e R s m args below meth c 6 D cA A n0 s0 QM σ 47 [(0, .ref th)] [] := by
  intro σ h hGσ hYσ hE hth H locs ls hH hl hc
  have B := K.1
  have hl9 := K.2.2.2.2.2.2
  unfold w_X12_lineage_47 at h
  obtain ⟨q9, h⟩ := h
  exact hTh _ _ _ _ _ _ _ _ _ tw_X12_92_94 dX12_lineage_47 dX12_lineage_50 dX12_lineage_51 dX12_lineage_54 hH hl hc q9 h hGσ hYσ hE (by have := K.2.2.2.1; omega) (by have := K.2.2.2.2.1; omega)
set_option maxRecDepth 20000 in
theorem a_X12_lineage_26 {Q : Sg → Int → Prop} {X : Sg → String → Prop} {th : Nat} (K : MD l R p s m args c cX12_lineage 6 RX12 D cA tys A n0 s0 8 134 []) (hQ : CQI p l e R s m args below meth c cX12_lineage D cA A n0 s0 QM σi Q) (hX : CX p l e R s m args below meth c 6 D cA A n0 s0 QM σi X) (hTh : CT p l e R s m args below meth c cX12_lineage 6 D cA A n0 s0 QM σi RX12 X) : ∀ (σ : Sg) (v3 : Int) (v4 : Option Nat) (g3 : rng v3) (g4 : tyV σ 0 v4), w_X12_lineage_26 th Q X σ v3 v4 → RG σ → TY σ → Ext σi σ → kO σ th 12 → JJ p l e R s m args below meth c 6 D cA A n0 s0 QM σ 26 [(0, .ref th), (3, .int (i32 v3)), (4, va_rf v4)] [] := by
  intro σ v3 v4 g3 g4 h hGσ hYσ hE hth H locs ls hH hl hc
  have B := K.1
  have hl9 := K.2.2.2.2.2.2
  unfold w_X12_lineage_26 at h
  refine lv_aload_n B.1 B.2.1 dX12_lineage_26 rfl (lv_at hl 0 rfl) ?_
  refine f_getp B hH hth (by decide) rfl wu_X12 6 (by decide) wf_X12_40 rfl rfl dX12_lineage_27 ?_
  refine lv_aloadQ B.1 B.2.1 dX12_lineage_30 (lv_at hl 2 rfl) ?_
  obtain ⟨a21, ea21, h⟩ := h
  have ka21 : kO σ a21 0 := g4 a21 ea21
  have h := h ka21
  refine W.eq (g2 := F0 m 32 ls [.ref a21, va_rf (gP σ th 6)]) (by rw [ea21]; rfl) ?_
  refine f_geti B hH ka21 (by decide) rfl wu_X0 4 (by decide) wf_X12_201 rfl rfl dX12_lineage_32 ?_
  refine lv_iload_n B.1 B.2.1 dX12_lineage_35 rfl (lv_at hl 1 rfl) ?_
  obtain ⟨a24, ea24, h⟩ := h
  have ka24 : kO σ a24 8 := (hYσ.get hth (by decide)) a24 ea24
  have h := h ka24
  refine W.eq (g2 := F0 m 36 ls [.int (i32 v3), .int (i32 (gI σ a21 4)), .ref a24]) (by rw [ea24]; rfl) ?_
  refine c_V B hH hl hc K.2.2.1 (C := RX8) (T := TX8) (N := 3) (ci := 8) (As := [.int (i32 (gI σ a21 4)), .int (i32 v3)]) (ok_X8_memberOf hl9 K.2.1 σ a24 (gI σ a21 4) v3 (hGσ _ _) g3 ka24 hGσ hYσ h) wc_X12_208 2 hd_X8_memberOf ⟨Nat.le_trans (Nat.le_of_ble_eq_true rfl) K.2.2.2.1, Nat.le_trans (Nat.le_of_ble_eq_true rfl) K.2.2.2.2.1⟩ ka24.1 ka24.2 (by decide) rfl rfl (rest := []) rfl (Nat.le_of_ble_eq_true rfl) dX12_lineage_36 (fun σ22 w hq => ?_) (fun σ9 E9 hx9 => hX σ9 E9 _ _ _ (tb_out K.2.2.2.2.2.1 rfl) hx9.1 hx9.2.1 hx9.2.2.1 (hE.trans hx9.2.2.2))
  obtain ⟨r23, rfl, gr23, h, hGσ22, hYσ22, xσ22⟩ := hq
  have h := h xσ22
  intro H locs ls hH hl hc
  refine W.eq (g2 := F0 m 39 ls [.int (i32 r23)]) (rfl) ?_
  try dsimp only at h
  refine lv_istore (lv' := [(5, .int (i32 r23)), (0, .ref th), (3, .int (i32 v3)), (4, va_rf v4)]) B.1 B.2.1 dX12_lineage_39 hl (by decide) (by generalize v4 = w9; cases w9 <;> rfl) (fun ls hl => ?_)
  refine lv_iload B.1 B.2.1 dX12_lineage_41 (lv_at hl 0 rfl) ?_
  refine lv_iconst (v := i32 (-1)) B.1 B.2.1 dX12_lineage_43 (by decide) ?_
  refine lv_icmp_ne (tgt := 55) B.1 B.2.1 dX12_lineage_44 (by decide) (fun h9 => ?_) (fun h9 => ?_)
  · rw [if_pos (fun q => h9 ((i32_eq gr23 (by unfold rng; omega)).mpr q))] at h
    exact a_X12_lineage_55 K hQ hX hTh _ _ gr23 h hGσ22 hYσ22 (hE.trans xσ22) (hth.up xσ22) _ _ _ hH (lv_sub (l' := [(0, .ref th), (5, .int (i32 r23))]) hl [1, 0] rfl) hc
  · rw [if_neg (fun q => q ((i32_eq gr23 (by unfold rng; omega)).mp h9))] at h
    exact a_X12_lineage_47 K hQ hX hTh _ h hGσ22 hYσ22 (hE.trans xσ22) (hth.up xσ22) _ _ _ hH (lv_sub (l' := [(0, .ref th)]) hl [1] rfl) hc
set_option maxRecDepth 20000 in
theorem a_X12_lineage_13 {Q : Sg → Int → Prop} {X : Sg → String → Prop} {th : Nat} (K : MD l R p s m args c cX12_lineage 6 RX12 D cA tys A n0 s0 8 134 []) (hQ : CQI p l e R s m args below meth c cX12_lineage D cA A n0 s0 QM σi Q) (hX : CX p l e R s m args below meth c 6 D cA A n0 s0 QM σi X) (hTh : CT p l e R s m args below meth c cX12_lineage 6 D cA A n0 s0 QM σi RX12 X) : ∀ (σ : Sg) (v4 : Option Nat) (g4 : tyV σ 0 v4), w_X12_lineage_13 th Q X σ v4 → RG σ → TY σ → Ext σi σ → kO σ th 12 → JJ p l e R s m args below meth c 6 D cA A n0 s0 QM σ 13 [(0, .ref th), (4, va_rf v4)] [] := by
  intro σ v4 g4 h hGσ hYσ hE hth H locs ls hH hl hc
  have B := K.1
  have hl9 := K.2.2.2.2.2.2
  unfold w_X12_lineage_13 at h
  refine lv_aload_n B.1 B.2.1 dX12_lineage_13 rfl (lv_at hl 0 rfl) ?_
  refine f_getp B hH hth (by decide) rfl wu_X12 6 (by decide) wf_X12_40 rfl rfl dX12_lineage_14 ?_
  refine lv_aloadQ B.1 B.2.1 dX12_lineage_17 (lv_at hl 1 rfl) ?_
  obtain ⟨a25, ea25, h⟩ := h
  have ka25 : kO σ a25 0 := g4 a25 ea25
  have h := h ka25
  refine W.eq (g2 := F0 m 19 ls [.ref a25, va_rf (gP σ th 6)]) (by rw [ea25]; rfl) ?_
  refine f_geti B hH ka25 (by decide) rfl wu_X0 4 (by decide) wf_X12_201 rfl rfl dX12_lineage_19 ?_
  obtain ⟨a28, ea28, h⟩ := h
  have ka28 : kO σ a28 8 := (hYσ.get hth (by decide)) a28 ea28
  have h := h ka28
  refine W.eq (g2 := F0 m 22 ls [.int (i32 (gI σ a25 4)), .ref a28]) (by rw [ea28]; rfl) ?_
  refine c_V B hH hl hc K.2.2.1 (C := RX8) (T := TX8) (N := 3) (ci := 8) (As := [.int (i32 (gI σ a25 4))]) (ok_X8_membersOf hl9 K.2.1 σ a28 (gI σ a25 4) (hGσ _ _) ka28 hGσ hYσ h) wc_X12_204 1 hd_X8_membersOf ⟨Nat.le_trans (Nat.le_of_ble_eq_true rfl) K.2.2.2.1, Nat.le_trans (Nat.le_of_ble_eq_true rfl) K.2.2.2.2.1⟩ ka28.1 ka28.2 (by decide) rfl rfl (rest := []) rfl (Nat.le_of_ble_eq_true rfl) dX12_lineage_22 (fun σ26 w hq => ?_) (fun σ9 E9 hx9 => hX σ9 E9 _ _ _ (tb_out K.2.2.2.2.2.1 rfl) hx9.1 hx9.2.1 hx9.2.2.1 (hE.trans hx9.2.2.2))
  obtain ⟨r27, rfl, gr27, h, hGσ26, hYσ26, xσ26⟩ := hq
  have h := h xσ26
  intro H locs ls hH hl hc
  refine W.eq (g2 := F0 m 25 ls [.int (i32 r27)]) (rfl) ?_
  try dsimp only at h
  exact hQ _ _ _ _ _ _ gr27 dX12_lineage_25 hH hc h hGσ26 hYσ26 (hE.trans xσ26)
set_option maxRecDepth 20000 in
theorem a_X12_lineage_0 {Q : Sg → Int → Prop} {X : Sg → String → Prop} {th : Nat} (K : MD l R p s m args c cX12_lineage 6 RX12 D cA tys A n0 s0 8 134 []) (hQ : CQI p l e R s m args below meth c cX12_lineage D cA A n0 s0 QM σi Q) (hX : CX p l e R s m args below meth c 6 D cA A n0 s0 QM σi X) (hTh : CT p l e R s m args below meth c cX12_lineage 6 D cA A n0 s0 QM σi RX12 X) : ∀ (σ : Sg) (v1 : Int) (v2 : Int) (v3 : Int) (g1 : rng v1) (g2 : rng v2) (g3 : rng v3), w_X12_lineage_0 th Q X σ v1 v2 v3 → RG σ → TY σ → Ext σi σ → kO σ th 12 → JJ p l e R s m args below meth c 6 D cA A n0 s0 QM σ 0 [(0, .ref th), (1, .int (i32 v1)), (2, .int (i32 v2)), (3, .int (i32 v3))] [] := by
  intro σ v1 v2 v3 g1 g2 g3 h hGσ hYσ hE hth H locs ls hH hl hc
  have B := K.1
  have hl9 := K.2.2.2.2.2.2
  unfold w_X12_lineage_0 at h
  refine lv_aload_n B.1 B.2.1 dX12_lineage_0 rfl (lv_at hl 0 rfl) ?_
  refine lv_iload_n B.1 B.2.1 dX12_lineage_1 rfl (lv_at hl 1 rfl) ?_
  refine lv_iload_n B.1 B.2.1 dX12_lineage_2 rfl (lv_at hl 2 rfl) ?_
  refine W.eq (g2 := F0 m 3 ls [.int (i32 v2), .int (i32 v1), .ref th]) (rfl) ?_
  refine c_V B hH hl hc K.2.2.1 (C := RX12) (T := TX12) (N := 9) (ci := 12) (As := [.int (i32 v1), .int (i32 v2)]) (ok_X12_visibleRow hl9 K.2.1 σ th v1 v2 g1 g2 hth hGσ hYσ h) wc_X12_184 2 hd_X12_visibleRow ⟨Nat.le_trans (Nat.le_of_ble_eq_true rfl) K.2.2.2.1, Nat.le_trans (Nat.le_of_ble_eq_true rfl) K.2.2.2.2.1⟩ hth.1 hth.2 (by decide) rfl rfl (rest := []) rfl (Nat.le_of_ble_eq_true rfl) dX12_lineage_3 (fun σ29 w hq => ?_) (fun σ9 E9 hx9 => hX σ9 E9 _ _ _ (tb_out K.2.2.2.2.2.1 rfl) hx9.1 hx9.2.1 hx9.2.2.1 (hE.trans hx9.2.2.2))
  obtain ⟨r30, rfl, tr30, h, hGσ29, hYσ29, xσ29⟩ := hq
  have h := h xσ29 tr30
  intro H locs ls hH hl hc
  refine W.eq (g2 := F0 m 6 ls [va_rf r30]) (rfl) ?_
  try dsimp only at h
  refine lv_astoreQ (lv' := [(4, va_rf r30), (0, .ref th), (1, .int (i32 v1)), (2, .int (i32 v2)), (3, .int (i32 v3))]) B.1 B.2.1 dX12_lineage_6 hl (by decide) rfl (fun ls hl => ?_)
  refine lv_iload_n B.1 B.2.1 dX12_lineage_8 rfl (lv_at hl 4 rfl) ?_
  refine lv_iconst (v := i32 (-1)) B.1 B.2.1 dX12_lineage_9 (by decide) ?_
  refine lv_icmp_ne (tgt := 26) B.1 B.2.1 dX12_lineage_10 (by decide) (fun h9 => ?_) (fun h9 => ?_)
  · rw [if_pos (fun q => h9 ((i32_eq g3 (by unfold rng; omega)).mpr q))] at h
    exact a_X12_lineage_26 K hQ hX hTh _ _ _ g3 tr30 h hGσ29 hYσ29 (hE.trans xσ29) (hth.up xσ29) _ _ _ hH (lv_sub (l' := [(0, .ref th), (3, .int (i32 v3)), (4, va_rf r30)]) hl [1, 4, 0] rfl) hc
  · rw [if_neg (fun q => q ((i32_eq g3 (by unfold rng; omega)).mp h9))] at h
    exact a_X12_lineage_13 K hQ hX hTh _ _ tr30 h hGσ29 hYσ29 (hE.trans xσ29) (hth.up xσ29) _ _ _ hH (lv_sub (l' := [(0, .ref th), (4, va_rf r30)]) hl [1, 0] rfl) hc
theorem ok_X12_lineage (hl0 : l.stackTraces = false) (hT : TyC cA tys) {Q : Sg → Int → Prop} {X : Sg → String → Prop} (σ : Sg) (th : Nat) (v1 : Int) (v2 : Int) (v3 : Int) (g1 : rng v1) (g2 : rng v2) (g3 : rng v3) (hth : kO σ th 12) (hG : RG σ) (hY : TY σ) (h : wp_X12_lineage th v1 v2 v3 σ Q X) : Ok l D cA tys A yX12_lineage (.code yX12_lineage cX12_lineage 6 (some .int)) 8 134 [.ref th, .int (i32 v1), .int (i32 v2), .int (i32 v3)] σ (QcI σ Q) (QxC σ X) := by
  unfold wp_X12_lineage at h
  exact oc_I hl0 (by decide) (by exact Nat.le_of_ble_eq_true rfl) hT (fun p e R s m args below meth c K hQ hX hTh H locs ls hH hl hc => a_X12_lineage_0 K hQ hX hTh σ v1 v2 v3 g1 g2 g3 h hG hY (Ext.rfl' σ) hth H locs ls hH (lv_sub (l' := [(0, .ref th), (1, .int (i32 v1)), (2, .int (i32 v2)), (3, .int (i32 v3))]) hl [0, 1, 2, 3] rfl) hc)
theorem dX3_ask_0 : decode cX3_ask 0 = .ok (.aload_n 0, 1) := by decide +kernel
theorem dX3_ask_1 : decode cX3_ask 1 = .ok (.dup, 1) := by decide +kernel
theorem dX3_ask_2 : decode cX3_ask 2 = .ok (.getfield 24, 3) := by decide +kernel
theorem dX3_ask_5 : decode cX3_ask 5 = .ok (.iconst 1, 1) := by decide +kernel
theorem dX3_ask_6 : decode cX3_ask 6 = .ok (.iadd, 1) := by decide +kernel
theorem dX3_ask_7 : decode cX3_ask 7 = .ok (.putfield 24, 3) := by decide +kernel
theorem dX3_ask_10 : decode cX3_ask 10 = .ok (.aload_n 0, 1) := by decide +kernel
theorem dX3_ask_11 : decode cX3_ask 11 = .ok (.aload_n 0, 1) := by decide +kernel
theorem dX3_ask_12 : decode cX3_ask 12 = .ok (.getfield 24, 3) := by decide +kernel
theorem dX3_ask_15 : decode cX3_ask 15 = .ok (.putfield 27, 3) := by decide +kernel
theorem dX3_ask_18 : decode cX3_ask 18 = .ok (.aload_n 0, 1) := by decide +kernel
theorem dX3_ask_19 : decode cX3_ask 19 = .ok (.iconst 0, 1) := by decide +kernel
theorem dX3_ask_20 : decode cX3_ask 20 = .ok (.putfield 30, 3) := by decide +kernel
theorem dX3_ask_23 : decode cX3_ask 23 = .ok (.aload_n 0, 1) := by decide +kernel
theorem dX3_ask_24 : decode cX3_ask 24 = .ok (.iconst 0, 1) := by decide +kernel
theorem dX3_ask_25 : decode cX3_ask 25 = .ok (.putfield 33, 3) := by decide +kernel
theorem dX3_ask_28 : decode cX3_ask 28 = .ok (.aload_n 0, 1) := by decide +kernel
theorem dX3_ask_29 : decode cX3_ask 29 = .ok (.getfield 27, 3) := by decide +kernel
theorem dX3_ask_32 : decode cX3_ask 32 = .ok (.ireturn, 1) := by decide +kernel
set_option maxRecDepth 20000 in
theorem a_X3_ask_0 {Q : Sg → Int → Prop} {X : Sg → String → Prop} {th : Nat} (K : MD l R p s m args c cX3_ask 1 RX3 D cA tys A n0 s0 0 0 []) (hQ : CQI p l e R s m args below meth c cX3_ask D cA A n0 s0 QM σi Q) (hX : CX p l e R s m args below meth c 1 D cA A n0 s0 QM σi X) (hTh : CT p l e R s m args below meth c cX3_ask 1 D cA A n0 s0 QM σi RX3 X) : ∀ (σ : Sg), w_X3_ask_0 th Q X σ → RG σ → TY σ → Ext σi σ → kO σ th 3 → JJ p l e R s m args below meth c 1 D cA A n0 s0 QM σ 0 [(0, .ref th)] [] := by
  intro σ h hGσ hYσ hE hth H locs ls hH hl hc
  have B := K.1
  have hl9 := K.2.2.2.2.2.2
  unfold w_X3_ask_0 at h
  refine lv_aload_n B.1 B.2.1 dX3_ask_0 rfl (lv_at hl 0 rfl) ?_
  refine lv_dup B.1 B.2.1 dX3_ask_1 rfl ?_
  refine f_geti B hH hth (by decide) rfl wu_X3 2 (by decide) wf_X3_24 rfl rfl dX3_ask_2 ?_
  refine lv_iconst (v := i32 1) B.1 B.2.1 dX3_ask_5 (by decide) ?_
  refine lv_iadd B.1 B.2.1 dX3_ask_6 ?_
  rw [i32_add]
  refine W.eq (g2 := F0 m 7 ls [.int (i32 (wr (gI σ th 2 + 1))), .ref th]) (by rw [i32_wr]) ?_
  obtain ⟨σ9, eσ9⟩ : ∃ z, z = pI σ th 2 (wr (gI σ th 2 + 1)) := ⟨_, rfl⟩
  have h := h σ9 eσ9
  refine f_puti B hH hth (by decide) rfl wu_X3 tyX3 tyX3_ok nmX3 2 (by decide) wf_X3_24 rfl (ty := .int) rfl rfl rfl rfl rfl dX3_ask_7 (fun H locs hH => ?_)
  have hH : Hd D cA A s (pI σ th 2 (wr (gI σ th 2 + 1))) H locs := hH
  rw [← eσ9] at hH
  have hGσ9 : RG σ9 := by rw [eσ9]; exact hGσ.pI (rng_wr _)
  have hYσ9 : TY σ9 := by rw [eσ9]; exact hYσ.pI
  have xσ9 : Ext σ σ9 := by rw [eσ9]; exact Ext.pI
  have hc : CB n0 s0 σ9 := by rw [eσ9]; exact hc
  rw [show gc σ = gc σ9 by rw [eσ9]; try rfl, show gs σ = gs σ9 by rw [eσ9]; try rfl]
  refine lv_aload_n B.1 B.2.1 dX3_ask_10 rfl (lv_at hl 0 rfl) ?_
  refine lv_aload_n B.1 B.2.1 dX3_ask_11 rfl (lv_at hl 0 rfl) ?_
  refine f_geti B hH (hth.up xσ9) (by decide) rfl wu_X3 2 (by decide) wf_X3_24 rfl rfl dX3_ask_12 ?_
  obtain ⟨σ10, eσ10⟩ : ∃ z, z = pI σ9 th 3 (gI σ9 th 2) := ⟨_, rfl⟩
  have h := h σ10 eσ10
  refine f_puti B hH (hth.up xσ9) (by decide) rfl wu_X3 tyX3 tyX3_ok nmX3 3 (by decide) wf_X3_27 rfl (ty := .int) rfl rfl rfl rfl rfl dX3_ask_15 (fun H locs hH => ?_)
  have hH : Hd D cA A s (pI σ9 th 3 (gI σ9 th 2)) H locs := hH
  rw [← eσ10] at hH
  have hGσ10 : RG σ10 := by rw [eσ10]; exact hGσ9.pI (hGσ9 _ _)
  have hYσ10 : TY σ10 := by rw [eσ10]; exact hYσ9.pI
  have xσ10 : Ext σ9 σ10 := by rw [eσ10]; exact Ext.pI
  have hc : CB n0 s0 σ10 := by rw [eσ10]; exact hc
  rw [show gc σ9 = gc σ10 by rw [eσ10]; try rfl, show gs σ9 = gs σ10 by rw [eσ10]; try rfl]
  refine lv_aload_n B.1 B.2.1 dX3_ask_18 rfl (lv_at hl 0 rfl) ?_
  refine lv_iconst (v := i32 0) B.1 B.2.1 dX3_ask_19 (by decide) ?_
  obtain ⟨σ11, eσ11⟩ : ∃ z, z = pI σ10 th 6 0 := ⟨_, rfl⟩
  have h := h σ11 eσ11
  refine f_puti B hH (hth.up (xσ9.trans xσ10)) (by decide) rfl wu_X3 tyX3 tyX3_ok nmX3 6 (by decide) wf_X3_30 rfl (ty := .int) rfl rfl rfl rfl rfl dX3_ask_20 (fun H locs hH => ?_)
  have hH : Hd D cA A s (pI σ10 th 6 0) H locs := hH
  rw [← eσ11] at hH
  have hGσ11 : RG σ11 := by rw [eσ11]; exact hGσ10.pI (by unfold rng; omega)
  have hYσ11 : TY σ11 := by rw [eσ11]; exact hYσ10.pI
  have xσ11 : Ext σ10 σ11 := by rw [eσ11]; exact Ext.pI
  have hc : CB n0 s0 σ11 := by rw [eσ11]; exact hc
  rw [show gc σ10 = gc σ11 by rw [eσ11]; try rfl, show gs σ10 = gs σ11 by rw [eσ11]; try rfl]
  refine lv_aload_n B.1 B.2.1 dX3_ask_23 rfl (lv_at hl 0 rfl) ?_
  refine lv_iconst (v := i32 0) B.1 B.2.1 dX3_ask_24 (by decide) ?_
  obtain ⟨σ12, eσ12⟩ : ∃ z, z = pI σ11 th 7 0 := ⟨_, rfl⟩
  have h := h σ12 eσ12
  refine f_puti B hH (hth.up (xσ9.trans (xσ10.trans xσ11))) (by decide) rfl wu_X3 tyX3 tyX3_ok nmX3 7 (by decide) wf_X3_33 rfl (ty := .int) rfl rfl rfl rfl rfl dX3_ask_25 (fun H locs hH => ?_)
  have hH : Hd D cA A s (pI σ11 th 7 0) H locs := hH
  rw [← eσ12] at hH
  have hGσ12 : RG σ12 := by rw [eσ12]; exact hGσ11.pI (by unfold rng; omega)
  have hYσ12 : TY σ12 := by rw [eσ12]; exact hYσ11.pI
  have xσ12 : Ext σ11 σ12 := by rw [eσ12]; exact Ext.pI
  have hc : CB n0 s0 σ12 := by rw [eσ12]; exact hc
  rw [show gc σ11 = gc σ12 by rw [eσ12]; try rfl, show gs σ11 = gs σ12 by rw [eσ12]; try rfl]
  refine lv_aload_n B.1 B.2.1 dX3_ask_28 rfl (lv_at hl 0 rfl) ?_
  refine f_geti B hH (hth.up (xσ9.trans (xσ10.trans (xσ11.trans xσ12)))) (by decide) rfl wu_X3 3 (by decide) wf_X3_27 rfl rfl dX3_ask_29 ?_
  exact hQ _ _ _ _ _ _ (hGσ12 _ _) dX3_ask_32 hH hc h hGσ12 hYσ12 ((((hE.trans xσ9).trans xσ10).trans xσ11).trans xσ12)
theorem ok_X3_ask (hl0 : l.stackTraces = false) (hT : TyC cA tys) {Q : Sg → Int → Prop} {X : Sg → String → Prop} (σ : Sg) (th : Nat) (hth : kO σ th 3) (hG : RG σ) (hY : TY σ) (h : wp_X3_ask th σ Q X) : Ok l D cA tys A yX3_ask (.code yX3_ask cX3_ask 1 (some .int)) 0 0 [.ref th] σ (QcI σ Q) (QxC σ X) := by
  unfold wp_X3_ask at h
  exact oc_I hl0 (by decide) (by exact Nat.le_of_ble_eq_true rfl) hT (fun p e R s m args below meth c K hQ hX hTh H locs ls hH hl hc => a_X3_ask_0 K hQ hX hTh σ h hG hY (Ext.rfl' σ) hth H locs ls hH (lv_sub (l' := [(0, .ref th)]) hl [0] rfl) hc)
theorem dX12_mark_0 : decode cX12_mark 0 = .ok (.aload_n 0, 1) := by decide +kernel
theorem dX12_mark_1 : decode cX12_mark 1 = .ok (.invokevirtual 140, 3) := by decide +kernel
theorem dX12_mark_4 : decode cX12_mark 4 = .ok (.aload_n 0, 1) := by decide +kernel
theorem dX12_mark_5 : decode cX12_mark 5 = .ok (.getfield 49, 3) := by decide +kernel
theorem dX12_mark_8 : decode cX12_mark 8 = .ok (.getfield 143, 3) := by decide +kernel
theorem dX12_mark_11 : decode cX12_mark 11 = .ok (.ifCond .ne 16, 3) := by decide +kernel
theorem dX12_mark_14 : decode cX12_mark 14 = .ok (.aload_n 0, 1) := by decide +kernel
theorem dX12_mark_15 : decode cX12_mark 15 = .ok (.getfield 49, 3) := by decide +kernel
theorem dX12_mark_18 : decode cX12_mark 18 = .ok (.getfield 66, 3) := by decide +kernel
theorem dX12_mark_21 : decode cX12_mark 21 = .ok (.getfield 150, 3) := by decide +kernel
theorem dX12_mark_24 : decode cX12_mark 24 = .ok (.ifCond .eq 11, 3) := by decide +kernel
theorem dX12_mark_27 : decode cX12_mark 27 = .ok (.new 76, 3) := by decide +kernel
theorem dX12_mark_30 : decode cX12_mark 30 = .ok (.dup, 1) := by decide +kernel
theorem dX12_mark_31 : decode cX12_mark 31 = .ok (.invokespecial 78, 3) := by decide +kernel
theorem dX12_mark_34 : decode cX12_mark 34 = .ok (.athrow, 1) := by decide +kernel
theorem dX12_mark_35 : decode cX12_mark 35 = .ok (.aload_n 0, 1) := by decide +kernel
theorem dX12_mark_36 : decode cX12_mark 36 = .ok (.getfield 49, 3) := by decide +kernel
theorem dX12_mark_39 : decode cX12_mark 39 = .ok (.getfield 66, 3) := by decide +kernel
theorem dX12_mark_42 : decode cX12_mark 42 = .ok (.invokevirtual 153, 3) := by decide +kernel
theorem dX12_mark_45 : decode cX12_mark 45 = .ok (.ireturn, 1) := by decide +kernel
set_option maxRecDepth 20000 in
theorem a_X12_mark_27 {Q : Sg → Int → Prop} {X : Sg → String → Prop} {th : Nat} (K : MD l R p s m args c cX12_mark 1 RX12 D cA tys A n0 s0 7 110 []) (hQ : CQI p l e R s m args below meth c cX12_mark D cA A n0 s0 QM σi Q) (hX : CX p l e R s m args below meth c 1 D cA A n0 s0 QM σi X) (hTh : CT p l e R s m args below meth c cX12_mark 1 D cA A n0 s0 QM σi RX12 X) : ∀ (σ : Sg), w_X12_mark_27 th Q X σ → RG σ → TY σ → Ext σi σ → kO σ th 12 → JJ p l e R s m args below meth c 1 D cA A n0 s0 QM σ 27 [(0, .ref th)] [] := by
  intro σ h hGσ hYσ hE hth H locs ls hH hl hc
  have B := K.1
  have hl9 := K.2.2.2.2.2.2
  unfold w_X12_mark_27 at h
  obtain ⟨q9, h⟩ := h
  exact hTh _ _ _ _ _ _ _ _ _ tw_X12_76_78 dX12_mark_27 dX12_mark_30 dX12_mark_31 dX12_mark_34 hH hl hc q9 h hGσ hYσ hE (by have := K.2.2.2.1; omega) (by have := K.2.2.2.2.1; omega)
set_option maxRecDepth 20000 in
theorem a_X12_mark_35 {Q : Sg → Int → Prop} {X : Sg → String → Prop} {th : Nat} (K : MD l R p s m args c cX12_mark 1 RX12 D cA tys A n0 s0 7 110 []) (hQ : CQI p l e R s m args below meth c cX12_mark D cA A n0 s0 QM σi Q) (hX : CX p l e R s m args below meth c 1 D cA A n0 s0 QM σi X) (hTh : CT p l e R s m args below meth c cX12_mark 1 D cA A n0 s0 QM σi RX12 X) : ∀ (σ : Sg), w_X12_mark_35 th Q X σ → RG σ → TY σ → Ext σi σ → kO σ th 12 → JJ p l e R s m args below meth c 1 D cA A n0 s0 QM σ 35 [(0, .ref th)] [] := by
  intro σ h hGσ hYσ hE hth H locs ls hH hl hc
  have B := K.1
  have hl9 := K.2.2.2.2.2.2
  unfold w_X12_mark_35 at h
  refine lv_aload_n B.1 B.2.1 dX12_mark_35 rfl (lv_at hl 0 rfl) ?_
  refine f_getp B hH hth (by decide) rfl wu_X12 7 (by decide) wf_X12_49 rfl rfl dX12_mark_36 ?_
  obtain ⟨a17, ea17, h⟩ := h
  have ka17 : kO σ a17 9 := (hYσ.get hth (by decide)) a17 ea17
  have h := h ka17
  refine W.eq (g2 := F0 m 39 ls [.ref a17]) (by rw [ea17]; rfl) ?_
  refine f_getp B hH ka17 (by decide) rfl wu_X9 2 (by decide) wf_X12_66 rfl rfl dX12_mark_39 ?_
  obtain ⟨a20, ea20, h⟩ := h
  have ka20 : kO σ a20 3 := (hYσ.get ka17 (by decide)) a20 ea20
  have h := h ka20
  refine W.eq (g2 := F0 m 42 ls [.ref a20]) (by rw [ea20]; rfl) ?_
  refine c_V B hH hl hc K.2.2.1 (C := RX3) (T := TX3) (N := 10) (ci := 3) (As := []) (ok_X3_ask hl9 K.2.1 σ a20 ka20 hGσ hYσ h) wc_X12_153 0 hd_X3_ask ⟨Nat.le_trans (Nat.le_of_ble_eq_true rfl) K.2.2.2.1, Nat.le_trans (Nat.le_of_ble_eq_true rfl) K.2.2.2.2.1⟩ ka20.1 ka20.2 (by decide) rfl rfl (rest := []) rfl (Nat.le_of_ble_eq_true rfl) dX12_mark_42 (fun σ18 w hq => ?_) (fun σ9 E9 hx9 => hX σ9 E9 _ _ _ (tb_out K.2.2.2.2.2.1 rfl) hx9.1 hx9.2.1 hx9.2.2.1 (hE.trans hx9.2.2.2))
  obtain ⟨r19, rfl, gr19, h, hGσ18, hYσ18, xσ18⟩ := hq
  have h := h xσ18
  intro H locs ls hH hl hc
  refine W.eq (g2 := F0 m 45 ls [.int (i32 r19)]) (rfl) ?_
  try dsimp only at h
  exact hQ _ _ _ _ _ _ gr19 dX12_mark_45 hH hc h hGσ18 hYσ18 (hE.trans xσ18)
set_option maxRecDepth 20000 in
theorem a_X12_mark_14 {Q : Sg → Int → Prop} {X : Sg → String → Prop} {th : Nat} (K : MD l R p s m args c cX12_mark 1 RX12 D cA tys A n0 s0 7 110 []) (hQ : CQI p l e R s m args below meth c cX12_mark D cA A n0 s0 QM σi Q) (hX : CX p l e R s m args below meth c 1 D cA A n0 s0 QM σi X) (hTh : CT p l e R s m args below meth c cX12_mark 1 D cA A n0 s0 QM σi RX12 X) : ∀ (σ : Sg), w_X12_mark_14 th Q X σ → RG σ → TY σ → Ext σi σ → kO σ th 12 → JJ p l e R s m args below meth c 1 D cA A n0 s0 QM σ 14 [(0, .ref th)] [] := by
  intro σ h hGσ hYσ hE hth H locs ls hH hl hc
  have B := K.1
  have hl9 := K.2.2.2.2.2.2
  unfold w_X12_mark_14 at h
  refine lv_aload_n B.1 B.2.1 dX12_mark_14 rfl (lv_at hl 0 rfl) ?_
  refine f_getp B hH hth (by decide) rfl wu_X12 7 (by decide) wf_X12_49 rfl rfl dX12_mark_15 ?_
  obtain ⟨a21, ea21, h⟩ := h
  have ka21 : kO σ a21 9 := (hYσ.get hth (by decide)) a21 ea21
  have h := h ka21
  refine W.eq (g2 := F0 m 18 ls [.ref a21]) (by rw [ea21]; rfl) ?_
  refine f_getp B hH ka21 (by decide) rfl wu_X9 2 (by decide) wf_X12_66 rfl rfl dX12_mark_18 ?_
  obtain ⟨a22, ea22, h⟩ := h
  have ka22 : kO σ a22 3 := (hYσ.get ka21 (by decide)) a22 ea22
  have h := h ka22
  refine W.eq (g2 := F0 m 21 ls [.ref a22]) (by rw [ea22]; rfl) ?_
  refine f_geti B hH ka22 (by decide) rfl wu_X3 3 (by decide) wf_X12_150 rfl rfl dX12_mark_21 ?_
  refine lv_if_eq (tgt := 35) B.1 B.2.1 dX12_mark_24 (by decide) (fun h9 => ?_) (fun h9 => ?_)
  · rw [if_pos ((z_eq (hGσ _ _)).mp h9)] at h
    exact a_X12_mark_35 K hQ hX hTh _ h hGσ hYσ hE hth _ _ _ hH (lv_sub (l' := [(0, .ref th)]) hl [0] rfl) hc
  · rw [if_neg (fun q => h9 ((z_eq (hGσ _ _)).mpr q))] at h
    exact a_X12_mark_27 K hQ hX hTh _ h hGσ hYσ hE hth _ _ _ hH (lv_sub (l' := [(0, .ref th)]) hl [0] rfl) hc
set_option maxRecDepth 20000 in
theorem a_X12_mark_0 {Q : Sg → Int → Prop} {X : Sg → String → Prop} {th : Nat} (K : MD l R p s m args c cX12_mark 1 RX12 D cA tys A n0 s0 7 110 []) (hQ : CQI p l e R s m args below meth c cX12_mark D cA A n0 s0 QM σi Q) (hX : CX p l e R s m args below meth c 1 D cA A n0 s0 QM σi X) (hTh : CT p l e R s m args below meth c cX12_mark 1 D cA A n0 s0 QM σi RX12 X) : ∀ (σ : Sg), w_X12_mark_0 th Q X σ → RG σ → TY σ → Ext σi σ → kO σ th 12 → JJ p l e R s m args below meth c 1 D cA A n0 s0 QM σ 0 [(0, .ref th)] [] := by
  intro σ h hGσ hYσ hE hth H locs ls hH hl hc
  have B := K.1
  have hl9 := K.2.2.2.2.2.2
  unfold w_X12_mark_0 at h
  refine lv_aload_n B.1 B.2.1 dX12_mark_0 rfl (lv_at hl 0 rfl) ?_
  refine W.eq (g2 := F0 m 1 ls [.ref th]) (rfl) ?_
  refine c_V B hH hl hc K.2.2.1 (C := RX12) (T := TX12) (N := 9) (ci := 12) (As := []) (ok_X12_needRun hl9 K.2.1 σ th hth hGσ hYσ h) wc_X12_140 0 hd_X12_needRun ⟨Nat.le_trans (Nat.le_of_ble_eq_true rfl) K.2.2.2.1, Nat.le_trans (Nat.le_of_ble_eq_true rfl) K.2.2.2.2.1⟩ hth.1 hth.2 (by decide) rfl rfl (rest := []) rfl (Nat.le_of_ble_eq_true rfl) dX12_mark_1 (fun σ23 w hq => ?_) (fun σ9 E9 hx9 => hX σ9 E9 _ _ _ (tb_out K.2.2.2.2.2.1 rfl) hx9.1 hx9.2.1 hx9.2.2.1 (hE.trans hx9.2.2.2))
  obtain ⟨rfl, h, hGσ23, hYσ23, xσ23⟩ := hq
  have h := h xσ23
  intro H locs ls hH hl hc
  refine W.eq (g2 := F0 m 4 ls []) (rfl) ?_
  try dsimp only at h
  refine lv_aload_n B.1 B.2.1 dX12_mark_4 rfl (lv_at hl 0 rfl) ?_
  refine f_getp B hH (hth.up xσ23) (by decide) rfl wu_X12 7 (by decide) wf_X12_49 rfl rfl dX12_mark_5 ?_
  obtain ⟨a24, ea24, h⟩ := h
  have ka24 : kO σ23 a24 9 := (hYσ23.get (hth.up xσ23) (by decide)) a24 ea24
  have h := h ka24
  refine W.eq (g2 := F0 m 8 ls [.ref a24]) (by rw [ea24]; rfl) ?_
  refine f_geti B hH ka24 (by decide) rfl wu_X9 16 (by decide) wf_X12_143 rfl rfl dX12_mark_8 ?_
  refine lv_if_ne (tgt := 27) B.1 B.2.1 dX12_mark_11 (by decide) (fun h9 => ?_) (fun h9 => ?_)
  · rw [if_pos (fun q => h9 ((z_eq (hGσ23 _ _)).mpr q))] at h
    exact a_X12_mark_27 K hQ hX hTh _ h hGσ23 hYσ23 (hE.trans xσ23) (hth.up xσ23) _ _ _ hH (lv_sub (l' := [(0, .ref th)]) hl [0] rfl) hc
  · rw [if_neg (fun q => q ((z_eq (hGσ23 _ _)).mp h9))] at h
    exact a_X12_mark_14 K hQ hX hTh _ h hGσ23 hYσ23 (hE.trans xσ23) (hth.up xσ23) _ _ _ hH (lv_sub (l' := [(0, .ref th)]) hl [0] rfl) hc
theorem ok_X12_mark (hl0 : l.stackTraces = false) (hT : TyC cA tys) {Q : Sg → Int → Prop} {X : Sg → String → Prop} (σ : Sg) (th : Nat) (hth : kO σ th 12) (hG : RG σ) (hY : TY σ) (h : wp_X12_mark th σ Q X) : Ok l D cA tys A yX12_mark (.code yX12_mark cX12_mark 1 (some .int)) 7 110 [.ref th] σ (QcI σ Q) (QxC σ X) := by
  unfold wp_X12_mark at h
  exact oc_I hl0 (by decide) (by exact Nat.le_of_ble_eq_true rfl) hT (fun p e R s m args below meth c K hQ hX hTh H locs ls hH hl hc => a_X12_mark_0 K hQ hX hTh σ h hG hY (Ext.rfl' σ) hth H locs ls hH (lv_sub (l' := [(0, .ref th)]) hl [0] rfl) hc)
theorem dX7_forget_0 : decode cX7_forget 0 = .ok (.iconst 0, 1) := by decide +kernel
theorem dX7_forget_1 : decode cX7_forget 1 = .ok (.istore_n 1, 1) := by decide +kernel
theorem dX7_forget_2 : decode cX7_forget 2 = .ok (.iload_n 1, 1) := by decide +kernel
theorem dX7_forget_3 : decode cX7_forget 3 = .ok (.bipush 16, 2) := by decide +kernel
theorem dX7_forget_5 : decode cX7_forget 5 = .ok (.if_icmp .ge 22, 3) := by decide +kernel
theorem dX7_forget_8 : decode cX7_forget 8 = .ok (.aload_n 0, 1) := by decide +kernel
theorem dX7_forget_9 : decode cX7_forget 9 = .ok (.getfield 33, 3) := by decide +kernel
theorem dX7_forget_12 : decode cX7_forget 12 = .ok (.aload_n 0, 1) := by decide +kernel
theorem dX7_forget_13 : decode cX7_forget 13 = .ok (.getfield 22, 3) := by decide +kernel
theorem dX7_forget_16 : decode cX7_forget 16 = .ok (.iload_n 1, 1) := by decide +kernel
theorem dX7_forget_17 : decode cX7_forget 17 = .ok (.aaload, 1) := by decide +kernel
theorem dX7_forget_18 : decode cX7_forget 18 = .ok (.invokevirtual 102, 3) := by decide +kernel
theorem dX7_forget_21 : decode cX7_forget 21 = .ok (.iinc 1 1, 3) := by decide +kernel
theorem dX7_forget_24 : decode cX7_forget 24 = .ok (.goto (-22), 3) := by decide +kernel
theorem dX7_forget_27 : decode cX7_forget 27 = .ok (.aload_n 0, 1) := by decide +kernel
theorem dX7_forget_28 : decode cX7_forget 28 = .ok (.getfield 33, 3) := by decide +kernel
theorem dX7_forget_31 : decode cX7_forget 31 = .ok (.aload_n 0, 1) := by decide +kernel
theorem dX7_forget_32 : decode cX7_forget 32 = .ok (.getfield 12, 3) := by decide +kernel
theorem dX7_forget_35 : decode cX7_forget 35 = .ok (.getfield 108, 3) := by decide +kernel
theorem dX7_forget_38 : decode cX7_forget 38 = .ok (.invokevirtual 102, 3) := by decide +kernel
theorem dX7_forget_41 : decode cX7_forget 41 = .ok (.aload_n 0, 1) := by decide +kernel
theorem dX7_forget_42 : decode cX7_forget 42 = .ok (.getfield 33, 3) := by decide +kernel
theorem dX7_forget_45 : decode cX7_forget 45 = .ok (.aload_n 0, 1) := by decide +kernel
theorem dX7_forget_46 : decode cX7_forget 46 = .ok (.getfield 12, 3) := by decide +kernel
theorem dX7_forget_49 : decode cX7_forget 49 = .ok (.getfield 111, 3) := by decide +kernel
theorem dX7_forget_52 : decode cX7_forget 52 = .ok (.invokevirtual 102, 3) := by decide +kernel
theorem dX7_forget_55 : decode cX7_forget 55 = .ok (.aload_n 0, 1) := by decide +kernel
theorem dX7_forget_56 : decode cX7_forget 56 = .ok (.getfield 33, 3) := by decide +kernel
theorem dX7_forget_59 : decode cX7_forget 59 = .ok (.aload_n 0, 1) := by decide +kernel
theorem dX7_forget_60 : decode cX7_forget 60 = .ok (.getfield 42, 3) := by decide +kernel
theorem dX7_forget_63 : decode cX7_forget 63 = .ok (.getfield 114, 3) := by decide +kernel
theorem dX7_forget_66 : decode cX7_forget 66 = .ok (.invokevirtual 102, 3) := by decide +kernel
theorem dX7_forget_69 : decode cX7_forget 69 = .ok (.aload_n 0, 1) := by decide +kernel
theorem dX7_forget_70 : decode cX7_forget 70 = .ok (.getfield 33, 3) := by decide +kernel
theorem dX7_forget_73 : decode cX7_forget 73 = .ok (.aload_n 0, 1) := by decide +kernel
theorem dX7_forget_74 : decode cX7_forget 74 = .ok (.getfield 29, 3) := by decide +kernel
theorem dX7_forget_77 : decode cX7_forget 77 = .ok (.invokevirtual 102, 3) := by decide +kernel
theorem dX7_forget_80 : decode cX7_forget 80 = .ok (.aload_n 0, 1) := by decide +kernel
theorem dX7_forget_81 : decode cX7_forget 81 = .ok (.getfield 42, 3) := by decide +kernel
theorem dX7_forget_84 : decode cX7_forget 84 = .ok (.iconst 0, 1) := by decide +kernel
theorem dX7_forget_85 : decode cX7_forget 85 = .ok (.putfield 117, 3) := by decide +kernel
theorem dX7_forget_88 : decode cX7_forget 88 = .ok (.return_, 1) := by decide +kernel
set_option maxRecDepth 20000 in
theorem a_X7_forget_27 {Q : Sg → Unit → Prop} {X : Sg → String → Prop} {th : Nat} (K : MD l R p s m args c cX7_forget 2 RX7 D cA tys A n0 s0 1 21 []) (hQ : CQV p l e R s m args below meth c cX7_forget D cA A n0 s0 QM σi Q) (hX : CX p l e R s m args below meth c 2 D cA A n0 s0 QM σi X) (hTh : CT p l e R s m args below meth c cX7_forget 2 D cA A n0 s0 QM σi RX7 X) : ∀ (σ : Sg), w_X7_forget_27 th Q X σ → RG σ → TY σ → Ext σi σ → kO σ th 7 → JJ p l e R s m args below meth c 2 D cA A n0 s0 QM σ 27 [(0, .ref th)] [] := by
  intro σ h hGσ hYσ hE hth H locs ls hH hl hc
  have B := K.1
  have hl9 := K.2.2.2.2.2.2
  unfold w_X7_forget_27 at h
  refine lv_aload_n B.1 B.2.1 dX7_forget_27 rfl (lv_at hl 0 rfl) ?_
  refine f_getp B hH hth (by decide) rfl wu_X7 0 (by decide) wf_X7_33 rfl rfl dX7_forget_28 ?_
  refine lv_aload_n B.1 B.2.1 dX7_forget_31 rfl (lv_at hl 0 rfl) ?_
  refine f_getp B hH hth (by decide) rfl wu_X7 2 (by decide) wf_X7_12 rfl rfl dX7_forget_32 ?_
  obtain ⟨a33, ea33, h⟩ := h
  have ka33 : kO σ a33 10 := (hYσ.get hth (by decide)) a33 ea33
  have h := h ka33
  refine W.eq (g2 := F0 m 35 ls [.ref a33, va_rf (gP σ th 0)]) (by rw [ea33]; rfl) ?_
  refine f_getp B hH ka33 (by decide) rfl wu_X10 2 (by decide) wf_X7_108 rfl rfl dX7_forget_35 ?_
  obtain ⟨a35, ea35, h⟩ := h
  have ka35 : kO σ a35 8 := (hYσ.get hth (by decide)) a35 ea35
  have h := h ka35
  refine W.eq (g2 := F0 m 38 ls [va_rf (gP σ a33 2), .ref a35]) (by rw [ea35]; rfl) ?_
  refine c_V B hH hl hc K.2.2.1 (C := RX8) (T := TX8) (N := 3) (ci := 8) (As := [va_rf (gP σ a33 2)]) (ok_X8_releaseAll hl9 K.2.1 σ a35 (gP σ a33 2) (hYσ.get ka33 (by decide)) ka35 hGσ hYσ h) wc_X7_102 1 hd_X8_releaseAll ⟨Nat.le_trans (Nat.le_of_ble_eq_true rfl) K.2.2.2.1, Nat.le_trans (Nat.le_of_ble_eq_true rfl) K.2.2.2.2.1⟩ ka35.1 ka35.2 (by decide) rfl rfl (rest := []) rfl (Nat.le_of_ble_eq_true rfl) dX7_forget_38 (fun σ34 w hq => ?_) (fun σ9 E9 hx9 => hX σ9 E9 _ _ _ (tb_out K.2.2.2.2.2.1 rfl) hx9.1 hx9.2.1 hx9.2.2.1 (hE.trans hx9.2.2.2))
  obtain ⟨rfl, h, hGσ34, hYσ34, xσ34⟩ := hq
  have h := h xσ34
  intro H locs ls hH hl hc
  refine W.eq (g2 := F0 m 41 ls []) (rfl) ?_
  try dsimp only at h
  refine lv_aload_n B.1 B.2.1 dX7_forget_41 rfl (lv_at hl 0 rfl) ?_
  refine f_getp B hH (hth.up xσ34) (by decide) rfl wu_X7 0 (by decide) wf_X7_33 rfl rfl dX7_forget_42 ?_
  refine lv_aload_n B.1 B.2.1 dX7_forget_45 rfl (lv_at hl 0 rfl) ?_
  refine f_getp B hH (hth.up xσ34) (by decide) rfl wu_X7 2 (by decide) wf_X7_12 rfl rfl dX7_forget_46 ?_
  obtain ⟨a36, ea36, h⟩ := h
  have ka36 : kO σ34 a36 10 := (hYσ34.get (hth.up xσ34) (by decide)) a36 ea36
  have h := h ka36
  refine W.eq (g2 := F0 m 49 ls [.ref a36, va_rf (gP σ34 th 0)]) (by rw [ea36]; rfl) ?_
  refine f_getp B hH ka36 (by decide) rfl wu_X10 3 (by decide) wf_X7_111 rfl rfl dX7_forget_49 ?_
  obtain ⟨a38, ea38, h⟩ := h
  have ka38 : kO σ34 a38 8 := (hYσ34.get (hth.up xσ34) (by decide)) a38 ea38
  have h := h ka38
  refine W.eq (g2 := F0 m 52 ls [va_rf (gP σ34 a36 3), .ref a38]) (by rw [ea38]; rfl) ?_
  refine c_V B hH hl hc K.2.2.1 (C := RX8) (T := TX8) (N := 3) (ci := 8) (As := [va_rf (gP σ34 a36 3)]) (ok_X8_releaseAll hl9 K.2.1 σ34 a38 (gP σ34 a36 3) (hYσ34.get ka36 (by decide)) ka38 hGσ34 hYσ34 h) wc_X7_102 1 hd_X8_releaseAll ⟨Nat.le_trans (Nat.le_of_ble_eq_true rfl) K.2.2.2.1, Nat.le_trans (Nat.le_of_ble_eq_true rfl) K.2.2.2.2.1⟩ ka38.1 ka38.2 (by decide) rfl rfl (rest := []) rfl (Nat.le_of_ble_eq_true rfl) dX7_forget_52 (fun σ37 w hq => ?_) (fun σ9 E9 hx9 => hX σ9 E9 _ _ _ (tb_out K.2.2.2.2.2.1 rfl) hx9.1 hx9.2.1 hx9.2.2.1 ((hE.trans xσ34).trans hx9.2.2.2))
  obtain ⟨rfl, h, hGσ37, hYσ37, xσ37⟩ := hq
  have h := h xσ37
  intro H locs ls hH hl hc
  refine W.eq (g2 := F0 m 55 ls []) (rfl) ?_
  try dsimp only at h
  refine lv_aload_n B.1 B.2.1 dX7_forget_55 rfl (lv_at hl 0 rfl) ?_
  refine f_getp B hH (hth.up (xσ34.trans xσ37)) (by decide) rfl wu_X7 0 (by decide) wf_X7_33 rfl rfl dX7_forget_56 ?_
  refine lv_aload_n B.1 B.2.1 dX7_forget_59 rfl (lv_at hl 0 rfl) ?_
  refine f_getp B hH (hth.up (xσ34.trans xσ37)) (by decide) rfl wu_X7 1 (by decide) wf_X7_42 rfl rfl dX7_forget_60 ?_
  obtain ⟨a39, ea39, h⟩ := h
  have ka39 : kO σ37 a39 11 := (hYσ37.get (hth.up (xσ34.trans xσ37)) (by decide)) a39 ea39
  have h := h ka39
  refine W.eq (g2 := F0 m 63 ls [.ref a39, va_rf (gP σ37 th 0)]) (by rw [ea39]; rfl) ?_
  refine f_getp B hH ka39 (by decide) rfl wu_X11 2 (by decide) wf_X7_114 rfl rfl dX7_forget_63 ?_
  obtain ⟨a41, ea41, h⟩ := h
  have ka41 : kO σ37 a41 8 := (hYσ37.get (hth.up (xσ34.trans xσ37)) (by decide)) a41 ea41
  have h := h ka41
  refine W.eq (g2 := F0 m 66 ls [va_rf (gP σ37 a39 2), .ref a41]) (by rw [ea41]; rfl) ?_
  refine c_V B hH hl hc K.2.2.1 (C := RX8) (T := TX8) (N := 3) (ci := 8) (As := [va_rf (gP σ37 a39 2)]) (ok_X8_releaseAll hl9 K.2.1 σ37 a41 (gP σ37 a39 2) (hYσ37.get ka39 (by decide)) ka41 hGσ37 hYσ37 h) wc_X7_102 1 hd_X8_releaseAll ⟨Nat.le_trans (Nat.le_of_ble_eq_true rfl) K.2.2.2.1, Nat.le_trans (Nat.le_of_ble_eq_true rfl) K.2.2.2.2.1⟩ ka41.1 ka41.2 (by decide) rfl rfl (rest := []) rfl (Nat.le_of_ble_eq_true rfl) dX7_forget_66 (fun σ40 w hq => ?_) (fun σ9 E9 hx9 => hX σ9 E9 _ _ _ (tb_out K.2.2.2.2.2.1 rfl) hx9.1 hx9.2.1 hx9.2.2.1 (((hE.trans xσ34).trans xσ37).trans hx9.2.2.2))
  obtain ⟨rfl, h, hGσ40, hYσ40, xσ40⟩ := hq
  have h := h xσ40
  intro H locs ls hH hl hc
  refine W.eq (g2 := F0 m 69 ls []) (rfl) ?_
  try dsimp only at h
  refine lv_aload_n B.1 B.2.1 dX7_forget_69 rfl (lv_at hl 0 rfl) ?_
  refine f_getp B hH (hth.up (xσ34.trans (xσ37.trans xσ40))) (by decide) rfl wu_X7 0 (by decide) wf_X7_33 rfl rfl dX7_forget_70 ?_
  refine lv_aload_n B.1 B.2.1 dX7_forget_73 rfl (lv_at hl 0 rfl) ?_
  refine f_getp B hH (hth.up (xσ34.trans (xσ37.trans xσ40))) (by decide) rfl wu_X7 4 (by decide) wf_X7_29 rfl rfl dX7_forget_74 ?_
  obtain ⟨a43, ea43, h⟩ := h
  have ka43 : kO σ40 a43 8 := (hYσ40.get (hth.up (xσ34.trans (xσ37.trans xσ40))) (by decide)) a43 ea43
  have h := h ka43
  refine W.eq (g2 := F0 m 77 ls [va_rf (gP σ40 th 4), .ref a43]) (by rw [ea43]; rfl) ?_
  refine c_V B hH hl hc K.2.2.1 (C := RX8) (T := TX8) (N := 3) (ci := 8) (As := [va_rf (gP σ40 th 4)]) (ok_X8_releaseAll hl9 K.2.1 σ40 a43 (gP σ40 th 4) (hYσ40.get (hth.up (xσ34.trans (xσ37.trans xσ40))) (by decide)) ka43 hGσ40 hYσ40 h) wc_X7_102 1 hd_X8_releaseAll ⟨Nat.le_trans (Nat.le_of_ble_eq_true rfl) K.2.2.2.1, Nat.le_trans (Nat.le_of_ble_eq_true rfl) K.2.2.2.2.1⟩ ka43.1 ka43.2 (by decide) rfl rfl (rest := []) rfl (Nat.le_of_ble_eq_true rfl) dX7_forget_77 (fun σ42 w hq => ?_) (fun σ9 E9 hx9 => hX σ9 E9 _ _ _ (tb_out K.2.2.2.2.2.1 rfl) hx9.1 hx9.2.1 hx9.2.2.1 ((((hE.trans xσ34).trans xσ37).trans xσ40).trans hx9.2.2.2))
  obtain ⟨rfl, h, hGσ42, hYσ42, xσ42⟩ := hq
  have h := h xσ42
  intro H locs ls hH hl hc
  refine W.eq (g2 := F0 m 80 ls []) (rfl) ?_
  try dsimp only at h
  refine lv_aload_n B.1 B.2.1 dX7_forget_80 rfl (lv_at hl 0 rfl) ?_
  refine f_getp B hH (hth.up (xσ34.trans (xσ37.trans (xσ40.trans xσ42)))) (by decide) rfl wu_X7 1 (by decide) wf_X7_42 rfl rfl dX7_forget_81 ?_
  refine lv_iconst (v := i32 0) B.1 B.2.1 dX7_forget_84 (by decide) ?_
  obtain ⟨a44, ea44, h⟩ := h
  have ka44 : kO σ42 a44 11 := (hYσ42.get (hth.up (xσ34.trans (xσ37.trans (xσ40.trans xσ42)))) (by decide)) a44 ea44
  have h := h ka44
  obtain ⟨σ45, eσ45⟩ : ∃ z, z = pI σ42 a44 4 0 := ⟨_, rfl⟩
  have h := h σ45 eσ45
  refine W.eq (g2 := F0 m 85 ls [.int (i32 0), .ref a44]) (by rw [ea44]; rfl) ?_
  refine f_puti B hH ka44 (by decide) rfl wu_X11 tyX11 tyX11_ok nmX11 4 (by decide) wf_X7_117 rfl (ty := .int) rfl rfl rfl rfl rfl dX7_forget_85 (fun H locs hH => ?_)
  have hH : Hd D cA A s (pI σ42 a44 4 0) H locs := hH
  rw [← eσ45] at hH
  have hGσ45 : RG σ45 := by rw [eσ45]; exact hGσ42.pI (by unfold rng; omega)
  have hYσ45 : TY σ45 := by rw [eσ45]; exact hYσ42.pI
  have xσ45 : Ext σ42 σ45 := by rw [eσ45]; exact Ext.pI
  have hc : CB n0 s0 σ45 := by rw [eσ45]; exact hc
  rw [show gc σ42 = gc σ45 by rw [eσ45]; try rfl, show gs σ42 = gs σ45 by rw [eσ45]; try rfl]
  exact hQ _ _ _ _ _ dX7_forget_88 hH hc h hGσ45 hYσ45 (((((hE.trans xσ34).trans xσ37).trans xσ40).trans xσ42).trans xσ45)
set_option maxRecDepth 20000 in
theorem a_X7_forget_8 {Q : Sg → Unit → Prop} {X : Sg → String → Prop} {th : Nat} (K : MD l R p s m args c cX7_forget 2 RX7 D cA tys A n0 s0 1 21 []) (hQ : CQV p l e R s m args below meth c cX7_forget D cA A n0 s0 QM σi Q) (hX : CX p l e R s m args below meth c 2 D cA A n0 s0 QM σi X) (hTh : CT p l e R s m args below meth c cX7_forget 2 D cA A n0 s0 QM σi RX7 X) {K2 : Sg → Int → Prop} (hK2 : ∀ (σ : Sg) (v1 : Int) (g1 : rng v1), K2 σ v1 → RG σ → TY σ → Ext σi σ → kO σ th 7 → JJ p l e R s m args below meth c 2 D cA A n0 s0 QM σ 2 [(0, .ref th), (1, .int (i32 v1))] []) : ∀ (σ : Sg) (v1 : Int) (g1 : rng v1), w_X7_forget_8 th K2 Q X σ v1 → RG σ → TY σ → Ext σi σ → kO σ th 7 → JJ p l e R s m args below meth c 2 D cA A n0 s0 QM σ 8 [(0, .ref th), (1, .int (i32 v1))] [] := by
  intro σ v1 g1 h hGσ hYσ hE hth H locs ls hH hl hc
  have B := K.1
  have hl9 := K.2.2.2.2.2.2
  unfold w_X7_forget_8 at h
  refine lv_aload_n B.1 B.2.1 dX7_forget_8 rfl (lv_at hl 0 rfl) ?_
  refine f_getp B hH hth (by decide) rfl wu_X7 0 (by decide) wf_X7_33 rfl rfl dX7_forget_9 ?_
  refine lv_aload_n B.1 B.2.1 dX7_forget_12 rfl (lv_at hl 0 rfl) ?_
  refine f_getp B hH hth (by decide) rfl wu_X7 3 (by decide) wf_X7_22 rfl rfl dX7_forget_13 ?_
  refine lv_iload_n B.1 B.2.1 dX7_forget_16 rfl (lv_at hl 1 rfl) ?_
  obtain ⟨a46, ea46, h⟩ := h
  have ka46 : kO σ a46 111 := (hYσ.get hth (by decide)) a46 ea46
  have h := h ka46
  obtain ⟨q1, h⟩ := h
  refine W.eq (g2 := F0 m 17 ls [.int (i32 v1), .ref a46, va_rf (gP σ th 0)]) (by rw [ea46]; rfl) ?_
  refine y_aald B hH (t0 := 4) ka46 (by decide) K.2.1.2.1 q1 (hYσ.2 _) dX7_forget_17 ?_
  obtain ⟨a48, ea48, h⟩ := h
  have ka48 : kO σ a48 8 := (hYσ.get hth (by decide)) a48 ea48
  have h := h ka48
  refine W.eq (g2 := F0 m 18 ls [va_rf (gP σ a46 v1.toNat), .ref a48]) (by rw [ea48]; rfl) ?_
  refine c_V B hH hl hc K.2.2.1 (C := RX8) (T := TX8) (N := 3) (ci := 8) (As := [va_rf (gP σ a46 v1.toNat)]) (ok_X8_releaseAll hl9 K.2.1 σ a48 (gP σ a46 v1.toNat) (hYσ.get ka46 rfl) ka48 hGσ hYσ h) wc_X7_102 1 hd_X8_releaseAll ⟨Nat.le_trans (Nat.le_of_ble_eq_true rfl) K.2.2.2.1, Nat.le_trans (Nat.le_of_ble_eq_true rfl) K.2.2.2.2.1⟩ ka48.1 ka48.2 (by decide) rfl rfl (rest := []) rfl (Nat.le_of_ble_eq_true rfl) dX7_forget_18 (fun σ47 w hq => ?_) (fun σ9 E9 hx9 => hX σ9 E9 _ _ _ (tb_out K.2.2.2.2.2.1 rfl) hx9.1 hx9.2.1 hx9.2.2.1 (hE.trans hx9.2.2.2))
  obtain ⟨rfl, h, hGσ47, hYσ47, xσ47⟩ := hq
  have h := h xσ47
  intro H locs ls hH hl hc
  refine W.eq (g2 := F0 m 21 ls []) (rfl) ?_
  try dsimp only at h
  obtain ⟨q2, h⟩ := h
  refine lv_iinc (k := 1) (v := i32 (v1 + 1)) (lv' := [(1, .int (i32 (v1 + 1))), (0, .ref th)]) B.1 B.2.1 dX7_forget_21 hl rfl (i32_add _ _) (by decide) rfl (fun ls hl => ?_)
  refine lv_goto (tgt := 2) B.1 B.2.1 dX7_forget_24 (by decide) ?_
  exact hK2 _ _ q2 h hGσ47 hYσ47 (hE.trans xσ47) (hth.up xσ47) _ _ _ hH (lv_sub (l' := [(0, .ref th), (1, .int (i32 (v1 + 1)))]) hl [1, 0] rfl) hc
set_option maxRecDepth 20000 in
theorem a_X7_forget_2 {Q : Sg → Unit → Prop} {X : Sg → String → Prop} {th : Nat} (K : MD l R p s m args c cX7_forget 2 RX7 D cA tys A n0 s0 1 21 []) (hQ : CQV p l e R s m args below meth c cX7_forget D cA A n0 s0 QM σi Q) (hX : CX p l e R s m args below meth c 2 D cA A n0 s0 QM σi X) (hTh : CT p l e R s m args below meth c cX7_forget 2 D cA A n0 s0 QM σi RX7 X) {K2 : Sg → Int → Prop} (hK2 : ∀ (σ : Sg) (v1 : Int) (g1 : rng v1), K2 σ v1 → RG σ → TY σ → Ext σi σ → kO σ th 7 → JJ p l e R s m args below meth c 2 D cA A n0 s0 QM σ 2 [(0, .ref th), (1, .int (i32 v1))] []) : ∀ (σ : Sg) (v1 : Int) (g1 : rng v1), w_X7_forget_2 th K2 Q X σ v1 → RG σ → TY σ → Ext σi σ → kO σ th 7 → JJ p l e R s m args below meth c 2 D cA A n0 s0 QM σ 2 [(0, .ref th), (1, .int (i32 v1))] [] := by
  intro σ v1 g1 h hGσ hYσ hE hth H locs ls hH hl hc
  have B := K.1
  have hl9 := K.2.2.2.2.2.2
  unfold w_X7_forget_2 at h
  refine lv_iload_n B.1 B.2.1 dX7_forget_2 rfl (lv_at hl 1 rfl) ?_
  refine lv_bipush (v := i32 16) B.1 B.2.1 dX7_forget_3 (by decide) ?_
  refine lv_icmp_ge (tgt := 27) B.1 B.2.1 dX7_forget_5 (by decide) (fun h9 => ?_) (fun h9 => ?_)
  · rw [if_pos ((i32_le (by unfold rng; omega) g1).mp h9)] at h
    exact a_X7_forget_27 K hQ hX hTh _ h hGσ hYσ hE hth _ _ _ hH (lv_sub (l' := [(0, .ref th)]) hl [0] rfl) hc
  · rw [if_neg (fun q => h9 ((i32_le (by unfold rng; omega) g1).mpr q))] at h
    exact a_X7_forget_8 K hQ hX hTh hK2 _ _ g1 h hGσ hYσ hE hth _ _ _ hH (lv_sub (l' := [(0, .ref th), (1, .int (i32 v1))]) hl [0, 1] rfl) hc
theorem al_X7_forget_2 {Q : Sg → Unit → Prop} {X : Sg → String → Prop} {th : Nat} (K : MD l R p s m args c cX7_forget 2 RX7 D cA tys A n0 s0 1 21 []) (hQ : CQV p l e R s m args below meth c cX7_forget D cA A n0 s0 QM σi Q) (hX : CX p l e R s m args below meth c 2 D cA A n0 s0 QM σi X) (hTh : CT p l e R s m args below meth c cX7_forget 2 D cA A n0 s0 QM σi RX7 X) : ∀ (n : Nat), ∀ (σ : Sg) (v1 : Int) (g1 : rng v1), wl_X7_forget_2 th Q X n σ v1 → RG σ → TY σ → Ext σi σ → kO σ th 7 → JJ p l e R s m args below meth c 2 D cA A n0 s0 QM σ 2 [(0, .ref th), (1, .int (i32 v1))] [] := by
  intro n
  induction n with
  | zero => intro σ v1 g1 h; exact h.elim
  | succ n ih => exact fun σ v1 g1 h => a_X7_forget_2 K hQ hX hTh ih σ v1 g1 h
set_option maxRecDepth 20000 in
theorem a_X7_forget_0 {Q : Sg → Unit → Prop} {X : Sg → String → Prop} {th : Nat} (K : MD l R p s m args c cX7_forget 2 RX7 D cA tys A n0 s0 1 21 []) (hQ : CQV p l e R s m args below meth c cX7_forget D cA A n0 s0 QM σi Q) (hX : CX p l e R s m args below meth c 2 D cA A n0 s0 QM σi X) (hTh : CT p l e R s m args below meth c cX7_forget 2 D cA A n0 s0 QM σi RX7 X) : ∀ (σ : Sg), w_X7_forget_0 th Q X σ → RG σ → TY σ → Ext σi σ → kO σ th 7 → JJ p l e R s m args below meth c 2 D cA A n0 s0 QM σ 0 [(0, .ref th)] [] := by
  intro σ h hGσ hYσ hE hth H locs ls hH hl hc
  have B := K.1
  have hl9 := K.2.2.2.2.2.2
  unfold w_X7_forget_0 at h
  refine lv_iconst (v := i32 0) B.1 B.2.1 dX7_forget_0 (by decide) ?_
  refine lv_istore_n (lv' := [(1, .int (i32 0)), (0, .ref th)]) B.1 B.2.1 dX7_forget_1 rfl hl (by decide) rfl (fun ls hl => ?_)
  obtain ⟨n9, h⟩ := h
  exact al_X7_forget_2 K hQ hX hTh n9 _ _ (by unfold rng; omega) h hGσ hYσ hE hth _ _ _ hH (lv_sub (l' := [(0, .ref th), (1, .int (i32 0))]) hl [1, 0] rfl) hc
theorem ok_X7_forget (hl0 : l.stackTraces = false) (hT : TyC cA tys) {Q : Sg → Unit → Prop} {X : Sg → String → Prop} (σ : Sg) (th : Nat) (hth : kO σ th 7) (hG : RG σ) (hY : TY σ) (h : wp_X7_forget th σ Q X) : Ok l D cA tys A yX7_forget (.code yX7_forget cX7_forget 2 none) 1 21 [.ref th] σ (QcV σ Q) (QxC σ X) := by
  unfold wp_X7_forget at h
  exact oc_V hl0 (by decide) (by exact Nat.le_of_ble_eq_true rfl) hT (fun p e R s m args below meth c K hQ hX hTh hin9 H locs ls hH hl hc => a_X7_forget_0 K hQ hX hTh σ h hG hY (Ext.rfl' σ) hth H locs ls hH (lv_sub (l' := [(0, .ref th)]) hl [0] rfl) hc)
theorem dX4_outputOp_0 : decode cX4_outputOp 0 = .ok (.aload_n 0, 1) := by decide +kernel
theorem dX4_outputOp_1 : decode cX4_outputOp 1 = .ok (.getfield 11, 3) := by decide +kernel
theorem dX4_outputOp_4 : decode cX4_outputOp 4 = .ok (.aload_n 0, 1) := by decide +kernel
theorem dX4_outputOp_5 : decode cX4_outputOp 5 = .ok (.getfield 17, 3) := by decide +kernel
theorem dX4_outputOp_8 : decode cX4_outputOp 8 = .ok (.iload_n 1, 1) := by decide +kernel
theorem dX4_outputOp_9 : decode cX4_outputOp 9 = .ok (.iaload, 1) := by decide +kernel
theorem dX4_outputOp_10 : decode cX4_outputOp 10 = .ok (.aaload, 1) := by decide +kernel
theorem dX4_outputOp_11 : decode cX4_outputOp 11 = .ok (.areturn, 1) := by decide +kernel
set_option maxRecDepth 20000 in
theorem a_X4_outputOp_0 {Q : Sg → Option Nat → Prop} {X : Sg → String → Prop} {th : Nat} (K : MD l R p s m args c cX4_outputOp 2 RX4 D cA tys A n0 s0 0 0 []) (hQ : CQA p l e R s m args below meth c cX4_outputOp D cA A n0 s0 QM σi 5 Q) (hX : CX p l e R s m args below meth c 2 D cA A n0 s0 QM σi X) (hTh : CT p l e R s m args below meth c cX4_outputOp 2 D cA A n0 s0 QM σi RX4 X) : ∀ (σ : Sg) (v1 : Int) (g1 : rng v1), w_X4_outputOp_0 th Q X σ v1 → RG σ → TY σ → Ext σi σ → kO σ th 4 → JJ p l e R s m args below meth c 2 D cA A n0 s0 QM σ 0 [(0, .ref th), (1, .int (i32 v1))] [] := by
  intro σ v1 g1 h hGσ hYσ hE hth H locs ls hH hl hc
  have B := K.1
  have hl9 := K.2.2.2.2.2.2
  unfold w_X4_outputOp_0 at h
  refine lv_aload_n B.1 B.2.1 dX4_outputOp_0 rfl (lv_at hl 0 rfl) ?_
  refine f_getp B hH hth (by decide) rfl wu_X4 0 (by decide) wf_X4_11 rfl rfl dX4_outputOp_1 ?_
  refine lv_aload_n B.1 B.2.1 dX4_outputOp_4 rfl (lv_at hl 0 rfl) ?_
  refine f_getp B hH hth (by decide) rfl wu_X4 3 (by decide) wf_X4_17 rfl rfl dX4_outputOp_5 ?_
  refine lv_iload_n B.1 B.2.1 dX4_outputOp_8 rfl (lv_at hl 1 rfl) ?_
  obtain ⟨a5, ea5, h⟩ := h
  have ka5 : kO σ a5 100 := (hYσ.get hth (by decide)) a5 ea5
  have h := h ka5
  obtain ⟨q1, h⟩ := h
  refine W.eq (g2 := F0 m 9 ls [.int (i32 v1), .ref a5, va_rf (gP σ th 0)]) (by rw [ea5]; rfl) ?_
  refine y_iald B K.2.1 hH ka5 q1 dX4_outputOp_9 (hYσ.2 _) ?_
  obtain ⟨a6, ea6, h⟩ := h
  have ka6 : kO σ a6 115 := (hYσ.get hth (by decide)) a6 ea6
  have h := h ka6
  obtain ⟨q2, h⟩ := h
  refine W.eq (g2 := F0 m 10 ls [.int (i32 (gI σ a5 v1.toNat)), .ref a6]) (by rw [ea6]; rfl) ?_
  refine y_aald B hH (t0 := 6) ka6 (by decide) K.2.1.2.2.2.1 q2 (hYσ.2 _) dX4_outputOp_10 ?_
  exact hQ _ _ _ _ _ _ (hYσ.get ka6 rfl) dX4_outputOp_11 hH hc h hGσ hYσ hE
theorem ok_X4_outputOp (hl0 : l.stackTraces = false) (hT : TyC cA tys) {Q : Sg → Option Nat → Prop} {X : Sg → String → Prop} (σ : Sg) (th : Nat) (v1 : Int) (g1 : rng v1) (hth : kO σ th 4) (hG : RG σ) (hY : TY σ) (h : wp_X4_outputOp th v1 σ Q X) : Ok l D cA tys A yX4_outputOp (.code yX4_outputOp cX4_outputOp 2 (some (.object "StreamHouse$Op"))) 0 0 [.ref th, .int (i32 v1)] σ (QcA σ 5 Q) (QxC σ X) := by
  unfold wp_X4_outputOp at h
  exact oc_A hl0 (by decide) (by exact Nat.le_of_ble_eq_true rfl) hT (fun p e R s m args below meth c K hQ hX hTh H locs ls hH hl hc => a_X4_outputOp_0 K hQ hX hTh σ v1 g1 h hG hY (Ext.rfl' σ) hth H locs ls hH (lv_sub (l' := [(0, .ref th), (1, .int (i32 v1))]) hl [0, 1] rfl) hc)
theorem dX7_limit_0 : decode cX7_limit 0 = .ok (.aload_n 0, 1) := by decide +kernel
theorem dX7_limit_1 : decode cX7_limit 1 = .ok (.getfield 51, 3) := by decide +kernel
theorem dX7_limit_4 : decode cX7_limit 4 = .ok (.aload_n 0, 1) := by decide +kernel
theorem dX7_limit_5 : decode cX7_limit 5 = .ok (.getfield 42, 3) := by decide +kernel
theorem dX7_limit_8 : decode cX7_limit 8 = .ok (.getfield 114, 3) := by decide +kernel
theorem dX7_limit_11 : decode cX7_limit 11 = .ok (.getfield 146, 3) := by decide +kernel
theorem dX7_limit_14 : decode cX7_limit 14 = .ok (.iadd, 1) := by decide +kernel
theorem dX7_limit_15 : decode cX7_limit 15 = .ok (.sipush 4000, 3) := by decide +kernel
theorem dX7_limit_18 : decode cX7_limit 18 = .ok (.if_icmp .le 11, 3) := by decide +kernel
theorem dX7_limit_21 : decode cX7_limit 21 = .ok (.new 86, 3) := by decide +kernel
theorem dX7_limit_24 : decode cX7_limit 24 = .ok (.dup, 1) := by decide +kernel
theorem dX7_limit_25 : decode cX7_limit 25 = .ok (.invokespecial 189, 3) := by decide +kernel
theorem dX7_limit_28 : decode cX7_limit 28 = .ok (.athrow, 1) := by decide +kernel
theorem dX7_limit_29 : decode cX7_limit 29 = .ok (.return_, 1) := by decide +kernel
set_option maxRecDepth 20000 in
theorem a_X7_limit_29 {Q : Sg → Unit → Prop} {X : Sg → String → Prop} {th : Nat} (K : MD l R p s m args c cX7_limit 1 RX7 D cA tys A n0 s0 6 90 []) (hQ : CQV p l e R s m args below meth c cX7_limit D cA A n0 s0 QM σi Q) (hX : CX p l e R s m args below meth c 1 D cA A n0 s0 QM σi X) (hTh : CT p l e R s m args below meth c cX7_limit 1 D cA A n0 s0 QM σi RX7 X) : ∀ (σ : Sg), w_X7_limit_29 th Q X σ → RG σ → TY σ → Ext σi σ → kO σ th 7 → JJ p l e R s m args below meth c 1 D cA A n0 s0 QM σ 29 [(0, .ref th)] [] := by
  intro σ h hGσ hYσ hE hth H locs ls hH hl hc
  have B := K.1
  have hl9 := K.2.2.2.2.2.2
  unfold w_X7_limit_29 at h
  exact hQ _ _ _ _ _ dX7_limit_29 hH hc h hGσ hYσ hE
set_option maxRecDepth 20000 in
theorem a_X7_limit_21 {Q : Sg → Unit → Prop} {X : Sg → String → Prop} {th : Nat} (K : MD l R p s m args c cX7_limit 1 RX7 D cA tys A n0 s0 6 90 []) (hQ : CQV p l e R s m args below meth c cX7_limit D cA A n0 s0 QM σi Q) (hX : CX p l e R s m args below meth c 1 D cA A n0 s0 QM σi X) (hTh : CT p l e R s m args below meth c cX7_limit 1 D cA A n0 s0 QM σi RX7 X) : ∀ (σ : Sg), w_X7_limit_21 th Q X σ → RG σ → TY σ → Ext σi σ → kO σ th 7 → JJ p l e R s m args below meth c 1 D cA A n0 s0 QM σ 21 [(0, .ref th)] [] := by
  intro σ h hGσ hYσ hE hth H locs ls hH hl hc
  have B := K.1
  have hl9 := K.2.2.2.2.2.2
  unfold w_X7_limit_21 at h
  obtain ⟨q9, h⟩ := h
  exact hTh _ _ _ _ _ _ _ _ _ tw_X7_86_189 dX7_limit_21 dX7_limit_24 dX7_limit_25 dX7_limit_28 hH hl hc q9 h hGσ hYσ hE (by have := K.2.2.2.1; omega) (by have := K.2.2.2.2.1; omega)
set_option maxRecDepth 20000 in
theorem a_X7_limit_0 {Q : Sg → Unit → Prop} {X : Sg → String → Prop} {th : Nat} (K : MD l R p s m args c cX7_limit 1 RX7 D cA tys A n0 s0 6 90 []) (hQ : CQV p l e R s m args below meth c cX7_limit D cA A n0 s0 QM σi Q) (hX : CX p l e R s m args below meth c 1 D cA A n0 s0 QM σi X) (hTh : CT p l e R s m args below meth c cX7_limit 1 D cA A n0 s0 QM σi RX7 X) : ∀ (σ : Sg), w_X7_limit_0 th Q X σ → RG σ → TY σ → Ext σi σ → kO σ th 7 → JJ p l e R s m args below meth c 1 D cA A n0 s0 QM σ 0 [(0, .ref th)] [] := by
  intro σ h hGσ hYσ hE hth H locs ls hH hl hc
  have B := K.1
  have hl9 := K.2.2.2.2.2.2
  unfold w_X7_limit_0 at h
  refine lv_aload_n B.1 B.2.1 dX7_limit_0 rfl (lv_at hl 0 rfl) ?_
  refine f_geti B hH hth (by decide) rfl wu_X7 6 (by decide) wf_X7_51 rfl rfl dX7_limit_1 ?_
  refine lv_aload_n B.1 B.2.1 dX7_limit_4 rfl (lv_at hl 0 rfl) ?_
  refine f_getp B hH hth (by decide) rfl wu_X7 1 (by decide) wf_X7_42 rfl rfl dX7_limit_5 ?_
  obtain ⟨a5, ea5, h⟩ := h
  have ka5 : kO σ a5 11 := (hYσ.get hth (by decide)) a5 ea5
  have h := h ka5
  refine W.eq (g2 := F0 m 8 ls [.ref a5, .int (i32 (gI σ th 6))]) (by rw [ea5]; rfl) ?_
  refine f_getp B hH ka5 (by decide) rfl wu_X11 2 (by decide) wf_X7_114 rfl rfl dX7_limit_8 ?_
  obtain ⟨a6, ea6, h⟩ := h
  have ka6 : kO σ a6 1 := (hYσ.get ka5 (by decide)) a6 ea6
  have h := h ka6
  refine W.eq (g2 := F0 m 11 ls [.ref a6, .int (i32 (gI σ th 6))]) (by rw [ea6]; rfl) ?_
  refine f_geti B hH ka6 (by decide) rfl wu_X1 2 (by decide) wf_X7_146 rfl rfl dX7_limit_11 ?_
  obtain ⟨q1, h⟩ := h
  refine lv_iadd B.1 B.2.1 dX7_limit_14 ?_
  rw [i32_add]
  refine lv_sipush (v := i32 4000) B.1 B.2.1 dX7_limit_15 (by decide) ?_
  refine lv_icmp_le (tgt := 29) B.1 B.2.1 dX7_limit_18 (by decide) (fun h9 => ?_) (fun h9 => ?_)
  · rw [if_pos ((i32_le q1 (by unfold rng; omega)).mp h9)] at h
    exact a_X7_limit_29 K hQ hX hTh _ h hGσ hYσ hE hth _ _ _ hH (lv_sub (l' := [(0, .ref th)]) hl [0] rfl) hc
  · rw [if_neg (fun q => h9 ((i32_le q1 (by unfold rng; omega)).mpr q))] at h
    exact a_X7_limit_21 K hQ hX hTh _ h hGσ hYσ hE hth _ _ _ hH (lv_sub (l' := [(0, .ref th)]) hl [0] rfl) hc
theorem ok_X7_limit (hl0 : l.stackTraces = false) (hT : TyC cA tys) {Q : Sg → Unit → Prop} {X : Sg → String → Prop} (σ : Sg) (th : Nat) (hth : kO σ th 7) (hG : RG σ) (hY : TY σ) (h : wp_X7_limit th σ Q X) : Ok l D cA tys A yX7_limit (.code yX7_limit cX7_limit 1 none) 6 90 [.ref th] σ (QcV σ Q) (QxC σ X) := by
  unfold wp_X7_limit at h
  exact oc_V hl0 (by decide) (by exact Nat.le_of_ble_eq_true rfl) hT (fun p e R s m args below meth c K hQ hX hTh hin9 H locs ls hH hl hc => a_X7_limit_0 K hQ hX hTh σ h hG hY (Ext.rfl' σ) hth H locs ls hH (lv_sub (l' := [(0, .ref th)]) hl [0] rfl) hc)
theorem dX7_acceptAll_0 : decode cX7_acceptAll 0 = .ok (.iload_n 3, 1) := by decide +kernel
theorem dX7_acceptAll_1 : decode cX7_acceptAll 1 = .ok (.iconst (-1), 1) := by decide +kernel
theorem dX7_acceptAll_2 : decode cX7_acceptAll 2 = .ok (.if_icmp .eq 12, 3) := by decide +kernel
theorem dX7_acceptAll_5 : decode cX7_acceptAll 5 = .ok (.aload_n 1, 1) := by decide +kernel
theorem dX7_acceptAll_6 : decode cX7_acceptAll 6 = .ok (.getfield 120, 3) := by decide +kernel
theorem dX7_acceptAll_9 : decode cX7_acceptAll 9 = .ok (.bipush 11, 2) := by decide +kernel
theorem dX7_acceptAll_11 : decode cX7_acceptAll 11 = .ok (.if_icmp .ne 4, 3) := by decide +kernel
theorem dX7_acceptAll_14 : decode cX7_acceptAll 14 = .ok (.return_, 1) := by decide +kernel
theorem dX7_acceptAll_15 : decode cX7_acceptAll 15 = .ok (.aload_n 0, 1) := by decide +kernel
theorem dX7_acceptAll_16 : decode cX7_acceptAll 16 = .ok (.getfield 22, 3) := by decide +kernel
theorem dX7_acceptAll_19 : decode cX7_acceptAll 19 = .ok (.iload_n 3, 1) := by decide +kernel
theorem dX7_acceptAll_20 : decode cX7_acceptAll 20 = .ok (.aaload, 1) := by decide +kernel
theorem dX7_acceptAll_21 : decode cX7_acceptAll 21 = .ok (.getfield 123, 3) := by decide +kernel
theorem dX7_acceptAll_24 : decode cX7_acceptAll 24 = .ok (.astore 4, 2) := by decide +kernel
theorem dX7_acceptAll_26 : decode cX7_acceptAll 26 = .ok (.aload 4, 2) := by decide +kernel
theorem dX7_acceptAll_28 : decode cX7_acceptAll 28 = .ok (.ifnull 39, 3) := by decide +kernel
theorem dX7_acceptAll_31 : decode cX7_acceptAll 31 = .ok (.aload_n 0, 1) := by decide +kernel
theorem dX7_acceptAll_32 : decode cX7_acceptAll 32 = .ok (.getfield 42, 3) := by decide +kernel
theorem dX7_acceptAll_35 : decode cX7_acceptAll 35 = .ok (.aload_n 1, 1) := by decide +kernel
theorem dX7_acceptAll_36 : decode cX7_acceptAll 36 = .ok (.aload_n 0, 1) := by decide +kernel
theorem dX7_acceptAll_37 : decode cX7_acceptAll 37 = .ok (.getfield 12, 3) := by decide +kernel
theorem dX7_acceptAll_40 : decode cX7_acceptAll 40 = .ok (.iload_n 2, 1) := by decide +kernel
theorem dX7_acceptAll_41 : decode cX7_acceptAll 41 = .ok (.aload_n 0, 1) := by decide +kernel
theorem dX7_acceptAll_42 : decode cX7_acceptAll 42 = .ok (.getfield 33, 3) := by decide +kernel
theorem dX7_acceptAll_45 : decode cX7_acceptAll 45 = .ok (.aload 4, 2) := by decide +kernel
theorem dX7_acceptAll_47 : decode cX7_acceptAll 47 = .ok (.invokevirtual 126, 3) := by decide +kernel
theorem dX7_acceptAll_50 : decode cX7_acceptAll 50 = .ok (.invokevirtual 130, 3) := by decide +kernel
theorem dX7_acceptAll_53 : decode cX7_acceptAll 53 = .ok (.aload_n 0, 1) := by decide +kernel
theorem dX7_acceptAll_54 : decode cX7_acceptAll 54 = .ok (.invokevirtual 134, 3) := by decide +kernel
theorem dX7_acceptAll_57 : decode cX7_acceptAll 57 = .ok (.aload 4, 2) := by decide +kernel
theorem dX7_acceptAll_59 : decode cX7_acceptAll 59 = .ok (.getfield 137, 3) := by decide +kernel
theorem dX7_acceptAll_62 : decode cX7_acceptAll 62 = .ok (.astore 4, 2) := by decide +kernel
theorem dX7_acceptAll_64 : decode cX7_acceptAll 64 = .ok (.goto (-38), 3) := by decide +kernel
theorem dX7_acceptAll_67 : decode cX7_acceptAll 67 = .ok (.return_, 1) := by decide +kernel
set_option maxRecDepth 20000 in
theorem a_X7_acceptAll_14 {Q : Sg → Unit → Prop} {X : Sg → String → Prop} {th : Nat} (K : MD l R p s m args c cX7_acceptAll 5 RX7 D cA tys A n0 s0 11 223 []) (hQ : CQV p l e R s m args below meth c cX7_acceptAll D cA A n0 s0 QM σi Q) (hX : CX p l e R s m args below meth c 5 D cA A n0 s0 QM σi X) (hTh : CT p l e R s m args below meth c cX7_acceptAll 5 D cA A n0 s0 QM σi RX7 X) : ∀ (σ : Sg), w_X7_acceptAll_14 th Q X σ → RG σ → TY σ → Ext σi σ → kO σ th 7 → JJ p l e R s m args below meth c 5 D cA A n0 s0 QM σ 14 [(0, .ref th)] [] := by
  intro σ h hGσ hYσ hE hth H locs ls hH hl hc
  have B := K.1
  have hl9 := K.2.2.2.2.2.2
  unfold w_X7_acceptAll_14 at h
  exact hQ _ _ _ _ _ dX7_acceptAll_14 hH hc h hGσ hYσ hE
set_option maxRecDepth 20000 in
theorem a_X7_acceptAll_67 {Q : Sg → Unit → Prop} {X : Sg → String → Prop} {th : Nat} (K : MD l R p s m args c cX7_acceptAll 5 RX7 D cA tys A n0 s0 11 223 []) (hQ : CQV p l e R s m args below meth c cX7_acceptAll D cA A n0 s0 QM σi Q) (hX : CX p l e R s m args below meth c 5 D cA A n0 s0 QM σi X) (hTh : CT p l e R s m args below meth c cX7_acceptAll 5 D cA A n0 s0 QM σi RX7 X) : ∀ (σ : Sg), w_X7_acceptAll_67 th Q X σ → RG σ → TY σ → Ext σi σ → kO σ th 7 → JJ p l e R s m args below meth c 5 D cA A n0 s0 QM σ 67 [(0, .ref th)] [] := by
  intro σ h hGσ hYσ hE hth H locs ls hH hl hc
  have B := K.1
  have hl9 := K.2.2.2.2.2.2
  unfold w_X7_acceptAll_67 at h
  exact hQ _ _ _ _ _ dX7_acceptAll_67 hH hc h hGσ hYσ hE
set_option maxRecDepth 20000 in
theorem a_X7_acceptAll_31 {Q : Sg → Unit → Prop} {X : Sg → String → Prop} {th : Nat} (K : MD l R p s m args c cX7_acceptAll 5 RX7 D cA tys A n0 s0 11 223 []) (hQ : CQV p l e R s m args below meth c cX7_acceptAll D cA A n0 s0 QM σi Q) (hX : CX p l e R s m args below meth c 5 D cA A n0 s0 QM σi X) (hTh : CT p l e R s m args below meth c cX7_acceptAll 5 D cA A n0 s0 QM σi RX7 X) {K26 : Sg → Option Nat → Int → Option Nat → Prop} (hK26 : ∀ (σ : Sg) (v1 : Option Nat) (v2 : Int) (v4 : Option Nat) (g1 : tyV σ 5 v1) (g2 : rng v2) (g4 : tyV σ 0 v4), K26 σ v1 v2 v4 → RG σ → TY σ → Ext σi σ → kO σ th 7 → JJ p l e R s m args below meth c 5 D cA A n0 s0 QM σ 26 [(0, .ref th), (1, va_rf v1), (2, .int (i32 v2)), (4, va_rf v4)] []) : ∀ (σ : Sg) (v1 : Option Nat) (v2 : Int) (v4 : Option Nat) (g1 : tyV σ 5 v1) (g2 : rng v2) (g4 : tyV σ 0 v4), w_X7_acceptAll_31 th K26 Q X σ v1 v2 v4 → RG σ → TY σ → Ext σi σ → kO σ th 7 → JJ p l e R s m args below meth c 5 D cA A n0 s0 QM σ 31 [(0, .ref th), (1, va_rf v1), (2, .int (i32 v2)), (4, va_rf v4)] [] := by
  intro σ v1 v2 v4 g1 g2 g4 h hGσ hYσ hE hth H locs ls hH hl hc
  have B := K.1
  have hl9 := K.2.2.2.2.2.2
  unfold w_X7_acceptAll_31 at h
  refine lv_aload_n B.1 B.2.1 dX7_acceptAll_31 rfl (lv_at hl 0 rfl) ?_
  refine f_getp B hH hth (by decide) rfl wu_X7 1 (by decide) wf_X7_42 rfl rfl dX7_acceptAll_32 ?_
  refine lv_aload_nQ B.1 B.2.1 dX7_acceptAll_35 rfl (lv_at hl 1 rfl) ?_
  refine lv_aload_n B.1 B.2.1 dX7_acceptAll_36 rfl (lv_at hl 0 rfl) ?_
  refine f_getp B hH hth (by decide) rfl wu_X7 2 (by decide) wf_X7_12 rfl rfl dX7_acceptAll_37 ?_
  refine lv_iload_n B.1 B.2.1 dX7_acceptAll_40 rfl (lv_at hl 2 rfl) ?_
  refine lv_aload_n B.1 B.2.1 dX7_acceptAll_41 rfl (lv_at hl 0 rfl) ?_
  refine f_getp B hH hth (by decide) rfl wu_X7 0 (by decide) wf_X7_33 rfl rfl dX7_acceptAll_42 ?_
  refine lv_aloadQ B.1 B.2.1 dX7_acceptAll_45 (lv_at hl 3 rfl) ?_
  obtain ⟨a23, ea23, h⟩ := h
  have ka23 : kO σ a23 8 := (hYσ.get hth (by decide)) a23 ea23
  have h := h ka23
  refine W.eq (g2 := F0 m 47 ls [va_rf v4, .ref a23, .int (i32 v2), va_rf (gP σ th 2), va_rf v1, va_rf (gP σ th 1)]) (by rw [ea23]; rfl) ?_
  refine c_V B hH hl hc K.2.2.1 (C := RX8) (T := TX8) (N := 3) (ci := 8) (As := [va_rf v4]) (ok_X8_copyOf hl9 K.2.1 σ a23 v4 g4 ka23 hGσ hYσ h) wc_X7_126 1 hd_X8_copyOf ⟨Nat.le_trans (Nat.le_of_ble_eq_true rfl) K.2.2.2.1, Nat.le_trans (Nat.le_of_ble_eq_true rfl) K.2.2.2.2.1⟩ ka23.1 ka23.2 (by decide) rfl rfl (rest := [.int (i32 v2), va_rf (gP σ th 2), va_rf v1, va_rf (gP σ th 1)]) rfl (by simp only [List.map_cons, List.map_nil, rf_cat]; exact Nat.le_of_ble_eq_true rfl) dX7_acceptAll_47 (fun σ21 w hq => ?_) (fun σ9 E9 hx9 => hX σ9 E9 _ _ _ (tb_out K.2.2.2.2.2.1 rfl) hx9.1 hx9.2.1 hx9.2.2.1 (hE.trans hx9.2.2.2))
  obtain ⟨r22, rfl, tr22, h, hGσ21, hYσ21, xσ21⟩ := hq
  have h := h xσ21 tr22
  intro H locs ls hH hl hc
  refine W.eq (g2 := F0 m 50 ls [va_rf r22, .int (i32 v2), va_rf (gP σ th 2), va_rf v1, va_rf (gP σ th 1)]) (rfl) ?_
  try dsimp only at h
  obtain ⟨a25, ea25, h⟩ := h
  have ka25 : kO σ21 a25 11 := ((hYσ.get hth (by decide)).up xσ21) a25 ea25
  have h := h ka25
  refine W.eq (g2 := F0 m 50 ls [va_rf r22, .int (i32 v2), va_rf (gP σ th 2), va_rf v1, .ref a25]) (by rw [ea25]; rfl) ?_
  refine c_V B hH hl hc K.2.2.1 (C := RX11) (T := TX11) (N := 6) (ci := 11) (As := [va_rf v1, va_rf (gP σ th 2), .int (i32 v2), va_rf r22]) (ok_X11_accept hl9 K.2.1 σ21 a25 v1 (gP σ th 2) v2 r22 (g1.up xσ21) ((hYσ.get hth (by decide)).up xσ21) g2 tr22 ka25 hGσ21 hYσ21 h) wc_X7_130 4 hd_X11_accept ⟨Nat.le_trans (Nat.le_of_ble_eq_true rfl) K.2.2.2.1, Nat.le_trans (Nat.le_of_ble_eq_true rfl) K.2.2.2.2.1⟩ ka25.1 ka25.2 (by decide) rfl rfl (rest := []) rfl (Nat.le_of_ble_eq_true rfl) dX7_acceptAll_50 (fun σ24 w hq => ?_) (fun σ9 E9 hx9 => hX σ9 E9 _ _ _ (tb_out K.2.2.2.2.2.1 rfl) hx9.1 hx9.2.1 hx9.2.2.1 ((hE.trans xσ21).trans hx9.2.2.2))
  obtain ⟨rfl, h, hGσ24, hYσ24, xσ24⟩ := hq
  have h := h xσ24
  intro H locs ls hH hl hc
  refine W.eq (g2 := F0 m 53 ls []) (rfl) ?_
  try dsimp only at h
  refine lv_aload_n B.1 B.2.1 dX7_acceptAll_53 rfl (lv_at hl 0 rfl) ?_
  refine W.eq (g2 := F0 m 54 ls [.ref th]) (rfl) ?_
  refine c_V B hH hl hc K.2.2.1 (C := RX7) (T := TX7) (N := 7) (ci := 7) (As := []) (ok_X7_limit hl9 K.2.1 σ24 th (hth.up (xσ21.trans xσ24)) hGσ24 hYσ24 h) wc_X7_134 0 hd_X7_limit ⟨Nat.le_trans (Nat.le_of_ble_eq_true rfl) K.2.2.2.1, Nat.le_trans (Nat.le_of_ble_eq_true rfl) K.2.2.2.2.1⟩ (hth.up (xσ21.trans xσ24)).1 (hth.up (xσ21.trans xσ24)).2 (by decide) rfl rfl (rest := []) rfl (Nat.le_of_ble_eq_true rfl) dX7_acceptAll_54 (fun σ26 w hq => ?_) (fun σ9 E9 hx9 => hX σ9 E9 _ _ _ (tb_out K.2.2.2.2.2.1 rfl) hx9.1 hx9.2.1 hx9.2.2.1 (((hE.trans xσ21).trans xσ24).trans hx9.2.2.2))
  obtain ⟨rfl, h, hGσ26, hYσ26, xσ26⟩ := hq
  have h := h xσ26
  intro H locs ls hH hl hc
  refine W.eq (g2 := F0 m 57 ls []) (rfl) ?_
  try dsimp only at h
  refine lv_aloadQ B.1 B.2.1 dX7_acceptAll_57 (lv_at hl 3 rfl) ?_
  obtain ⟨a27, ea27, h⟩ := h
  have ka27 : kO σ26 a27 0 := (g4.up (xσ21.trans (xσ24.trans xσ26))) a27 ea27
  have h := h ka27
  refine W.eq (g2 := F0 m 59 ls [.ref a27]) (by rw [ea27]; rfl) ?_
  refine f_getp B hH ka27 (by decide) rfl wu_X0 1 (by decide) wf_X7_137 rfl rfl dX7_acceptAll_59 ?_
  refine lv_astoreQ (lv' := [(4, va_rf (gP σ26 a27 1)), (0, .ref th), (1, va_rf v1), (2, .int (i32 v2))]) B.1 B.2.1 dX7_acceptAll_62 hl (by decide) rfl (fun ls hl => ?_)
  refine lv_goto (tgt := 26) B.1 B.2.1 dX7_acceptAll_64 (by decide) ?_
  exact hK26 _ _ _ _ (g1.up (xσ21.trans (xσ24.trans xσ26))) g2 (hYσ26.get ka27 (by decide)) h hGσ26 hYσ26 (((hE.trans xσ21).trans xσ24).trans xσ26) (hth.up (xσ21.trans (xσ24.trans xσ26))) _ _ _ hH (lv_sub (l' := [(0, .ref th), (1, va_rf v1), (2, .int (i32 v2)), (4, va_rf (gP σ26 a27 1))]) hl [1, 2, 3, 0] rfl) hc
set_option maxRecDepth 20000 in
theorem a_X7_acceptAll_26 {Q : Sg → Unit → Prop} {X : Sg → String → Prop} {th : Nat} (K : MD l R p s m args c cX7_acceptAll 5 RX7 D cA tys A n0 s0 11 223 []) (hQ : CQV p l e R s m args below meth c cX7_acceptAll D cA A n0 s0 QM σi Q) (hX : CX p l e R s m args below meth c 5 D cA A n0 s0 QM σi X) (hTh : CT p l e R s m args below meth c cX7_acceptAll 5 D cA A n0 s0 QM σi RX7 X) {K26 : Sg → Option Nat → Int → Option Nat → Prop} (hK26 : ∀ (σ : Sg) (v1 : Option Nat) (v2 : Int) (v4 : Option Nat) (g1 : tyV σ 5 v1) (g2 : rng v2) (g4 : tyV σ 0 v4), K26 σ v1 v2 v4 → RG σ → TY σ → Ext σi σ → kO σ th 7 → JJ p l e R s m args below meth c 5 D cA A n0 s0 QM σ 26 [(0, .ref th), (1, va_rf v1), (2, .int (i32 v2)), (4, va_rf v4)] []) : ∀ (σ : Sg) (v1 : Option Nat) (v2 : Int) (v4 : Option Nat) (g1 : tyV σ 5 v1) (g2 : rng v2) (g4 : tyV σ 0 v4), w_X7_acceptAll_26 th K26 Q X σ v1 v2 v4 → RG σ → TY σ → Ext σi σ → kO σ th 7 → JJ p l e R s m args below meth c 5 D cA A n0 s0 QM σ 26 [(0, .ref th), (1, va_rf v1), (2, .int (i32 v2)), (4, va_rf v4)] [] := by
  intro σ v1 v2 v4 g1 g2 g4 h hGσ hYσ hE hth H locs ls hH hl hc
  have B := K.1
  have hl9 := K.2.2.2.2.2.2
  unfold w_X7_acceptAll_26 at h
  refine lv_aloadQ B.1 B.2.1 dX7_acceptAll_26 (lv_at hl 3 rfl) ?_
  refine lv_ifnullQ (tgt := 67) B.1 B.2.1 dX7_acceptAll_28 (by decide) (fun h9 => ?_) (fun h9 => ?_)
  · rw [if_pos (h9)] at h
    exact a_X7_acceptAll_67 K hQ hX hTh _ h hGσ hYσ hE hth _ _ _ hH (lv_sub (l' := [(0, .ref th)]) hl [0] rfl) hc
  · rw [if_neg (h9)] at h
    exact a_X7_acceptAll_31 K hQ hX hTh hK26 _ _ _ _ g1 g2 g4 h hGσ hYσ hE hth _ _ _ hH (lv_sub (l' := [(0, .ref th), (1, va_rf v1), (2, .int (i32 v2)), (4, va_rf v4)]) hl [0, 1, 2, 3] rfl) hc
theorem al_X7_acceptAll_26 {Q : Sg → Unit → Prop} {X : Sg → String → Prop} {th : Nat} (K : MD l R p s m args c cX7_acceptAll 5 RX7 D cA tys A n0 s0 11 223 []) (hQ : CQV p l e R s m args below meth c cX7_acceptAll D cA A n0 s0 QM σi Q) (hX : CX p l e R s m args below meth c 5 D cA A n0 s0 QM σi X) (hTh : CT p l e R s m args below meth c cX7_acceptAll 5 D cA A n0 s0 QM σi RX7 X) : ∀ (n : Nat), ∀ (σ : Sg) (v1 : Option Nat) (v2 : Int) (v4 : Option Nat) (g1 : tyV σ 5 v1) (g2 : rng v2) (g4 : tyV σ 0 v4), wl_X7_acceptAll_26 th Q X n σ v1 v2 v4 → RG σ → TY σ → Ext σi σ → kO σ th 7 → JJ p l e R s m args below meth c 5 D cA A n0 s0 QM σ 26 [(0, .ref th), (1, va_rf v1), (2, .int (i32 v2)), (4, va_rf v4)] [] := by
  intro n
  induction n with
  | zero => intro σ v1 v2 v4 g1 g2 g4 h; exact h.elim
  | succ n ih => exact fun σ v1 v2 v4 g1 g2 g4 h => a_X7_acceptAll_26 K hQ hX hTh ih σ v1 v2 v4 g1 g2 g4 h
set_option maxRecDepth 20000 in
theorem a_X7_acceptAll_15 {Q : Sg → Unit → Prop} {X : Sg → String → Prop} {th : Nat} (K : MD l R p s m args c cX7_acceptAll 5 RX7 D cA tys A n0 s0 11 223 []) (hQ : CQV p l e R s m args below meth c cX7_acceptAll D cA A n0 s0 QM σi Q) (hX : CX p l e R s m args below meth c 5 D cA A n0 s0 QM σi X) (hTh : CT p l e R s m args below meth c cX7_acceptAll 5 D cA A n0 s0 QM σi RX7 X) : ∀ (σ : Sg) (v1 : Option Nat) (v2 : Int) (v3 : Int) (g1 : tyV σ 5 v1) (g2 : rng v2) (g3 : rng v3), w_X7_acceptAll_15 th Q X σ v1 v2 v3 → RG σ → TY σ → Ext σi σ → kO σ th 7 → JJ p l e R s m args below meth c 5 D cA A n0 s0 QM σ 15 [(0, .ref th), (1, va_rf v1), (2, .int (i32 v2)), (3, .int (i32 v3))] [] := by
  intro σ v1 v2 v3 g1 g2 g3 h hGσ hYσ hE hth H locs ls hH hl hc
  have B := K.1
  have hl9 := K.2.2.2.2.2.2
  unfold w_X7_acceptAll_15 at h
  refine lv_aload_n B.1 B.2.1 dX7_acceptAll_15 rfl (lv_at hl 0 rfl) ?_
  refine f_getp B hH hth (by decide) rfl wu_X7 3 (by decide) wf_X7_22 rfl rfl dX7_acceptAll_16 ?_
  refine lv_iload_n B.1 B.2.1 dX7_acceptAll_19 rfl (lv_at hl 3 rfl) ?_
  obtain ⟨a28, ea28, h⟩ := h
  have ka28 : kO σ a28 111 := (hYσ.get hth (by decide)) a28 ea28
  have h := h ka28
  obtain ⟨q1, h⟩ := h
  refine W.eq (g2 := F0 m 20 ls [.int (i32 v3), .ref a28]) (by rw [ea28]; rfl) ?_
  refine y_aald B hH (t0 := 4) ka28 (by decide) K.2.1.2.1 q1 (hYσ.2 _) dX7_acceptAll_20 ?_
  obtain ⟨a29, ea29, h⟩ := h
  have ka29 : kO σ a29 1 := (hYσ.get ka28 rfl) a29 ea29
  have h := h ka29
  refine W.eq (g2 := F0 m 21 ls [.ref a29]) (by rw [ea29]; rfl) ?_
  refine f_getp B hH ka29 (by decide) rfl wu_X1 0 (by decide) wf_X7_123 rfl rfl dX7_acceptAll_21 ?_
  refine lv_astoreQ (lv' := [(4, va_rf (gP σ a29 0)), (0, .ref th), (1, va_rf v1), (2, .int (i32 v2)), (3, .int (i32 v3))]) B.1 B.2.1 dX7_acceptAll_24 hl (by decide) rfl (fun ls hl => ?_)
  obtain ⟨n9, h⟩ := h
  exact al_X7_acceptAll_26 K hQ hX hTh n9 _ _ _ _ g1 g2 (hYσ.get ka29 (by decide)) h hGσ hYσ hE hth _ _ _ hH (lv_sub (l' := [(0, .ref th), (1, va_rf v1), (2, .int (i32 v2)), (4, va_rf (gP σ a29 0))]) hl [1, 2, 3, 0] rfl) hc
set_option maxRecDepth 20000 in
theorem a_X7_acceptAll_5 {Q : Sg → Unit → Prop} {X : Sg → String → Prop} {th : Nat} (K : MD l R p s m args c cX7_acceptAll 5 RX7 D cA tys A n0 s0 11 223 []) (hQ : CQV p l e R s m args below meth c cX7_acceptAll D cA A n0 s0 QM σi Q) (hX : CX p l e R s m args below meth c 5 D cA A n0 s0 QM σi X) (hTh : CT p l e R s m args below meth c cX7_acceptAll 5 D cA A n0 s0 QM σi RX7 X) : ∀ (σ : Sg) (v1 : Option Nat) (v2 : Int) (v3 : Int) (g1 : tyV σ 5 v1) (g2 : rng v2) (g3 : rng v3), w_X7_acceptAll_5 th Q X σ v1 v2 v3 → RG σ → TY σ → Ext σi σ → kO σ th 7 → JJ p l e R s m args below meth c 5 D cA A n0 s0 QM σ 5 [(0, .ref th), (1, va_rf v1), (2, .int (i32 v2)), (3, .int (i32 v3))] [] := by
  intro σ v1 v2 v3 g1 g2 g3 h hGσ hYσ hE hth H locs ls hH hl hc
  have B := K.1
  have hl9 := K.2.2.2.2.2.2
  unfold w_X7_acceptAll_5 at h
  refine lv_aload_nQ B.1 B.2.1 dX7_acceptAll_5 rfl (lv_at hl 1 rfl) ?_
  obtain ⟨a30, ea30, h⟩ := h
  have ka30 : kO σ a30 5 := g1 a30 ea30
  have h := h ka30
  refine W.eq (g2 := F0 m 6 ls [.ref a30]) (by rw [ea30]; rfl) ?_
  refine f_geti B hH ka30 (by decide) rfl wu_X5 6 (by decide) wf_X7_120 rfl rfl dX7_acceptAll_6 ?_
  refine lv_bipush (v := i32 11) B.1 B.2.1 dX7_acceptAll_9 (by decide) ?_
  refine lv_icmp_ne (tgt := 15) B.1 B.2.1 dX7_acceptAll_11 (by decide) (fun h9 => ?_) (fun h9 => ?_)
  · rw [if_pos (fun q => h9 ((i32_eq (hGσ _ _) (by unfold rng; omega)).mpr q))] at h
    exact a_X7_acceptAll_15 K hQ hX hTh _ _ _ _ g1 g2 g3 h hGσ hYσ hE hth _ _ _ hH (lv_sub (l' := [(0, .ref th), (1, va_rf v1), (2, .int (i32 v2)), (3, .int (i32 v3))]) hl [0, 1, 2, 3] rfl) hc
  · rw [if_neg (fun q => q ((i32_eq (hGσ _ _) (by unfold rng; omega)).mp h9))] at h
    exact a_X7_acceptAll_14 K hQ hX hTh _ h hGσ hYσ hE hth _ _ _ hH (lv_sub (l' := [(0, .ref th)]) hl [0] rfl) hc
set_option maxRecDepth 20000 in
theorem a_X7_acceptAll_0 {Q : Sg → Unit → Prop} {X : Sg → String → Prop} {th : Nat} (K : MD l R p s m args c cX7_acceptAll 5 RX7 D cA tys A n0 s0 11 223 []) (hQ : CQV p l e R s m args below meth c cX7_acceptAll D cA A n0 s0 QM σi Q) (hX : CX p l e R s m args below meth c 5 D cA A n0 s0 QM σi X) (hTh : CT p l e R s m args below meth c cX7_acceptAll 5 D cA A n0 s0 QM σi RX7 X) : ∀ (σ : Sg) (v1 : Option Nat) (v2 : Int) (v3 : Int) (g1 : tyV σ 5 v1) (g2 : rng v2) (g3 : rng v3), w_X7_acceptAll_0 th Q X σ v1 v2 v3 → RG σ → TY σ → Ext σi σ → kO σ th 7 → JJ p l e R s m args below meth c 5 D cA A n0 s0 QM σ 0 [(0, .ref th), (1, va_rf v1), (2, .int (i32 v2)), (3, .int (i32 v3))] [] := by
  intro σ v1 v2 v3 g1 g2 g3 h hGσ hYσ hE hth H locs ls hH hl hc
  have B := K.1
  have hl9 := K.2.2.2.2.2.2
  unfold w_X7_acceptAll_0 at h
  refine lv_iload_n B.1 B.2.1 dX7_acceptAll_0 rfl (lv_at hl 3 rfl) ?_
  refine lv_iconst (v := i32 (-1)) B.1 B.2.1 dX7_acceptAll_1 (by decide) ?_
  refine lv_icmp_eq (tgt := 14) B.1 B.2.1 dX7_acceptAll_2 (by decide) (fun h9 => ?_) (fun h9 => ?_)
  · rw [if_pos ((i32_eq g3 (by unfold rng; omega)).mp h9)] at h
    exact a_X7_acceptAll_14 K hQ hX hTh _ h hGσ hYσ hE hth _ _ _ hH (lv_sub (l' := [(0, .ref th)]) hl [0] rfl) hc
  · rw [if_neg (fun q => h9 ((i32_eq g3 (by unfold rng; omega)).mpr q))] at h
    exact a_X7_acceptAll_5 K hQ hX hTh _ _ _ _ g1 g2 g3 h hGσ hYσ hE hth _ _ _ hH (lv_sub (l' := [(0, .ref th), (1, va_rf v1), (2, .int (i32 v2)), (3, .int (i32 v3))]) hl [0, 1, 2, 3] rfl) hc
theorem ok_X7_acceptAll (hl0 : l.stackTraces = false) (hT : TyC cA tys) {Q : Sg → Unit → Prop} {X : Sg → String → Prop} (σ : Sg) (th : Nat) (v1 : Option Nat) (v2 : Int) (v3 : Int) (g1 : tyV σ 5 v1) (g2 : rng v2) (g3 : rng v3) (hth : kO σ th 7) (hG : RG σ) (hY : TY σ) (h : wp_X7_acceptAll th v1 v2 v3 σ Q X) : Ok l D cA tys A yX7_acceptAll (.code yX7_acceptAll cX7_acceptAll 5 none) 11 223 [.ref th, va_rf v1, .int (i32 v2), .int (i32 v3)] σ (QcV σ Q) (QxC σ X) := by
  unfold wp_X7_acceptAll at h
  exact oc_V hl0 (by decide) (by cases v1 <;> exact Nat.le_of_ble_eq_true rfl) hT (fun p e R s m args below meth c K hQ hX hTh hin9 H locs ls hH hl hc => a_X7_acceptAll_0 K hQ hX hTh σ v1 v2 v3 g1 g2 g3 h hG hY (Ext.rfl' σ) hth H locs ls hH (lv_sub (l' := [(0, .ref th), (1, va_rf v1), (2, .int (i32 v2)), (3, .int (i32 v3))]) hl [0, 1, 2, 3] (by cases v1 <;> rfl)) hc)
theorem dX7_hasSameRows_0 : decode cX7_hasSameRows 0 = .ok (.aload_n 1, 1) := by decide +kernel
theorem dX7_hasSameRows_1 : decode cX7_hasSameRows 1 = .ok (.getfield 146, 3) := by decide +kernel
theorem dX7_hasSameRows_4 : decode cX7_hasSameRows 4 = .ok (.aload_n 2, 1) := by decide +kernel
theorem dX7_hasSameRows_5 : decode cX7_hasSameRows 5 = .ok (.getfield 146, 3) := by decide +kernel
theorem dX7_hasSameRows_8 : decode cX7_hasSameRows 8 = .ok (.if_icmp .eq 5, 3) := by decide +kernel
theorem dX7_hasSameRows_11 : decode cX7_hasSameRows 11 = .ok (.iconst 0, 1) := by decide +kernel
theorem dX7_hasSameRows_12 : decode cX7_hasSameRows 12 = .ok (.ireturn, 1) := by decide +kernel
theorem dX7_hasSameRows_13 : decode cX7_hasSameRows 13 = .ok (.aload_n 0, 1) := by decide +kernel
theorem dX7_hasSameRows_14 : decode cX7_hasSameRows 14 = .ok (.getfield 33, 3) := by decide +kernel
theorem dX7_hasSameRows_17 : decode cX7_hasSameRows 17 = .ok (.aload_n 0, 1) := by decide +kernel
theorem dX7_hasSameRows_18 : decode cX7_hasSameRows 18 = .ok (.getfield 29, 3) := by decide +kernel
theorem dX7_hasSameRows_21 : decode cX7_hasSameRows 21 = .ok (.invokevirtual 102, 3) := by decide +kernel
theorem dX7_hasSameRows_24 : decode cX7_hasSameRows 24 = .ok (.aload_n 1, 1) := by decide +kernel
theorem dX7_hasSameRows_25 : decode cX7_hasSameRows 25 = .ok (.getfield 123, 3) := by decide +kernel
theorem dX7_hasSameRows_28 : decode cX7_hasSameRows 28 = .ok (.astore 4, 2) := by decide +kernel
theorem dX7_hasSameRows_30 : decode cX7_hasSameRows 30 = .ok (.aload 4, 2) := by decide +kernel
theorem dX7_hasSameRows_32 : decode cX7_hasSameRows 32 = .ok (.ifnull 31, 3) := by decide +kernel
theorem dX7_hasSameRows_35 : decode cX7_hasSameRows 35 = .ok (.aload_n 0, 1) := by decide +kernel
theorem dX7_hasSameRows_36 : decode cX7_hasSameRows 36 = .ok (.getfield 29, 3) := by decide +kernel
theorem dX7_hasSameRows_39 : decode cX7_hasSameRows 39 = .ok (.aload_n 0, 1) := by decide +kernel
theorem dX7_hasSameRows_40 : decode cX7_hasSameRows 40 = .ok (.getfield 33, 3) := by decide +kernel
theorem dX7_hasSameRows_43 : decode cX7_hasSameRows 43 = .ok (.aload 4, 2) := by decide +kernel
theorem dX7_hasSameRows_45 : decode cX7_hasSameRows 45 = .ok (.invokevirtual 126, 3) := by decide +kernel
theorem dX7_hasSameRows_48 : decode cX7_hasSameRows 48 = .ok (.iconst 1, 1) := by decide +kernel
theorem dX7_hasSameRows_49 : decode cX7_hasSameRows 49 = .ok (.iload_n 3, 1) := by decide +kernel
theorem dX7_hasSameRows_50 : decode cX7_hasSameRows 50 = .ok (.invokevirtual 190, 3) := by decide +kernel
theorem dX7_hasSameRows_53 : decode cX7_hasSameRows 53 = .ok (.aload 4, 2) := by decide +kernel
theorem dX7_hasSameRows_55 : decode cX7_hasSameRows 55 = .ok (.getfield 137, 3) := by decide +kernel
theorem dX7_hasSameRows_58 : decode cX7_hasSameRows 58 = .ok (.astore 4, 2) := by decide +kernel
theorem dX7_hasSameRows_60 : decode cX7_hasSameRows 60 = .ok (.goto (-30), 3) := by decide +kernel
theorem dX7_hasSameRows_63 : decode cX7_hasSameRows 63 = .ok (.aload_n 0, 1) := by decide +kernel
theorem dX7_hasSameRows_64 : decode cX7_hasSameRows 64 = .ok (.getfield 42, 3) := by decide +kernel
theorem dX7_hasSameRows_67 : decode cX7_hasSameRows 67 = .ok (.getfield 114, 3) := by decide +kernel
theorem dX7_hasSameRows_70 : decode cX7_hasSameRows 70 = .ok (.astore 4, 2) := by decide +kernel
theorem dX7_hasSameRows_72 : decode cX7_hasSameRows 72 = .ok (.aload_n 2, 1) := by decide +kernel
theorem dX7_hasSameRows_73 : decode cX7_hasSameRows 73 = .ok (.getfield 123, 3) := by decide +kernel
theorem dX7_hasSameRows_76 : decode cX7_hasSameRows 76 = .ok (.astore 5, 2) := by decide +kernel
theorem dX7_hasSameRows_78 : decode cX7_hasSameRows 78 = .ok (.aload 5, 2) := by decide +kernel
theorem dX7_hasSameRows_80 : decode cX7_hasSameRows 80 = .ok (.ifnull 29, 3) := by decide +kernel
theorem dX7_hasSameRows_83 : decode cX7_hasSameRows 83 = .ok (.aload 4, 2) := by decide +kernel
theorem dX7_hasSameRows_85 : decode cX7_hasSameRows 85 = .ok (.aload_n 0, 1) := by decide +kernel
theorem dX7_hasSameRows_86 : decode cX7_hasSameRows 86 = .ok (.getfield 33, 3) := by decide +kernel
theorem dX7_hasSameRows_89 : decode cX7_hasSameRows 89 = .ok (.aload 5, 2) := by decide +kernel
theorem dX7_hasSameRows_91 : decode cX7_hasSameRows 91 = .ok (.invokevirtual 126, 3) := by decide +kernel
theorem dX7_hasSameRows_94 : decode cX7_hasSameRows 94 = .ok (.iconst 1, 1) := by decide +kernel
theorem dX7_hasSameRows_95 : decode cX7_hasSameRows 95 = .ok (.iload_n 3, 1) := by decide +kernel
theorem dX7_hasSameRows_96 : decode cX7_hasSameRows 96 = .ok (.invokevirtual 190, 3) := by decide +kernel
theorem dX7_hasSameRows_99 : decode cX7_hasSameRows 99 = .ok (.aload 5, 2) := by decide +kernel
theorem dX7_hasSameRows_101 : decode cX7_hasSameRows 101 = .ok (.getfield 137, 3) := by decide +kernel
theorem dX7_hasSameRows_104 : decode cX7_hasSameRows 104 = .ok (.astore 5, 2) := by decide +kernel
theorem dX7_hasSameRows_106 : decode cX7_hasSameRows 106 = .ok (.goto (-28), 3) := by decide +kernel
theorem dX7_hasSameRows_109 : decode cX7_hasSameRows 109 = .ok (.iconst 1, 1) := by decide +kernel
theorem dX7_hasSameRows_110 : decode cX7_hasSameRows 110 = .ok (.istore 5, 2) := by decide +kernel
theorem dX7_hasSameRows_112 : decode cX7_hasSameRows 112 = .ok (.aload 4, 2) := by decide +kernel
theorem dX7_hasSameRows_114 : decode cX7_hasSameRows 114 = .ok (.getfield 123, 3) := by decide +kernel
theorem dX7_hasSameRows_117 : decode cX7_hasSameRows 117 = .ok (.astore 6, 2) := by decide +kernel
theorem dX7_hasSameRows_119 : decode cX7_hasSameRows 119 = .ok (.aload_n 0, 1) := by decide +kernel
theorem dX7_hasSameRows_120 : decode cX7_hasSameRows 120 = .ok (.getfield 29, 3) := by decide +kernel
theorem dX7_hasSameRows_123 : decode cX7_hasSameRows 123 = .ok (.getfield 123, 3) := by decide +kernel
theorem dX7_hasSameRows_126 : decode cX7_hasSameRows 126 = .ok (.astore 7, 2) := by decide +kernel
theorem dX7_hasSameRows_128 : decode cX7_hasSameRows 128 = .ok (.aload 7, 2) := by decide +kernel
theorem dX7_hasSameRows_130 : decode cX7_hasSameRows 130 = .ok (.ifnull 49, 3) := by decide +kernel
theorem dX7_hasSameRows_133 : decode cX7_hasSameRows 133 = .ok (.aload 6, 2) := by decide +kernel
theorem dX7_hasSameRows_135 : decode cX7_hasSameRows 135 = .ok (.ifnull 44, 3) := by decide +kernel
theorem dX7_hasSameRows_138 : decode cX7_hasSameRows 138 = .ok (.iload 5, 2) := by decide +kernel
theorem dX7_hasSameRows_140 : decode cX7_hasSameRows 140 = .ok (.ifCond .eq 19, 3) := by decide +kernel
theorem dX7_hasSameRows_143 : decode cX7_hasSameRows 143 = .ok (.aload 7, 2) := by decide +kernel
theorem dX7_hasSameRows_145 : decode cX7_hasSameRows 145 = .ok (.aload 6, 2) := by decide +kernel
theorem dX7_hasSameRows_147 : decode cX7_hasSameRows 147 = .ok (.iconst 1, 1) := by decide +kernel
theorem dX7_hasSameRows_148 : decode cX7_hasSameRows 148 = .ok (.iload_n 3, 1) := by decide +kernel
theorem dX7_hasSameRows_149 : decode cX7_hasSameRows 149 = .ok (.invokestatic 193, 3) := by decide +kernel
theorem dX7_hasSameRows_152 : decode cX7_hasSameRows 152 = .ok (.ifCond .ne 7, 3) := by decide +kernel
theorem dX7_hasSameRows_155 : decode cX7_hasSameRows 155 = .ok (.iconst 1, 1) := by decide +kernel
theorem dX7_hasSameRows_156 : decode cX7_hasSameRows 156 = .ok (.goto 4, 3) := by decide +kernel
theorem dX7_hasSameRows_159 : decode cX7_hasSameRows 159 = .ok (.iconst 0, 1) := by decide +kernel
theorem dX7_hasSameRows_160 : decode cX7_hasSameRows 160 = .ok (.istore 5, 2) := by decide +kernel
theorem dX7_hasSameRows_162 : decode cX7_hasSameRows 162 = .ok (.aload 6, 2) := by decide +kernel
theorem dX7_hasSameRows_164 : decode cX7_hasSameRows 164 = .ok (.getfield 137, 3) := by decide +kernel
theorem dX7_hasSameRows_167 : decode cX7_hasSameRows 167 = .ok (.astore 6, 2) := by decide +kernel
theorem dX7_hasSameRows_169 : decode cX7_hasSameRows 169 = .ok (.aload 7, 2) := by decide +kernel
theorem dX7_hasSameRows_171 : decode cX7_hasSameRows 171 = .ok (.getfield 137, 3) := by decide +kernel
theorem dX7_hasSameRows_174 : decode cX7_hasSameRows 174 = .ok (.astore 7, 2) := by decide +kernel
theorem dX7_hasSameRows_176 : decode cX7_hasSameRows 176 = .ok (.goto (-48), 3) := by decide +kernel
theorem dX7_hasSameRows_179 : decode cX7_hasSameRows 179 = .ok (.aload_n 0, 1) := by decide +kernel
theorem dX7_hasSameRows_180 : decode cX7_hasSameRows 180 = .ok (.getfield 33, 3) := by decide +kernel
theorem dX7_hasSameRows_183 : decode cX7_hasSameRows 183 = .ok (.aload 4, 2) := by decide +kernel
theorem dX7_hasSameRows_185 : decode cX7_hasSameRows 185 = .ok (.invokevirtual 102, 3) := by decide +kernel
theorem dX7_hasSameRows_188 : decode cX7_hasSameRows 188 = .ok (.iload 5, 2) := by decide +kernel
theorem dX7_hasSameRows_190 : decode cX7_hasSameRows 190 = .ok (.ireturn, 1) := by decide +kernel
set_option maxRecDepth 20000 in
theorem a_X7_hasSameRows_179 {Q : Sg → Int → Prop} {X : Sg → String → Prop} {th : Nat} (K : MD l R p s m args c cX7_hasSameRows 8 RX7 D cA tys A n0 s0 4 82 []) (hQ : CQZ p l e R s m args below meth c cX7_hasSameRows D cA A n0 s0 QM σi Q) (hX : CX p l e R s m args below meth c 8 D cA A n0 s0 QM σi X) (hTh : CT p l e R s m args below meth c cX7_hasSameRows 8 D cA A n0 s0 QM σi RX7 X) : ∀ (σ : Sg) (v4 : Option Nat) (v5 : Int) (g4 : tyV σ 1 v4) (g5 : rng v5), w_X7_hasSameRows_179 th Q X σ v4 v5 → RG σ → TY σ → Ext σi σ → kO σ th 7 → JJ p l e R s m args below meth c 8 D cA A n0 s0 QM σ 179 [(0, .ref th), (4, va_rf v4), (5, .int (i32 v5))] [] := by
  intro σ v4 v5 g4 g5 h hGσ hYσ hE hth H locs ls hH hl hc
  have B := K.1
  have hl9 := K.2.2.2.2.2.2
  unfold w_X7_hasSameRows_179 at h
  refine lv_aload_n B.1 B.2.1 dX7_hasSameRows_179 rfl (lv_at hl 0 rfl) ?_
  refine f_getp B hH hth (by decide) rfl wu_X7 0 (by decide) wf_X7_33 rfl rfl dX7_hasSameRows_180 ?_
  refine lv_aloadQ B.1 B.2.1 dX7_hasSameRows_183 (lv_at hl 1 rfl) ?_
  obtain ⟨a56, ea56, h⟩ := h
  have ka56 : kO σ a56 8 := (hYσ.get hth (by decide)) a56 ea56
  have h := h ka56
  refine W.eq (g2 := F0 m 185 ls [va_rf v4, .ref a56]) (by rw [ea56]; rfl) ?_
  refine c_V B hH hl hc K.2.2.1 (C := RX8) (T := TX8) (N := 3) (ci := 8) (As := [va_rf v4]) (ok_X8_releaseAll hl9 K.2.1 σ a56 v4 g4 ka56 hGσ hYσ h) wc_X7_102 1 hd_X8_releaseAll ⟨Nat.le_trans (Nat.le_of_ble_eq_true rfl) K.2.2.2.1, Nat.le_trans (Nat.le_of_ble_eq_true rfl) K.2.2.2.2.1⟩ ka56.1 ka56.2 (by decide) rfl rfl (rest := []) rfl (Nat.le_of_ble_eq_true rfl) dX7_hasSameRows_185 (fun σ55 w hq => ?_) (fun σ9 E9 hx9 => hX σ9 E9 _ _ _ (tb_out K.2.2.2.2.2.1 rfl) hx9.1 hx9.2.1 hx9.2.2.1 (hE.trans hx9.2.2.2))
  obtain ⟨rfl, h, hGσ55, hYσ55, xσ55⟩ := hq
  have h := h xσ55
  intro H locs ls hH hl hc
  refine W.eq (g2 := F0 m 188 ls []) (rfl) ?_
  try dsimp only at h
  refine lv_iload B.1 B.2.1 dX7_hasSameRows_188 (lv_at hl 2 rfl) ?_
  obtain ⟨qz, h⟩ := h
  exact hQ _ _ _ _ _ _ g5 qz dX7_hasSameRows_190 hH hc h hGσ55 hYσ55 (hE.trans xσ55)
set_option maxRecDepth 20000 in
theorem a_X7_hasSameRows_160 {Q : Sg → Int → Prop} {X : Sg → String → Prop} {th : Nat} (K : MD l R p s m args c cX7_hasSameRows 8 RX7 D cA tys A n0 s0 4 82 []) (hQ : CQZ p l e R s m args below meth c cX7_hasSameRows D cA A n0 s0 QM σi Q) (hX : CX p l e R s m args below meth c 8 D cA A n0 s0 QM σi X) (hTh : CT p l e R s m args below meth c cX7_hasSameRows 8 D cA A n0 s0 QM σi RX7 X) {K128 : Sg → Int → Option Nat → Int → Option Nat → Option Nat → Prop} (hK128 : ∀ (σ : Sg) (v3 : Int) (v4 : Option Nat) (v5 : Int) (v6 : Option Nat) (v7 : Option Nat) (g3 : rng v3) (g4 : tyV σ 1 v4) (g5 : rng v5) (g6 : tyV σ 0 v6) (g7 : tyV σ 0 v7), K128 σ v3 v4 v5 v6 v7 → RG σ → TY σ → Ext σi σ → kO σ th 7 → JJ p l e R s m args below meth c 8 D cA A n0 s0 QM σ 128 [(0, .ref th), (3, .int (i32 v3)), (4, va_rf v4), (5, .int (i32 v5)), (6, va_rf v6), (7, va_rf v7)] []) : ∀ (σ : Sg) (v3 : Int) (v4 : Option Nat) (v6 : Option Nat) (v7 : Option Nat) (u0 : Int) (g3 : rng v3) (g4 : tyV σ 1 v4) (g6 : tyV σ 0 v6) (g7 : tyV σ 0 v7) (gu0 : rng u0), w_X7_hasSameRows_160 th K128 Q X σ v3 v4 v6 v7 u0 → RG σ → TY σ → Ext σi σ → kO σ th 7 → JJ p l e R s m args below meth c 8 D cA A n0 s0 QM σ 160 [(0, .ref th), (3, .int (i32 v3)), (4, va_rf v4), (6, va_rf v6), (7, va_rf v7)] [.int (i32 u0)] := by
  intro σ v3 v4 v6 v7 u0 g3 g4 g6 g7 gu0 h hGσ hYσ hE hth H locs ls hH hl hc
  have B := K.1
  have hl9 := K.2.2.2.2.2.2
  unfold w_X7_hasSameRows_160 at h
  refine lv_istore (lv' := [(5, .int (i32 u0)), (0, .ref th), (3, .int (i32 v3)), (4, va_rf v4), (6, va_rf v6), (7, va_rf v7)]) B.1 B.2.1 dX7_hasSameRows_160 hl (by decide) (by generalize v4 = w9; cases w9 <;> rfl) (fun ls hl => ?_)
  refine lv_aloadQ B.1 B.2.1 dX7_hasSameRows_162 (lv_at hl 4 rfl) ?_
  obtain ⟨a57, ea57, h⟩ := h
  have ka57 : kO σ a57 0 := g6 a57 ea57
  have h := h ka57
  refine W.eq (g2 := F0 m 164 ls [.ref a57]) (by rw [ea57]; rfl) ?_
  refine f_getp B hH ka57 (by decide) rfl wu_X0 1 (by decide) wf_X7_137 rfl rfl dX7_hasSameRows_164 ?_
  refine lv_astoreQ (lv' := [(6, va_rf (gP σ a57 1)), (5, .int (i32 u0)), (0, .ref th), (3, .int (i32 v3)), (4, va_rf v4), (7, va_rf v7)]) B.1 B.2.1 dX7_hasSameRows_167 hl (by decide) rfl (fun ls hl => ?_)
  refine lv_aloadQ B.1 B.2.1 dX7_hasSameRows_169 (lv_at hl 5 rfl) ?_
  obtain ⟨a58, ea58, h⟩ := h
  have ka58 : kO σ a58 0 := g7 a58 ea58
  have h := h ka58
  refine W.eq (g2 := F0 m 171 ls [.ref a58]) (by rw [ea58]; rfl) ?_
  refine f_getp B hH ka58 (by decide) rfl wu_X0 1 (by decide) wf_X7_137 rfl rfl dX7_hasSameRows_171 ?_
  refine lv_astoreQ (lv' := [(7, va_rf (gP σ a58 1)), (6, va_rf (gP σ a57 1)), (5, .int (i32 u0)), (0, .ref th), (3, .int (i32 v3)), (4, va_rf v4)]) B.1 B.2.1 dX7_hasSameRows_174 hl (by decide) (by generalize (gP σ a57 1) = w9; cases w9 <;> rfl) (fun ls hl => ?_)
  refine lv_goto (tgt := 128) B.1 B.2.1 dX7_hasSameRows_176 (by decide) ?_
  exact hK128 _ _ _ _ _ _ g3 g4 gu0 (hYσ.get ka57 (by decide)) (hYσ.get ka58 (by decide)) h hGσ hYσ hE hth _ _ _ hH (lv_sub (l' := [(0, .ref th), (3, .int (i32 v3)), (4, va_rf v4), (5, .int (i32 u0)), (6, va_rf (gP σ a57 1)), (7, va_rf (gP σ a58 1))]) hl [3, 4, 5, 2, 1, 0] rfl) hc
set_option maxRecDepth 20000 in
theorem a_X7_hasSameRows_159 {Q : Sg → Int → Prop} {X : Sg → String → Prop} {th : Nat} (K : MD l R p s m args c cX7_hasSameRows 8 RX7 D cA tys A n0 s0 4 82 []) (hQ : CQZ p l e R s m args below meth c cX7_hasSameRows D cA A n0 s0 QM σi Q) (hX : CX p l e R s m args below meth c 8 D cA A n0 s0 QM σi X) (hTh : CT p l e R s m args below meth c cX7_hasSameRows 8 D cA A n0 s0 QM σi RX7 X) {K128 : Sg → Int → Option Nat → Int → Option Nat → Option Nat → Prop} (hK128 : ∀ (σ : Sg) (v3 : Int) (v4 : Option Nat) (v5 : Int) (v6 : Option Nat) (v7 : Option Nat) (g3 : rng v3) (g4 : tyV σ 1 v4) (g5 : rng v5) (g6 : tyV σ 0 v6) (g7 : tyV σ 0 v7), K128 σ v3 v4 v5 v6 v7 → RG σ → TY σ → Ext σi σ → kO σ th 7 → JJ p l e R s m args below meth c 8 D cA A n0 s0 QM σ 128 [(0, .ref th), (3, .int (i32 v3)), (4, va_rf v4), (5, .int (i32 v5)), (6, va_rf v6), (7, va_rf v7)] []) : ∀ (σ : Sg) (v3 : Int) (v4 : Option Nat) (v6 : Option Nat) (v7 : Option Nat) (g3 : rng v3) (g4 : tyV σ 1 v4) (g6 : tyV σ 0 v6) (g7 : tyV σ 0 v7), w_X7_hasSameRows_159 th K128 Q X σ v3 v4 v6 v7 → RG σ → TY σ → Ext σi σ → kO σ th 7 → JJ p l e R s m args below meth c 8 D cA A n0 s0 QM σ 159 [(0, .ref th), (3, .int (i32 v3)), (4, va_rf v4), (6, va_rf v6), (7, va_rf v7)] [] := by
  intro σ v3 v4 v6 v7 g3 g4 g6 g7 h hGσ hYσ hE hth H locs ls hH hl hc
  have B := K.1
  have hl9 := K.2.2.2.2.2.2
  unfold w_X7_hasSameRows_159 at h
  refine lv_iconst (v := i32 0) B.1 B.2.1 dX7_hasSameRows_159 (by decide) ?_
  exact a_X7_hasSameRows_160 K hQ hX hTh hK128 _ _ _ _ _ _ g3 g4 g6 g7 (by unfold rng; omega) h hGσ hYσ hE hth _ _ _ hH (lv_sub (l' := [(0, .ref th), (3, .int (i32 v3)), (4, va_rf v4), (6, va_rf v6), (7, va_rf v7)]) hl [0, 1, 2, 3, 4] rfl) hc
set_option maxRecDepth 20000 in
theorem a_X7_hasSameRows_155 {Q : Sg → Int → Prop} {X : Sg → String → Prop} {th : Nat} (K : MD l R p s m args c cX7_hasSameRows 8 RX7 D cA tys A n0 s0 4 82 []) (hQ : CQZ p l e R s m args below meth c cX7_hasSameRows D cA A n0 s0 QM σi Q) (hX : CX p l e R s m args below meth c 8 D cA A n0 s0 QM σi X) (hTh : CT p l e R s m args below meth c cX7_hasSameRows 8 D cA A n0 s0 QM σi RX7 X) {K128 : Sg → Int → Option Nat → Int → Option Nat → Option Nat → Prop} (hK128 : ∀ (σ : Sg) (v3 : Int) (v4 : Option Nat) (v5 : Int) (v6 : Option Nat) (v7 : Option Nat) (g3 : rng v3) (g4 : tyV σ 1 v4) (g5 : rng v5) (g6 : tyV σ 0 v6) (g7 : tyV σ 0 v7), K128 σ v3 v4 v5 v6 v7 → RG σ → TY σ → Ext σi σ → kO σ th 7 → JJ p l e R s m args below meth c 8 D cA A n0 s0 QM σ 128 [(0, .ref th), (3, .int (i32 v3)), (4, va_rf v4), (5, .int (i32 v5)), (6, va_rf v6), (7, va_rf v7)] []) : ∀ (σ : Sg) (v3 : Int) (v4 : Option Nat) (v6 : Option Nat) (v7 : Option Nat) (g3 : rng v3) (g4 : tyV σ 1 v4) (g6 : tyV σ 0 v6) (g7 : tyV σ 0 v7), w_X7_hasSameRows_155 th K128 Q X σ v3 v4 v6 v7 → RG σ → TY σ → Ext σi σ → kO σ th 7 → JJ p l e R s m args below meth c 8 D cA A n0 s0 QM σ 155 [(0, .ref th), (3, .int (i32 v3)), (4, va_rf v4), (6, va_rf v6), (7, va_rf v7)] [] := by
  intro σ v3 v4 v6 v7 g3 g4 g6 g7 h hGσ hYσ hE hth H locs ls hH hl hc
  have B := K.1
  have hl9 := K.2.2.2.2.2.2
  unfold w_X7_hasSameRows_155 at h
  refine lv_iconst (v := i32 1) B.1 B.2.1 dX7_hasSameRows_155 (by decide) ?_
  refine lv_goto (tgt := 160) B.1 B.2.1 dX7_hasSameRows_156 (by decide) ?_
  exact a_X7_hasSameRows_160 K hQ hX hTh hK128 _ _ _ _ _ _ g3 g4 g6 g7 (by unfold rng; omega) h hGσ hYσ hE hth _ _ _ hH (lv_sub (l' := [(0, .ref th), (3, .int (i32 v3)), (4, va_rf v4), (6, va_rf v6), (7, va_rf v7)]) hl [0, 1, 2, 3, 4] rfl) hc
set_option maxRecDepth 20000 in
theorem a_X7_hasSameRows_143 {Q : Sg → Int → Prop} {X : Sg → String → Prop} {th : Nat} (K : MD l R p s m args c cX7_hasSameRows 8 RX7 D cA tys A n0 s0 4 82 []) (hQ : CQZ p l e R s m args below meth c cX7_hasSameRows D cA A n0 s0 QM σi Q) (hX : CX p l e R s m args below meth c 8 D cA A n0 s0 QM σi X) (hTh : CT p l e R s m args below meth c cX7_hasSameRows 8 D cA A n0 s0 QM σi RX7 X) {K128 : Sg → Int → Option Nat → Int → Option Nat → Option Nat → Prop} (hK128 : ∀ (σ : Sg) (v3 : Int) (v4 : Option Nat) (v5 : Int) (v6 : Option Nat) (v7 : Option Nat) (g3 : rng v3) (g4 : tyV σ 1 v4) (g5 : rng v5) (g6 : tyV σ 0 v6) (g7 : tyV σ 0 v7), K128 σ v3 v4 v5 v6 v7 → RG σ → TY σ → Ext σi σ → kO σ th 7 → JJ p l e R s m args below meth c 8 D cA A n0 s0 QM σ 128 [(0, .ref th), (3, .int (i32 v3)), (4, va_rf v4), (5, .int (i32 v5)), (6, va_rf v6), (7, va_rf v7)] []) : ∀ (σ : Sg) (v3 : Int) (v4 : Option Nat) (v6 : Option Nat) (v7 : Option Nat) (g3 : rng v3) (g4 : tyV σ 1 v4) (g6 : tyV σ 0 v6) (g7 : tyV σ 0 v7), w_X7_hasSameRows_143 th K128 Q X σ v3 v4 v6 v7 → RG σ → TY σ → Ext σi σ → kO σ th 7 → JJ p l e R s m args below meth c 8 D cA A n0 s0 QM σ 143 [(0, .ref th), (3, .int (i32 v3)), (4, va_rf v4), (6, va_rf v6), (7, va_rf v7)] [] := by
  intro σ v3 v4 v6 v7 g3 g4 g6 g7 h hGσ hYσ hE hth H locs ls hH hl hc
  have B := K.1
  have hl9 := K.2.2.2.2.2.2
  unfold w_X7_hasSameRows_143 at h
  refine lv_aloadQ B.1 B.2.1 dX7_hasSameRows_143 (lv_at hl 4 rfl) ?_
  refine lv_aloadQ B.1 B.2.1 dX7_hasSameRows_145 (lv_at hl 3 rfl) ?_
  refine lv_iconst (v := i32 1) B.1 B.2.1 dX7_hasSameRows_147 (by decide) ?_
  refine lv_iload_n B.1 B.2.1 dX7_hasSameRows_148 rfl (lv_at hl 1 rfl) ?_
  refine W.eq (g2 := F0 m 149 ls [.int (i32 v3), .int (i32 1), va_rf v6, va_rf v7]) (rfl) ?_
  refine c_S B hH hl hc K.2.2.1 (As := [va_rf v7, va_rf v6, .int (i32 1), .int (i32 v3)]) (ok_X1_compare hl9 K.2.1 σ v7 v6 1 v3 g7 g6 (by unfold rng; omega) g3 hGσ hYσ h) wc_X7_193 4 hd_X1_compare ⟨Nat.le_trans (Nat.le_of_ble_eq_true rfl) K.2.2.2.1, Nat.le_trans (Nat.le_of_ble_eq_true rfl) K.2.2.2.2.1⟩ rfl (rest := []) rfl (Nat.le_of_ble_eq_true rfl) dX7_hasSameRows_149 (fun σ59 w hq => ?_) (fun σ9 E9 hx9 => hX σ9 E9 _ _ _ (tb_out K.2.2.2.2.2.1 rfl) hx9.1 hx9.2.1 hx9.2.2.1 (hE.trans hx9.2.2.2))
  obtain ⟨r60, rfl, gr60, h, hGσ59, hYσ59, xσ59⟩ := hq
  have h := h xσ59
  intro H locs ls hH hl hc
  refine W.eq (g2 := F0 m 152 ls [.int (i32 r60)]) (rfl) ?_
  try dsimp only at h
  refine lv_if_ne (tgt := 159) B.1 B.2.1 dX7_hasSameRows_152 (by decide) (fun h9 => ?_) (fun h9 => ?_)
  · rw [if_pos (fun q => h9 ((z_eq gr60).mpr q))] at h
    exact a_X7_hasSameRows_159 K hQ hX hTh hK128 _ _ _ _ _ g3 (g4.up xσ59) (g6.up xσ59) (g7.up xσ59) h hGσ59 hYσ59 (hE.trans xσ59) (hth.up xσ59) _ _ _ hH (lv_sub (l' := [(0, .ref th), (3, .int (i32 v3)), (4, va_rf v4), (6, va_rf v6), (7, va_rf v7)]) hl [0, 1, 2, 3, 4] rfl) hc
  · rw [if_neg (fun q => q ((z_eq gr60).mp h9))] at h
    exact a_X7_hasSameRows_155 K hQ hX hTh hK128 _ _ _ _ _ g3 (g4.up xσ59) (g6.up xσ59) (g7.up xσ59) h hGσ59 hYσ59 (hE.trans xσ59) (hth.up xσ59) _ _ _ hH (lv_sub (l' := [(0, .ref th), (3, .int (i32 v3)), (4, va_rf v4), (6, va_rf v6), (7, va_rf v7)]) hl [0, 1, 2, 3, 4] rfl) hc
set_option maxRecDepth 20000 in
theorem a_X7_hasSameRows_138 {Q : Sg → Int → Prop} {X : Sg → String → Prop} {th : Nat} (K : MD l R p s m args c cX7_hasSameRows 8 RX7 D cA tys A n0 s0 4 82 []) (hQ : CQZ p l e R s m args below meth c cX7_hasSameRows D cA A n0 s0 QM σi Q) (hX : CX p l e R s m args below meth c 8 D cA A n0 s0 QM σi X) (hTh : CT p l e R s m args below meth c cX7_hasSameRows 8 D cA A n0 s0 QM σi RX7 X) {K128 : Sg → Int → Option Nat → Int → Option Nat → Option Nat → Prop} (hK128 : ∀ (σ : Sg) (v3 : Int) (v4 : Option Nat) (v5 : Int) (v6 : Option Nat) (v7 : Option Nat) (g3 : rng v3) (g4 : tyV σ 1 v4) (g5 : rng v5) (g6 : tyV σ 0 v6) (g7 : tyV σ 0 v7), K128 σ v3 v4 v5 v6 v7 → RG σ → TY σ → Ext σi σ → kO σ th 7 → JJ p l e R s m args below meth c 8 D cA A n0 s0 QM σ 128 [(0, .ref th), (3, .int (i32 v3)), (4, va_rf v4), (5, .int (i32 v5)), (6, va_rf v6), (7, va_rf v7)] []) : ∀ (σ : Sg) (v3 : Int) (v4 : Option Nat) (v5 : Int) (v6 : Option Nat) (v7 : Option Nat) (g3 : rng v3) (g4 : tyV σ 1 v4) (g5 : rng v5) (g6 : tyV σ 0 v6) (g7 : tyV σ 0 v7), w_X7_hasSameRows_138 th K128 Q X σ v3 v4 v5 v6 v7 → RG σ → TY σ → Ext σi σ → kO σ th 7 → JJ p l e R s m args below meth c 8 D cA A n0 s0 QM σ 138 [(0, .ref th), (3, .int (i32 v3)), (4, va_rf v4), (5, .int (i32 v5)), (6, va_rf v6), (7, va_rf v7)] [] := by
  intro σ v3 v4 v5 v6 v7 g3 g4 g5 g6 g7 h hGσ hYσ hE hth H locs ls hH hl hc
  have B := K.1
  have hl9 := K.2.2.2.2.2.2
  unfold w_X7_hasSameRows_138 at h
  refine lv_iload B.1 B.2.1 dX7_hasSameRows_138 (lv_at hl 3 rfl) ?_
  refine lv_if_eq (tgt := 159) B.1 B.2.1 dX7_hasSameRows_140 (by decide) (fun h9 => ?_) (fun h9 => ?_)
  · rw [if_pos ((z_eq g5).mp h9)] at h
    exact a_X7_hasSameRows_159 K hQ hX hTh hK128 _ _ _ _ _ g3 g4 g6 g7 h hGσ hYσ hE hth _ _ _ hH (lv_sub (l' := [(0, .ref th), (3, .int (i32 v3)), (4, va_rf v4), (6, va_rf v6), (7, va_rf v7)]) hl [0, 1, 2, 4, 5] rfl) hc
  · rw [if_neg (fun q => h9 ((z_eq g5).mpr q))] at h
    exact a_X7_hasSameRows_143 K hQ hX hTh hK128 _ _ _ _ _ g3 g4 g6 g7 h hGσ hYσ hE hth _ _ _ hH (lv_sub (l' := [(0, .ref th), (3, .int (i32 v3)), (4, va_rf v4), (6, va_rf v6), (7, va_rf v7)]) hl [0, 1, 2, 4, 5] rfl) hc
set_option maxRecDepth 20000 in
theorem a_X7_hasSameRows_133 {Q : Sg → Int → Prop} {X : Sg → String → Prop} {th : Nat} (K : MD l R p s m args c cX7_hasSameRows 8 RX7 D cA tys A n0 s0 4 82 []) (hQ : CQZ p l e R s m args below meth c cX7_hasSameRows D cA A n0 s0 QM σi Q) (hX : CX p l e R s m args below meth c 8 D cA A n0 s0 QM σi X) (hTh : CT p l e R s m args below meth c cX7_hasSameRows 8 D cA A n0 s0 QM σi RX7 X) {K128 : Sg → Int → Option Nat → Int → Option Nat → Option Nat → Prop} (hK128 : ∀ (σ : Sg) (v3 : Int) (v4 : Option Nat) (v5 : Int) (v6 : Option Nat) (v7 : Option Nat) (g3 : rng v3) (g4 : tyV σ 1 v4) (g5 : rng v5) (g6 : tyV σ 0 v6) (g7 : tyV σ 0 v7), K128 σ v3 v4 v5 v6 v7 → RG σ → TY σ → Ext σi σ → kO σ th 7 → JJ p l e R s m args below meth c 8 D cA A n0 s0 QM σ 128 [(0, .ref th), (3, .int (i32 v3)), (4, va_rf v4), (5, .int (i32 v5)), (6, va_rf v6), (7, va_rf v7)] []) : ∀ (σ : Sg) (v3 : Int) (v4 : Option Nat) (v5 : Int) (v6 : Option Nat) (v7 : Option Nat) (g3 : rng v3) (g4 : tyV σ 1 v4) (g5 : rng v5) (g6 : tyV σ 0 v6) (g7 : tyV σ 0 v7), w_X7_hasSameRows_133 th K128 Q X σ v3 v4 v5 v6 v7 → RG σ → TY σ → Ext σi σ → kO σ th 7 → JJ p l e R s m args below meth c 8 D cA A n0 s0 QM σ 133 [(0, .ref th), (3, .int (i32 v3)), (4, va_rf v4), (5, .int (i32 v5)), (6, va_rf v6), (7, va_rf v7)] [] := by
  intro σ v3 v4 v5 v6 v7 g3 g4 g5 g6 g7 h hGσ hYσ hE hth H locs ls hH hl hc
  have B := K.1
  have hl9 := K.2.2.2.2.2.2
  unfold w_X7_hasSameRows_133 at h
  refine lv_aloadQ B.1 B.2.1 dX7_hasSameRows_133 (lv_at hl 4 rfl) ?_
  refine lv_ifnullQ (tgt := 179) B.1 B.2.1 dX7_hasSameRows_135 (by decide) (fun h9 => ?_) (fun h9 => ?_)
  · rw [if_pos (h9)] at h
    exact a_X7_hasSameRows_179 K hQ hX hTh _ _ _ g4 g5 h hGσ hYσ hE hth _ _ _ hH (lv_sub (l' := [(0, .ref th), (4, va_rf v4), (5, .int (i32 v5))]) hl [0, 2, 3] rfl) hc
  · rw [if_neg (h9)] at h
    exact a_X7_hasSameRows_138 K hQ hX hTh hK128 _ _ _ _ _ _ g3 g4 g5 g6 g7 h hGσ hYσ hE hth _ _ _ hH (lv_sub (l' := [(0, .ref th), (3, .int (i32 v3)), (4, va_rf v4), (5, .int (i32 v5)), (6, va_rf v6), (7, va_rf v7)]) hl [0, 1, 2, 3, 4, 5] rfl) hc
set_option maxRecDepth 20000 in
theorem a_X7_hasSameRows_128 {Q : Sg → Int → Prop} {X : Sg → String → Prop} {th : Nat} (K : MD l R p s m args c cX7_hasSameRows 8 RX7 D cA tys A n0 s0 4 82 []) (hQ : CQZ p l e R s m args below meth c cX7_hasSameRows D cA A n0 s0 QM σi Q) (hX : CX p l e R s m args below meth c 8 D cA A n0 s0 QM σi X) (hTh : CT p l e R s m args below meth c cX7_hasSameRows 8 D cA A n0 s0 QM σi RX7 X) {K128 : Sg → Int → Option Nat → Int → Option Nat → Option Nat → Prop} (hK128 : ∀ (σ : Sg) (v3 : Int) (v4 : Option Nat) (v5 : Int) (v6 : Option Nat) (v7 : Option Nat) (g3 : rng v3) (g4 : tyV σ 1 v4) (g5 : rng v5) (g6 : tyV σ 0 v6) (g7 : tyV σ 0 v7), K128 σ v3 v4 v5 v6 v7 → RG σ → TY σ → Ext σi σ → kO σ th 7 → JJ p l e R s m args below meth c 8 D cA A n0 s0 QM σ 128 [(0, .ref th), (3, .int (i32 v3)), (4, va_rf v4), (5, .int (i32 v5)), (6, va_rf v6), (7, va_rf v7)] []) : ∀ (σ : Sg) (v3 : Int) (v4 : Option Nat) (v5 : Int) (v6 : Option Nat) (v7 : Option Nat) (g3 : rng v3) (g4 : tyV σ 1 v4) (g5 : rng v5) (g6 : tyV σ 0 v6) (g7 : tyV σ 0 v7), w_X7_hasSameRows_128 th K128 Q X σ v3 v4 v5 v6 v7 → RG σ → TY σ → Ext σi σ → kO σ th 7 → JJ p l e R s m args below meth c 8 D cA A n0 s0 QM σ 128 [(0, .ref th), (3, .int (i32 v3)), (4, va_rf v4), (5, .int (i32 v5)), (6, va_rf v6), (7, va_rf v7)] [] := by
  intro σ v3 v4 v5 v6 v7 g3 g4 g5 g6 g7 h hGσ hYσ hE hth H locs ls hH hl hc
  have B := K.1
  have hl9 := K.2.2.2.2.2.2
  unfold w_X7_hasSameRows_128 at h
  refine lv_aloadQ B.1 B.2.1 dX7_hasSameRows_128 (lv_at hl 5 rfl) ?_
  refine lv_ifnullQ (tgt := 179) B.1 B.2.1 dX7_hasSameRows_130 (by decide) (fun h9 => ?_) (fun h9 => ?_)
  · rw [if_pos (h9)] at h
    exact a_X7_hasSameRows_179 K hQ hX hTh _ _ _ g4 g5 h hGσ hYσ hE hth _ _ _ hH (lv_sub (l' := [(0, .ref th), (4, va_rf v4), (5, .int (i32 v5))]) hl [0, 2, 3] rfl) hc
  · rw [if_neg (h9)] at h
    exact a_X7_hasSameRows_133 K hQ hX hTh hK128 _ _ _ _ _ _ g3 g4 g5 g6 g7 h hGσ hYσ hE hth _ _ _ hH (lv_sub (l' := [(0, .ref th), (3, .int (i32 v3)), (4, va_rf v4), (5, .int (i32 v5)), (6, va_rf v6), (7, va_rf v7)]) hl [0, 1, 2, 3, 4, 5] rfl) hc
theorem al_X7_hasSameRows_128 {Q : Sg → Int → Prop} {X : Sg → String → Prop} {th : Nat} (K : MD l R p s m args c cX7_hasSameRows 8 RX7 D cA tys A n0 s0 4 82 []) (hQ : CQZ p l e R s m args below meth c cX7_hasSameRows D cA A n0 s0 QM σi Q) (hX : CX p l e R s m args below meth c 8 D cA A n0 s0 QM σi X) (hTh : CT p l e R s m args below meth c cX7_hasSameRows 8 D cA A n0 s0 QM σi RX7 X) : ∀ (n : Nat), ∀ (σ : Sg) (v3 : Int) (v4 : Option Nat) (v5 : Int) (v6 : Option Nat) (v7 : Option Nat) (g3 : rng v3) (g4 : tyV σ 1 v4) (g5 : rng v5) (g6 : tyV σ 0 v6) (g7 : tyV σ 0 v7), wl_X7_hasSameRows_128 th Q X n σ v3 v4 v5 v6 v7 → RG σ → TY σ → Ext σi σ → kO σ th 7 → JJ p l e R s m args below meth c 8 D cA A n0 s0 QM σ 128 [(0, .ref th), (3, .int (i32 v3)), (4, va_rf v4), (5, .int (i32 v5)), (6, va_rf v6), (7, va_rf v7)] [] := by
  intro n
  induction n with
  | zero => intro σ v3 v4 v5 v6 v7 g3 g4 g5 g6 g7 h; exact h.elim
  | succ n ih => exact fun σ v3 v4 v5 v6 v7 g3 g4 g5 g6 g7 h => a_X7_hasSameRows_128 K hQ hX hTh ih σ v3 v4 v5 v6 v7 g3 g4 g5 g6 g7 h
set_option maxRecDepth 20000 in
theorem a_X7_hasSameRows_109 {Q : Sg → Int → Prop} {X : Sg → String → Prop} {th : Nat} (K : MD l R p s m args c cX7_hasSameRows 8 RX7 D cA tys A n0 s0 4 82 []) (hQ : CQZ p l e R s m args below meth c cX7_hasSameRows D cA A n0 s0 QM σi Q) (hX : CX p l e R s m args below meth c 8 D cA A n0 s0 QM σi X) (hTh : CT p l e R s m args below meth c cX7_hasSameRows 8 D cA A n0 s0 QM σi RX7 X) : ∀ (σ : Sg) (v3 : Int) (v4 : Option Nat) (g3 : rng v3) (g4 : tyV σ 1 v4), w_X7_hasSameRows_109 th Q X σ v3 v4 → RG σ → TY σ → Ext σi σ → kO σ th 7 → JJ p l e R s m args below meth c 8 D cA A n0 s0 QM σ 109 [(0, .ref th), (3, .int (i32 v3)), (4, va_rf v4)] [] := by
  intro σ v3 v4 g3 g4 h hGσ hYσ hE hth H locs ls hH hl hc
  have B := K.1
  have hl9 := K.2.2.2.2.2.2
  unfold w_X7_hasSameRows_109 at h
  refine lv_iconst (v := i32 1) B.1 B.2.1 dX7_hasSameRows_109 (by decide) ?_
  refine lv_istore (lv' := [(5, .int (i32 1)), (0, .ref th), (3, .int (i32 v3)), (4, va_rf v4)]) B.1 B.2.1 dX7_hasSameRows_110 hl (by decide) (by generalize v4 = w9; cases w9 <;> rfl) (fun ls hl => ?_)
  refine lv_aloadQ B.1 B.2.1 dX7_hasSameRows_112 (lv_at hl 3 rfl) ?_
  obtain ⟨a61, ea61, h⟩ := h
  have ka61 : kO σ a61 1 := g4 a61 ea61
  have h := h ka61
  refine W.eq (g2 := F0 m 114 ls [.ref a61]) (by rw [ea61]; rfl) ?_
  refine f_getp B hH ka61 (by decide) rfl wu_X1 0 (by decide) wf_X7_123 rfl rfl dX7_hasSameRows_114 ?_
  refine lv_astoreQ (lv' := [(6, va_rf (gP σ a61 0)), (5, .int (i32 1)), (0, .ref th), (3, .int (i32 v3)), (4, va_rf v4)]) B.1 B.2.1 dX7_hasSameRows_117 hl (by decide) rfl (fun ls hl => ?_)
  refine lv_aload_n B.1 B.2.1 dX7_hasSameRows_119 rfl (lv_at hl 2 rfl) ?_
  refine f_getp B hH hth (by decide) rfl wu_X7 4 (by decide) wf_X7_29 rfl rfl dX7_hasSameRows_120 ?_
  obtain ⟨a62, ea62, h⟩ := h
  have ka62 : kO σ a62 1 := (hYσ.get hth (by decide)) a62 ea62
  have h := h ka62
  refine W.eq (g2 := F0 m 123 ls [.ref a62]) (by rw [ea62]; rfl) ?_
  refine f_getp B hH ka62 (by decide) rfl wu_X1 0 (by decide) wf_X7_123 rfl rfl dX7_hasSameRows_123 ?_
  refine lv_astoreQ (lv' := [(7, va_rf (gP σ a62 0)), (6, va_rf (gP σ a61 0)), (5, .int (i32 1)), (0, .ref th), (3, .int (i32 v3)), (4, va_rf v4)]) B.1 B.2.1 dX7_hasSameRows_126 hl (by decide) (by generalize (gP σ a61 0) = w9; cases w9 <;> rfl) (fun ls hl => ?_)
  obtain ⟨n9, h⟩ := h
  exact al_X7_hasSameRows_128 K hQ hX hTh n9 _ _ _ _ _ _ g3 g4 (by unfold rng; omega) (hYσ.get ka61 (by decide)) (hYσ.get ka62 (by decide)) h hGσ hYσ hE hth _ _ _ hH (lv_sub (l' := [(0, .ref th), (3, .int (i32 v3)), (4, va_rf v4), (5, .int (i32 1)), (6, va_rf (gP σ a61 0)), (7, va_rf (gP σ a62 0))]) hl [3, 4, 5, 2, 1, 0] rfl) hc
set_option maxRecDepth 20000 in
theorem a_X7_hasSameRows_83 {Q : Sg → Int → Prop} {X : Sg → String → Prop} {th : Nat} (K : MD l R p s m args c cX7_hasSameRows 8 RX7 D cA tys A n0 s0 4 82 []) (hQ : CQZ p l e R s m args below meth c cX7_hasSameRows D cA A n0 s0 QM σi Q) (hX : CX p l e R s m args below meth c 8 D cA A n0 s0 QM σi X) (hTh : CT p l e R s m args below meth c cX7_hasSameRows 8 D cA A n0 s0 QM σi RX7 X) {K78 : Sg → Int → Option Nat → Option Nat → Prop} (hK78 : ∀ (σ : Sg) (v3 : Int) (v4 : Option Nat) (v5 : Option Nat) (g3 : rng v3) (g4 : tyV σ 1 v4) (g5 : tyV σ 0 v5), K78 σ v3 v4 v5 → RG σ → TY σ → Ext σi σ → kO σ th 7 → JJ p l e R s m args below meth c 8 D cA A n0 s0 QM σ 78 [(0, .ref th), (3, .int (i32 v3)), (4, va_rf v4), (5, va_rf v5)] []) : ∀ (σ : Sg) (v3 : Int) (v4 : Option Nat) (v5 : Option Nat) (g3 : rng v3) (g4 : tyV σ 1 v4) (g5 : tyV σ 0 v5), w_X7_hasSameRows_83 th K78 Q X σ v3 v4 v5 → RG σ → TY σ → Ext σi σ → kO σ th 7 → JJ p l e R s m args below meth c 8 D cA A n0 s0 QM σ 83 [(0, .ref th), (3, .int (i32 v3)), (4, va_rf v4), (5, va_rf v5)] [] := by
  intro σ v3 v4 v5 g3 g4 g5 h hGσ hYσ hE hth H locs ls hH hl hc
  have B := K.1
  have hl9 := K.2.2.2.2.2.2
  unfold w_X7_hasSameRows_83 at h
  refine lv_aloadQ B.1 B.2.1 dX7_hasSameRows_83 (lv_at hl 2 rfl) ?_
  refine lv_aload_n B.1 B.2.1 dX7_hasSameRows_85 rfl (lv_at hl 0 rfl) ?_
  refine f_getp B hH hth (by decide) rfl wu_X7 0 (by decide) wf_X7_33 rfl rfl dX7_hasSameRows_86 ?_
  refine lv_aloadQ B.1 B.2.1 dX7_hasSameRows_89 (lv_at hl 3 rfl) ?_
  obtain ⟨a65, ea65, h⟩ := h
  have ka65 : kO σ a65 8 := (hYσ.get hth (by decide)) a65 ea65
  have h := h ka65
  refine W.eq (g2 := F0 m 91 ls [va_rf v5, .ref a65, va_rf v4]) (by rw [ea65]; rfl) ?_
  refine c_V B hH hl hc K.2.2.1 (C := RX8) (T := TX8) (N := 3) (ci := 8) (As := [va_rf v5]) (ok_X8_copyOf hl9 K.2.1 σ a65 v5 g5 ka65 hGσ hYσ h) wc_X7_126 1 hd_X8_copyOf ⟨Nat.le_trans (Nat.le_of_ble_eq_true rfl) K.2.2.2.1, Nat.le_trans (Nat.le_of_ble_eq_true rfl) K.2.2.2.2.1⟩ ka65.1 ka65.2 (by decide) rfl rfl (rest := [va_rf v4]) rfl (by simp only [List.map_cons, List.map_nil, rf_cat]; exact Nat.le_of_ble_eq_true rfl) dX7_hasSameRows_91 (fun σ63 w hq => ?_) (fun σ9 E9 hx9 => hX σ9 E9 _ _ _ (tb_out K.2.2.2.2.2.1 rfl) hx9.1 hx9.2.1 hx9.2.2.1 (hE.trans hx9.2.2.2))
  obtain ⟨r64, rfl, tr64, h, hGσ63, hYσ63, xσ63⟩ := hq
  have h := h xσ63 tr64
  intro H locs ls hH hl hc
  refine W.eq (g2 := F0 m 94 ls [va_rf r64, va_rf v4]) (rfl) ?_
  try dsimp only at h
  refine lv_iconst (v := i32 1) B.1 B.2.1 dX7_hasSameRows_94 (by decide) ?_
  refine lv_iload_n B.1 B.2.1 dX7_hasSameRows_95 rfl (lv_at hl 1 rfl) ?_
  obtain ⟨a67, ea67, h⟩ := h
  have ka67 : kO σ63 a67 1 := (g4.up xσ63) a67 ea67
  have h := h ka67
  refine W.eq (g2 := F0 m 96 ls [.int (i32 v3), .int (i32 1), va_rf r64, .ref a67]) (by rw [ea67]; rfl) ?_
  refine c_V B hH hl hc K.2.2.1 (C := RX1) (T := TX1) (N := 3) (ci := 1) (As := [va_rf r64, .int (i32 1), .int (i32 v3)]) (ok_X1_insert hl9 K.2.1 σ63 a67 r64 1 v3 tr64 (by unfold rng; omega) g3 ka67 hGσ63 hYσ63 h) wc_X7_190 3 hd_X1_insert ⟨Nat.le_trans (Nat.le_of_ble_eq_true rfl) K.2.2.2.1, Nat.le_trans (Nat.le_of_ble_eq_true rfl) K.2.2.2.2.1⟩ ka67.1 ka67.2 (by decide) rfl rfl (rest := []) rfl (Nat.le_of_ble_eq_true rfl) dX7_hasSameRows_96 (fun σ66 w hq => ?_) (fun σ9 E9 hx9 => hX σ9 E9 _ _ _ (tb_out K.2.2.2.2.2.1 rfl) hx9.1 hx9.2.1 hx9.2.2.1 ((hE.trans xσ63).trans hx9.2.2.2))
  obtain ⟨rfl, h, hGσ66, hYσ66, xσ66⟩ := hq
  have h := h xσ66
  intro H locs ls hH hl hc
  refine W.eq (g2 := F0 m 99 ls []) (rfl) ?_
  try dsimp only at h
  refine lv_aloadQ B.1 B.2.1 dX7_hasSameRows_99 (lv_at hl 3 rfl) ?_
  obtain ⟨a68, ea68, h⟩ := h
  have ka68 : kO σ66 a68 0 := (g5.up (xσ63.trans xσ66)) a68 ea68
  have h := h ka68
  refine W.eq (g2 := F0 m 101 ls [.ref a68]) (by rw [ea68]; rfl) ?_
  refine f_getp B hH ka68 (by decide) rfl wu_X0 1 (by decide) wf_X7_137 rfl rfl dX7_hasSameRows_101 ?_
  refine lv_astoreQ (lv' := [(5, va_rf (gP σ66 a68 1)), (0, .ref th), (3, .int (i32 v3)), (4, va_rf v4)]) B.1 B.2.1 dX7_hasSameRows_104 hl (by decide) (by generalize v4 = w9; cases w9 <;> rfl) (fun ls hl => ?_)
  refine lv_goto (tgt := 78) B.1 B.2.1 dX7_hasSameRows_106 (by decide) ?_
  exact hK78 _ _ _ _ g3 (g4.up (xσ63.trans xσ66)) (hYσ66.get ka68 (by decide)) h hGσ66 hYσ66 ((hE.trans xσ63).trans xσ66) (hth.up (xσ63.trans xσ66)) _ _ _ hH (lv_sub (l' := [(0, .ref th), (3, .int (i32 v3)), (4, va_rf v4), (5, va_rf (gP σ66 a68 1))]) hl [1, 2, 3, 0] rfl) hc
set_option maxRecDepth 20000 in
theorem a_X7_hasSameRows_78 {Q : Sg → Int → Prop} {X : Sg → String → Prop} {th : Nat} (K : MD l R p s m args c cX7_hasSameRows 8 RX7 D cA tys A n0 s0 4 82 []) (hQ : CQZ p l e R s m args below meth c cX7_hasSameRows D cA A n0 s0 QM σi Q) (hX : CX p l e R s m args below meth c 8 D cA A n0 s0 QM σi X) (hTh : CT p l e R s m args below meth c cX7_hasSameRows 8 D cA A n0 s0 QM σi RX7 X) {K78 : Sg → Int → Option Nat → Option Nat → Prop} (hK78 : ∀ (σ : Sg) (v3 : Int) (v4 : Option Nat) (v5 : Option Nat) (g3 : rng v3) (g4 : tyV σ 1 v4) (g5 : tyV σ 0 v5), K78 σ v3 v4 v5 → RG σ → TY σ → Ext σi σ → kO σ th 7 → JJ p l e R s m args below meth c 8 D cA A n0 s0 QM σ 78 [(0, .ref th), (3, .int (i32 v3)), (4, va_rf v4), (5, va_rf v5)] []) : ∀ (σ : Sg) (v3 : Int) (v4 : Option Nat) (v5 : Option Nat) (g3 : rng v3) (g4 : tyV σ 1 v4) (g5 : tyV σ 0 v5), w_X7_hasSameRows_78 th K78 Q X σ v3 v4 v5 → RG σ → TY σ → Ext σi σ → kO σ th 7 → JJ p l e R s m args below meth c 8 D cA A n0 s0 QM σ 78 [(0, .ref th), (3, .int (i32 v3)), (4, va_rf v4), (5, va_rf v5)] [] := by
  intro σ v3 v4 v5 g3 g4 g5 h hGσ hYσ hE hth H locs ls hH hl hc
  have B := K.1
  have hl9 := K.2.2.2.2.2.2
  unfold w_X7_hasSameRows_78 at h
  refine lv_aloadQ B.1 B.2.1 dX7_hasSameRows_78 (lv_at hl 3 rfl) ?_
  refine lv_ifnullQ (tgt := 109) B.1 B.2.1 dX7_hasSameRows_80 (by decide) (fun h9 => ?_) (fun h9 => ?_)
  · rw [if_pos (h9)] at h
    exact a_X7_hasSameRows_109 K hQ hX hTh _ _ _ g3 g4 h hGσ hYσ hE hth _ _ _ hH (lv_sub (l' := [(0, .ref th), (3, .int (i32 v3)), (4, va_rf v4)]) hl [0, 1, 2] rfl) hc
  · rw [if_neg (h9)] at h
    exact a_X7_hasSameRows_83 K hQ hX hTh hK78 _ _ _ _ g3 g4 g5 h hGσ hYσ hE hth _ _ _ hH (lv_sub (l' := [(0, .ref th), (3, .int (i32 v3)), (4, va_rf v4), (5, va_rf v5)]) hl [0, 1, 2, 3] rfl) hc
theorem al_X7_hasSameRows_78 {Q : Sg → Int → Prop} {X : Sg → String → Prop} {th : Nat} (K : MD l R p s m args c cX7_hasSameRows 8 RX7 D cA tys A n0 s0 4 82 []) (hQ : CQZ p l e R s m args below meth c cX7_hasSameRows D cA A n0 s0 QM σi Q) (hX : CX p l e R s m args below meth c 8 D cA A n0 s0 QM σi X) (hTh : CT p l e R s m args below meth c cX7_hasSameRows 8 D cA A n0 s0 QM σi RX7 X) : ∀ (n : Nat), ∀ (σ : Sg) (v3 : Int) (v4 : Option Nat) (v5 : Option Nat) (g3 : rng v3) (g4 : tyV σ 1 v4) (g5 : tyV σ 0 v5), wl_X7_hasSameRows_78 th Q X n σ v3 v4 v5 → RG σ → TY σ → Ext σi σ → kO σ th 7 → JJ p l e R s m args below meth c 8 D cA A n0 s0 QM σ 78 [(0, .ref th), (3, .int (i32 v3)), (4, va_rf v4), (5, va_rf v5)] [] := by
  intro n
  induction n with
  | zero => intro σ v3 v4 v5 g3 g4 g5 h; exact h.elim
  | succ n ih => exact fun σ v3 v4 v5 g3 g4 g5 h => a_X7_hasSameRows_78 K hQ hX hTh ih σ v3 v4 v5 g3 g4 g5 h
set_option maxRecDepth 20000 in
theorem a_X7_hasSameRows_63 {Q : Sg → Int → Prop} {X : Sg → String → Prop} {th : Nat} (K : MD l R p s m args c cX7_hasSameRows 8 RX7 D cA tys A n0 s0 4 82 []) (hQ : CQZ p l e R s m args below meth c cX7_hasSameRows D cA A n0 s0 QM σi Q) (hX : CX p l e R s m args below meth c 8 D cA A n0 s0 QM σi X) (hTh : CT p l e R s m args below meth c cX7_hasSameRows 8 D cA A n0 s0 QM σi RX7 X) : ∀ (σ : Sg) (v2 : Option Nat) (v3 : Int) (g2 : tyV σ 1 v2) (g3 : rng v3), w_X7_hasSameRows_63 th Q X σ v2 v3 → RG σ → TY σ → Ext σi σ → kO σ th 7 → JJ p l e R s m args below meth c 8 D cA A n0 s0 QM σ 63 [(0, .ref th), (2, va_rf v2), (3, .int (i32 v3))] [] := by
  intro σ v2 v3 g2 g3 h hGσ hYσ hE hth H locs ls hH hl hc
  have B := K.1
  have hl9 := K.2.2.2.2.2.2
  unfold w_X7_hasSameRows_63 at h
  refine lv_aload_n B.1 B.2.1 dX7_hasSameRows_63 rfl (lv_at hl 0 rfl) ?_
  refine f_getp B hH hth (by decide) rfl wu_X7 1 (by decide) wf_X7_42 rfl rfl dX7_hasSameRows_64 ?_
  obtain ⟨a69, ea69, h⟩ := h
  have ka69 : kO σ a69 11 := (hYσ.get hth (by decide)) a69 ea69
  have h := h ka69
  refine W.eq (g2 := F0 m 67 ls [.ref a69]) (by rw [ea69]; rfl) ?_
  refine f_getp B hH ka69 (by decide) rfl wu_X11 2 (by decide) wf_X7_114 rfl rfl dX7_hasSameRows_67 ?_
  refine lv_astoreQ (lv' := [(4, va_rf (gP σ a69 2)), (0, .ref th), (2, va_rf v2), (3, .int (i32 v3))]) B.1 B.2.1 dX7_hasSameRows_70 hl (by decide) rfl (fun ls hl => ?_)
  refine lv_aload_nQ B.1 B.2.1 dX7_hasSameRows_72 rfl (lv_at hl 2 rfl) ?_
  obtain ⟨a70, ea70, h⟩ := h
  have ka70 : kO σ a70 1 := g2 a70 ea70
  have h := h ka70
  refine W.eq (g2 := F0 m 73 ls [.ref a70]) (by rw [ea70]; rfl) ?_
  refine f_getp B hH ka70 (by decide) rfl wu_X1 0 (by decide) wf_X7_123 rfl rfl dX7_hasSameRows_73 ?_
  refine lv_astoreQ (lv' := [(5, va_rf (gP σ a70 0)), (4, va_rf (gP σ a69 2)), (0, .ref th), (2, va_rf v2), (3, .int (i32 v3))]) B.1 B.2.1 dX7_hasSameRows_76 hl (by decide) (by generalize (gP σ a69 2) = w9; cases w9 <;> rfl) (fun ls hl => ?_)
  obtain ⟨n9, h⟩ := h
  exact al_X7_hasSameRows_78 K hQ hX hTh n9 _ _ _ _ g3 (hYσ.get ka69 (by decide)) (hYσ.get ka70 (by decide)) h hGσ hYσ hE hth _ _ _ hH (lv_sub (l' := [(0, .ref th), (3, .int (i32 v3)), (4, va_rf (gP σ a69 2)), (5, va_rf (gP σ a70 0))]) hl [2, 4, 1, 0] rfl) hc
set_option maxRecDepth 20000 in
theorem a_X7_hasSameRows_35 {Q : Sg → Int → Prop} {X : Sg → String → Prop} {th : Nat} (K : MD l R p s m args c cX7_hasSameRows 8 RX7 D cA tys A n0 s0 4 82 []) (hQ : CQZ p l e R s m args below meth c cX7_hasSameRows D cA A n0 s0 QM σi Q) (hX : CX p l e R s m args below meth c 8 D cA A n0 s0 QM σi X) (hTh : CT p l e R s m args below meth c cX7_hasSameRows 8 D cA A n0 s0 QM σi RX7 X) {K30 : Sg → Option Nat → Int → Option Nat → Prop} (hK30 : ∀ (σ : Sg) (v2 : Option Nat) (v3 : Int) (v4 : Option Nat) (g2 : tyV σ 1 v2) (g3 : rng v3) (g4 : tyV σ 0 v4), K30 σ v2 v3 v4 → RG σ → TY σ → Ext σi σ → kO σ th 7 → JJ p l e R s m args below meth c 8 D cA A n0 s0 QM σ 30 [(0, .ref th), (2, va_rf v2), (3, .int (i32 v3)), (4, va_rf v4)] []) : ∀ (σ : Sg) (v2 : Option Nat) (v3 : Int) (v4 : Option Nat) (g2 : tyV σ 1 v2) (g3 : rng v3) (g4 : tyV σ 0 v4), w_X7_hasSameRows_35 th K30 Q X σ v2 v3 v4 → RG σ → TY σ → Ext σi σ → kO σ th 7 → JJ p l e R s m args below meth c 8 D cA A n0 s0 QM σ 35 [(0, .ref th), (2, va_rf v2), (3, .int (i32 v3)), (4, va_rf v4)] [] := by
  intro σ v2 v3 v4 g2 g3 g4 h hGσ hYσ hE hth H locs ls hH hl hc
  have B := K.1
  have hl9 := K.2.2.2.2.2.2
  unfold w_X7_hasSameRows_35 at h
  refine lv_aload_n B.1 B.2.1 dX7_hasSameRows_35 rfl (lv_at hl 0 rfl) ?_
  refine f_getp B hH hth (by decide) rfl wu_X7 4 (by decide) wf_X7_29 rfl rfl dX7_hasSameRows_36 ?_
  refine lv_aload_n B.1 B.2.1 dX7_hasSameRows_39 rfl (lv_at hl 0 rfl) ?_
  refine f_getp B hH hth (by decide) rfl wu_X7 0 (by decide) wf_X7_33 rfl rfl dX7_hasSameRows_40 ?_
  refine lv_aloadQ B.1 B.2.1 dX7_hasSameRows_43 (lv_at hl 3 rfl) ?_
  obtain ⟨a73, ea73, h⟩ := h
  have ka73 : kO σ a73 8 := (hYσ.get hth (by decide)) a73 ea73
  have h := h ka73
  refine W.eq (g2 := F0 m 45 ls [va_rf v4, .ref a73, va_rf (gP σ th 4)]) (by rw [ea73]; rfl) ?_
  refine c_V B hH hl hc K.2.2.1 (C := RX8) (T := TX8) (N := 3) (ci := 8) (As := [va_rf v4]) (ok_X8_copyOf hl9 K.2.1 σ a73 v4 g4 ka73 hGσ hYσ h) wc_X7_126 1 hd_X8_copyOf ⟨Nat.le_trans (Nat.le_of_ble_eq_true rfl) K.2.2.2.1, Nat.le_trans (Nat.le_of_ble_eq_true rfl) K.2.2.2.2.1⟩ ka73.1 ka73.2 (by decide) rfl rfl (rest := [va_rf (gP σ th 4)]) rfl (by simp only [List.map_cons, List.map_nil, rf_cat]; exact Nat.le_of_ble_eq_true rfl) dX7_hasSameRows_45 (fun σ71 w hq => ?_) (fun σ9 E9 hx9 => hX σ9 E9 _ _ _ (tb_out K.2.2.2.2.2.1 rfl) hx9.1 hx9.2.1 hx9.2.2.1 (hE.trans hx9.2.2.2))
  obtain ⟨r72, rfl, tr72, h, hGσ71, hYσ71, xσ71⟩ := hq
  have h := h xσ71 tr72
  intro H locs ls hH hl hc
  refine W.eq (g2 := F0 m 48 ls [va_rf r72, va_rf (gP σ th 4)]) (rfl) ?_
  try dsimp only at h
  refine lv_iconst (v := i32 1) B.1 B.2.1 dX7_hasSameRows_48 (by decide) ?_
  refine lv_iload_n B.1 B.2.1 dX7_hasSameRows_49 rfl (lv_at hl 2 rfl) ?_
  obtain ⟨a75, ea75, h⟩ := h
  have ka75 : kO σ71 a75 1 := ((hYσ.get hth (by decide)).up xσ71) a75 ea75
  have h := h ka75
  refine W.eq (g2 := F0 m 50 ls [.int (i32 v3), .int (i32 1), va_rf r72, .ref a75]) (by rw [ea75]; rfl) ?_
  refine c_V B hH hl hc K.2.2.1 (C := RX1) (T := TX1) (N := 3) (ci := 1) (As := [va_rf r72, .int (i32 1), .int (i32 v3)]) (ok_X1_insert hl9 K.2.1 σ71 a75 r72 1 v3 tr72 (by unfold rng; omega) g3 ka75 hGσ71 hYσ71 h) wc_X7_190 3 hd_X1_insert ⟨Nat.le_trans (Nat.le_of_ble_eq_true rfl) K.2.2.2.1, Nat.le_trans (Nat.le_of_ble_eq_true rfl) K.2.2.2.2.1⟩ ka75.1 ka75.2 (by decide) rfl rfl (rest := []) rfl (Nat.le_of_ble_eq_true rfl) dX7_hasSameRows_50 (fun σ74 w hq => ?_) (fun σ9 E9 hx9 => hX σ9 E9 _ _ _ (tb_out K.2.2.2.2.2.1 rfl) hx9.1 hx9.2.1 hx9.2.2.1 ((hE.trans xσ71).trans hx9.2.2.2))
  obtain ⟨rfl, h, hGσ74, hYσ74, xσ74⟩ := hq
  have h := h xσ74
  intro H locs ls hH hl hc
  refine W.eq (g2 := F0 m 53 ls []) (rfl) ?_
  try dsimp only at h
  refine lv_aloadQ B.1 B.2.1 dX7_hasSameRows_53 (lv_at hl 3 rfl) ?_
  obtain ⟨a76, ea76, h⟩ := h
  have ka76 : kO σ74 a76 0 := (g4.up (xσ71.trans xσ74)) a76 ea76
  have h := h ka76
  refine W.eq (g2 := F0 m 55 ls [.ref a76]) (by rw [ea76]; rfl) ?_
  refine f_getp B hH ka76 (by decide) rfl wu_X0 1 (by decide) wf_X7_137 rfl rfl dX7_hasSameRows_55 ?_
  refine lv_astoreQ (lv' := [(4, va_rf (gP σ74 a76 1)), (0, .ref th), (2, va_rf v2), (3, .int (i32 v3))]) B.1 B.2.1 dX7_hasSameRows_58 hl (by decide) rfl (fun ls hl => ?_)
  refine lv_goto (tgt := 30) B.1 B.2.1 dX7_hasSameRows_60 (by decide) ?_
  exact hK30 _ _ _ _ (g2.up (xσ71.trans xσ74)) g3 (hYσ74.get ka76 (by decide)) h hGσ74 hYσ74 ((hE.trans xσ71).trans xσ74) (hth.up (xσ71.trans xσ74)) _ _ _ hH (lv_sub (l' := [(0, .ref th), (2, va_rf v2), (3, .int (i32 v3)), (4, va_rf (gP σ74 a76 1))]) hl [1, 2, 3, 0] rfl) hc
set_option maxRecDepth 20000 in
theorem a_X7_hasSameRows_30 {Q : Sg → Int → Prop} {X : Sg → String → Prop} {th : Nat} (K : MD l R p s m args c cX7_hasSameRows 8 RX7 D cA tys A n0 s0 4 82 []) (hQ : CQZ p l e R s m args below meth c cX7_hasSameRows D cA A n0 s0 QM σi Q) (hX : CX p l e R s m args below meth c 8 D cA A n0 s0 QM σi X) (hTh : CT p l e R s m args below meth c cX7_hasSameRows 8 D cA A n0 s0 QM σi RX7 X) {K30 : Sg → Option Nat → Int → Option Nat → Prop} (hK30 : ∀ (σ : Sg) (v2 : Option Nat) (v3 : Int) (v4 : Option Nat) (g2 : tyV σ 1 v2) (g3 : rng v3) (g4 : tyV σ 0 v4), K30 σ v2 v3 v4 → RG σ → TY σ → Ext σi σ → kO σ th 7 → JJ p l e R s m args below meth c 8 D cA A n0 s0 QM σ 30 [(0, .ref th), (2, va_rf v2), (3, .int (i32 v3)), (4, va_rf v4)] []) : ∀ (σ : Sg) (v2 : Option Nat) (v3 : Int) (v4 : Option Nat) (g2 : tyV σ 1 v2) (g3 : rng v3) (g4 : tyV σ 0 v4), w_X7_hasSameRows_30 th K30 Q X σ v2 v3 v4 → RG σ → TY σ → Ext σi σ → kO σ th 7 → JJ p l e R s m args below meth c 8 D cA A n0 s0 QM σ 30 [(0, .ref th), (2, va_rf v2), (3, .int (i32 v3)), (4, va_rf v4)] [] := by
  intro σ v2 v3 v4 g2 g3 g4 h hGσ hYσ hE hth H locs ls hH hl hc
  have B := K.1
  have hl9 := K.2.2.2.2.2.2
  unfold w_X7_hasSameRows_30 at h
  refine lv_aloadQ B.1 B.2.1 dX7_hasSameRows_30 (lv_at hl 3 rfl) ?_
  refine lv_ifnullQ (tgt := 63) B.1 B.2.1 dX7_hasSameRows_32 (by decide) (fun h9 => ?_) (fun h9 => ?_)
  · rw [if_pos (h9)] at h
    exact a_X7_hasSameRows_63 K hQ hX hTh _ _ _ g2 g3 h hGσ hYσ hE hth _ _ _ hH (lv_sub (l' := [(0, .ref th), (2, va_rf v2), (3, .int (i32 v3))]) hl [0, 1, 2] rfl) hc
  · rw [if_neg (h9)] at h
    exact a_X7_hasSameRows_35 K hQ hX hTh hK30 _ _ _ _ g2 g3 g4 h hGσ hYσ hE hth _ _ _ hH (lv_sub (l' := [(0, .ref th), (2, va_rf v2), (3, .int (i32 v3)), (4, va_rf v4)]) hl [0, 1, 2, 3] rfl) hc
theorem al_X7_hasSameRows_30 {Q : Sg → Int → Prop} {X : Sg → String → Prop} {th : Nat} (K : MD l R p s m args c cX7_hasSameRows 8 RX7 D cA tys A n0 s0 4 82 []) (hQ : CQZ p l e R s m args below meth c cX7_hasSameRows D cA A n0 s0 QM σi Q) (hX : CX p l e R s m args below meth c 8 D cA A n0 s0 QM σi X) (hTh : CT p l e R s m args below meth c cX7_hasSameRows 8 D cA A n0 s0 QM σi RX7 X) : ∀ (n : Nat), ∀ (σ : Sg) (v2 : Option Nat) (v3 : Int) (v4 : Option Nat) (g2 : tyV σ 1 v2) (g3 : rng v3) (g4 : tyV σ 0 v4), wl_X7_hasSameRows_30 th Q X n σ v2 v3 v4 → RG σ → TY σ → Ext σi σ → kO σ th 7 → JJ p l e R s m args below meth c 8 D cA A n0 s0 QM σ 30 [(0, .ref th), (2, va_rf v2), (3, .int (i32 v3)), (4, va_rf v4)] [] := by
  intro n
  induction n with
  | zero => intro σ v2 v3 v4 g2 g3 g4 h; exact h.elim
  | succ n ih => exact fun σ v2 v3 v4 g2 g3 g4 h => a_X7_hasSameRows_30 K hQ hX hTh ih σ v2 v3 v4 g2 g3 g4 h
set_option maxRecDepth 20000 in
theorem a_X7_hasSameRows_13 {Q : Sg → Int → Prop} {X : Sg → String → Prop} {th : Nat} (K : MD l R p s m args c cX7_hasSameRows 8 RX7 D cA tys A n0 s0 4 82 []) (hQ : CQZ p l e R s m args below meth c cX7_hasSameRows D cA A n0 s0 QM σi Q) (hX : CX p l e R s m args below meth c 8 D cA A n0 s0 QM σi X) (hTh : CT p l e R s m args below meth c cX7_hasSameRows 8 D cA A n0 s0 QM σi RX7 X) : ∀ (σ : Sg) (v1 : Option Nat) (v2 : Option Nat) (v3 : Int) (g1 : tyV σ 1 v1) (g2 : tyV σ 1 v2) (g3 : rng v3), w_X7_hasSameRows_13 th Q X σ v1 v2 v3 → RG σ → TY σ → Ext σi σ → kO σ th 7 → JJ p l e R s m args below meth c 8 D cA A n0 s0 QM σ 13 [(0, .ref th), (1, va_rf v1), (2, va_rf v2), (3, .int (i32 v3))] [] := by
  intro σ v1 v2 v3 g1 g2 g3 h hGσ hYσ hE hth H locs ls hH hl hc
  have B := K.1
  have hl9 := K.2.2.2.2.2.2
  unfold w_X7_hasSameRows_13 at h
  refine lv_aload_n B.1 B.2.1 dX7_hasSameRows_13 rfl (lv_at hl 0 rfl) ?_
  refine f_getp B hH hth (by decide) rfl wu_X7 0 (by decide) wf_X7_33 rfl rfl dX7_hasSameRows_14 ?_
  refine lv_aload_n B.1 B.2.1 dX7_hasSameRows_17 rfl (lv_at hl 0 rfl) ?_
  refine f_getp B hH hth (by decide) rfl wu_X7 4 (by decide) wf_X7_29 rfl rfl dX7_hasSameRows_18 ?_
  obtain ⟨a78, ea78, h⟩ := h
  have ka78 : kO σ a78 8 := (hYσ.get hth (by decide)) a78 ea78
  have h := h ka78
  refine W.eq (g2 := F0 m 21 ls [va_rf (gP σ th 4), .ref a78]) (by rw [ea78]; rfl) ?_
  refine c_V B hH hl hc K.2.2.1 (C := RX8) (T := TX8) (N := 3) (ci := 8) (As := [va_rf (gP σ th 4)]) (ok_X8_releaseAll hl9 K.2.1 σ a78 (gP σ th 4) (hYσ.get hth (by decide)) ka78 hGσ hYσ h) wc_X7_102 1 hd_X8_releaseAll ⟨Nat.le_trans (Nat.le_of_ble_eq_true rfl) K.2.2.2.1, Nat.le_trans (Nat.le_of_ble_eq_true rfl) K.2.2.2.2.1⟩ ka78.1 ka78.2 (by decide) rfl rfl (rest := []) rfl (Nat.le_of_ble_eq_true rfl) dX7_hasSameRows_21 (fun σ77 w hq => ?_) (fun σ9 E9 hx9 => hX σ9 E9 _ _ _ (tb_out K.2.2.2.2.2.1 rfl) hx9.1 hx9.2.1 hx9.2.2.1 (hE.trans hx9.2.2.2))
  obtain ⟨rfl, h, hGσ77, hYσ77, xσ77⟩ := hq
  have h := h xσ77
  intro H locs ls hH hl hc
  refine W.eq (g2 := F0 m 24 ls []) (rfl) ?_
  try dsimp only at h
  refine lv_aload_nQ B.1 B.2.1 dX7_hasSameRows_24 rfl (lv_at hl 1 rfl) ?_
  obtain ⟨a79, ea79, h⟩ := h
  have ka79 : kO σ77 a79 1 := (g1.up xσ77) a79 ea79
  have h := h ka79
  refine W.eq (g2 := F0 m 25 ls [.ref a79]) (by rw [ea79]; rfl) ?_
  refine f_getp B hH ka79 (by decide) rfl wu_X1 0 (by decide) wf_X7_123 rfl rfl dX7_hasSameRows_25 ?_
  refine lv_astoreQ (lv' := [(4, va_rf (gP σ77 a79 0)), (0, .ref th), (1, va_rf v1), (2, va_rf v2), (3, .int (i32 v3))]) B.1 B.2.1 dX7_hasSameRows_28 hl (by decide) rfl (fun ls hl => ?_)
  obtain ⟨n9, h⟩ := h
  exact al_X7_hasSameRows_30 K hQ hX hTh n9 _ _ _ _ (g2.up xσ77) g3 (hYσ77.get ka79 (by decide)) h hGσ77 hYσ77 (hE.trans xσ77) (hth.up xσ77) _ _ _ hH (lv_sub (l' := [(0, .ref th), (2, va_rf v2), (3, .int (i32 v3)), (4, va_rf (gP σ77 a79 0))]) hl [1, 3, 4, 0] rfl) hc
set_option maxRecDepth 20000 in
theorem a_X7_hasSameRows_11 {Q : Sg → Int → Prop} {X : Sg → String → Prop} {th : Nat} (K : MD l R p s m args c cX7_hasSameRows 8 RX7 D cA tys A n0 s0 4 82 []) (hQ : CQZ p l e R s m args below meth c cX7_hasSameRows D cA A n0 s0 QM σi Q) (hX : CX p l e R s m args below meth c 8 D cA A n0 s0 QM σi X) (hTh : CT p l e R s m args below meth c cX7_hasSameRows 8 D cA A n0 s0 QM σi RX7 X) : ∀ (σ : Sg), w_X7_hasSameRows_11 th Q X σ → RG σ → TY σ → Ext σi σ → kO σ th 7 → JJ p l e R s m args below meth c 8 D cA A n0 s0 QM σ 11 [(0, .ref th)] [] := by
  intro σ h hGσ hYσ hE hth H locs ls hH hl hc
  have B := K.1
  have hl9 := K.2.2.2.2.2.2
  unfold w_X7_hasSameRows_11 at h
  refine lv_iconst (v := i32 0) B.1 B.2.1 dX7_hasSameRows_11 (by decide) ?_
  exact hQ _ _ _ _ _ _ (by unfold rng; omega) (Or.inl rfl) dX7_hasSameRows_12 hH hc h hGσ hYσ hE
set_option maxRecDepth 20000 in
theorem a_X7_hasSameRows_0 {Q : Sg → Int → Prop} {X : Sg → String → Prop} {th : Nat} (K : MD l R p s m args c cX7_hasSameRows 8 RX7 D cA tys A n0 s0 4 82 []) (hQ : CQZ p l e R s m args below meth c cX7_hasSameRows D cA A n0 s0 QM σi Q) (hX : CX p l e R s m args below meth c 8 D cA A n0 s0 QM σi X) (hTh : CT p l e R s m args below meth c cX7_hasSameRows 8 D cA A n0 s0 QM σi RX7 X) : ∀ (σ : Sg) (v1 : Option Nat) (v2 : Option Nat) (v3 : Int) (g1 : tyV σ 1 v1) (g2 : tyV σ 1 v2) (g3 : rng v3), w_X7_hasSameRows_0 th Q X σ v1 v2 v3 → RG σ → TY σ → Ext σi σ → kO σ th 7 → JJ p l e R s m args below meth c 8 D cA A n0 s0 QM σ 0 [(0, .ref th), (1, va_rf v1), (2, va_rf v2), (3, .int (i32 v3))] [] := by
  intro σ v1 v2 v3 g1 g2 g3 h hGσ hYσ hE hth H locs ls hH hl hc
  have B := K.1
  have hl9 := K.2.2.2.2.2.2
  unfold w_X7_hasSameRows_0 at h
  refine lv_aload_nQ B.1 B.2.1 dX7_hasSameRows_0 rfl (lv_at hl 1 rfl) ?_
  obtain ⟨a80, ea80, h⟩ := h
  have ka80 : kO σ a80 1 := g1 a80 ea80
  have h := h ka80
  refine W.eq (g2 := F0 m 1 ls [.ref a80]) (by rw [ea80]; rfl) ?_
  refine f_geti B hH ka80 (by decide) rfl wu_X1 2 (by decide) wf_X7_146 rfl rfl dX7_hasSameRows_1 ?_
  refine lv_aload_nQ B.1 B.2.1 dX7_hasSameRows_4 rfl (lv_at hl 2 rfl) ?_
  obtain ⟨a81, ea81, h⟩ := h
  have ka81 : kO σ a81 1 := g2 a81 ea81
  have h := h ka81
  refine W.eq (g2 := F0 m 5 ls [.ref a81, .int (i32 (gI σ a80 2))]) (by rw [ea81]; rfl) ?_
  refine f_geti B hH ka81 (by decide) rfl wu_X1 2 (by decide) wf_X7_146 rfl rfl dX7_hasSameRows_5 ?_
  refine lv_icmp_eq (tgt := 13) B.1 B.2.1 dX7_hasSameRows_8 (by decide) (fun h9 => ?_) (fun h9 => ?_)
  · rw [if_pos ((i32_eq (hGσ _ _) (hGσ _ _)).mp h9)] at h
    exact a_X7_hasSameRows_13 K hQ hX hTh _ _ _ _ g1 g2 g3 h hGσ hYσ hE hth _ _ _ hH (lv_sub (l' := [(0, .ref th), (1, va_rf v1), (2, va_rf v2), (3, .int (i32 v3))]) hl [0, 1, 2, 3] rfl) hc
  · rw [if_neg (fun q => h9 ((i32_eq (hGσ _ _) (hGσ _ _)).mpr q))] at h
    exact a_X7_hasSameRows_11 K hQ hX hTh _ h hGσ hYσ hE hth _ _ _ hH (lv_sub (l' := [(0, .ref th)]) hl [0] rfl) hc
theorem ok_X7_hasSameRows (hl0 : l.stackTraces = false) (hT : TyC cA tys) {Q : Sg → Int → Prop} {X : Sg → String → Prop} (σ : Sg) (th : Nat) (v1 : Option Nat) (v2 : Option Nat) (v3 : Int) (g1 : tyV σ 1 v1) (g2 : tyV σ 1 v2) (g3 : rng v3) (hth : kO σ th 7) (hG : RG σ) (hY : TY σ) (h : wp_X7_hasSameRows th v1 v2 v3 σ Q X) : Ok l D cA tys A yX7_hasSameRows (.code yX7_hasSameRows cX7_hasSameRows 8 (some .boolean)) 4 82 [.ref th, va_rf v1, va_rf v2, .int (i32 v3)] σ (QcZ σ Q) (QxC σ X) := by
  unfold wp_X7_hasSameRows at h
  exact oc_Z hl0 (by decide) (by cases v1 <;> cases v2 <;> exact Nat.le_of_ble_eq_true rfl) hT (fun p e R s m args below meth c K hQ hX hTh H locs ls hH hl hc => a_X7_hasSameRows_0 K hQ hX hTh σ v1 v2 v3 g1 g2 g3 h hG hY (Ext.rfl' σ) hth H locs ls hH (lv_sub (l' := [(0, .ref th), (1, va_rf v1), (2, va_rf v2), (3, .int (i32 v3))]) hl [0, 1, 2, 3] (by cases v1 <;> cases v2 <;> rfl)) hc)
theorem dX1_moveAllTo_0 : decode cX1_moveAllTo 0 = .ok (.aload_n 0, 1) := by decide +kernel
theorem dX1_moveAllTo_1 : decode cX1_moveAllTo 1 = .ok (.getfield 20, 3) := by decide +kernel
theorem dX1_moveAllTo_4 : decode cX1_moveAllTo 4 = .ok (.ifnonnull 4, 3) := by decide +kernel
theorem dX1_moveAllTo_7 : decode cX1_moveAllTo 7 = .ok (.return_, 1) := by decide +kernel
theorem dX1_moveAllTo_8 : decode cX1_moveAllTo 8 = .ok (.aload_n 1, 1) := by decide +kernel
theorem dX1_moveAllTo_9 : decode cX1_moveAllTo 9 = .ok (.getfield 15, 3) := by decide +kernel
theorem dX1_moveAllTo_12 : decode cX1_moveAllTo 12 = .ok (.ifnonnull 14, 3) := by decide +kernel
theorem dX1_moveAllTo_15 : decode cX1_moveAllTo 15 = .ok (.aload_n 1, 1) := by decide +kernel
theorem dX1_moveAllTo_16 : decode cX1_moveAllTo 16 = .ok (.aload_n 0, 1) := by decide +kernel
theorem dX1_moveAllTo_17 : decode cX1_moveAllTo 17 = .ok (.getfield 20, 3) := by decide +kernel
theorem dX1_moveAllTo_20 : decode cX1_moveAllTo 20 = .ok (.putfield 20, 3) := by decide +kernel
theorem dX1_moveAllTo_23 : decode cX1_moveAllTo 23 = .ok (.goto 14, 3) := by decide +kernel
theorem dX1_moveAllTo_26 : decode cX1_moveAllTo 26 = .ok (.aload_n 1, 1) := by decide +kernel
theorem dX1_moveAllTo_27 : decode cX1_moveAllTo 27 = .ok (.getfield 15, 3) := by decide +kernel
theorem dX1_moveAllTo_30 : decode cX1_moveAllTo 30 = .ok (.aload_n 0, 1) := by decide +kernel
theorem dX1_moveAllTo_31 : decode cX1_moveAllTo 31 = .ok (.getfield 20, 3) := by decide +kernel
theorem dX1_moveAllTo_34 : decode cX1_moveAllTo 34 = .ok (.putfield 9, 3) := by decide +kernel
theorem dX1_moveAllTo_37 : decode cX1_moveAllTo 37 = .ok (.aload_n 1, 1) := by decide +kernel
theorem dX1_moveAllTo_38 : decode cX1_moveAllTo 38 = .ok (.aload_n 0, 1) := by decide +kernel
theorem dX1_moveAllTo_39 : decode cX1_moveAllTo 39 = .ok (.getfield 15, 3) := by decide +kernel
theorem dX1_moveAllTo_42 : decode cX1_moveAllTo 42 = .ok (.putfield 15, 3) := by decide +kernel
theorem dX1_moveAllTo_45 : decode cX1_moveAllTo 45 = .ok (.aload_n 1, 1) := by decide +kernel
theorem dX1_moveAllTo_46 : decode cX1_moveAllTo 46 = .ok (.dup, 1) := by decide +kernel
theorem dX1_moveAllTo_47 : decode cX1_moveAllTo 47 = .ok (.getfield 23, 3) := by decide +kernel
theorem dX1_moveAllTo_50 : decode cX1_moveAllTo 50 = .ok (.aload_n 0, 1) := by decide +kernel
theorem dX1_moveAllTo_51 : decode cX1_moveAllTo 51 = .ok (.getfield 23, 3) := by decide +kernel
theorem dX1_moveAllTo_54 : decode cX1_moveAllTo 54 = .ok (.iadd, 1) := by decide +kernel
theorem dX1_moveAllTo_55 : decode cX1_moveAllTo 55 = .ok (.putfield 23, 3) := by decide +kernel
theorem dX1_moveAllTo_58 : decode cX1_moveAllTo 58 = .ok (.aload_n 0, 1) := by decide +kernel
theorem dX1_moveAllTo_59 : decode cX1_moveAllTo 59 = .ok (.aconst_null, 1) := by decide +kernel
theorem dX1_moveAllTo_60 : decode cX1_moveAllTo 60 = .ok (.putfield 20, 3) := by decide +kernel
theorem dX1_moveAllTo_63 : decode cX1_moveAllTo 63 = .ok (.aload_n 0, 1) := by decide +kernel
theorem dX1_moveAllTo_64 : decode cX1_moveAllTo 64 = .ok (.aconst_null, 1) := by decide +kernel
theorem dX1_moveAllTo_65 : decode cX1_moveAllTo 65 = .ok (.putfield 15, 3) := by decide +kernel
theorem dX1_moveAllTo_68 : decode cX1_moveAllTo 68 = .ok (.aload_n 0, 1) := by decide +kernel
theorem dX1_moveAllTo_69 : decode cX1_moveAllTo 69 = .ok (.iconst 0, 1) := by decide +kernel
theorem dX1_moveAllTo_70 : decode cX1_moveAllTo 70 = .ok (.putfield 23, 3) := by decide +kernel
theorem dX1_moveAllTo_73 : decode cX1_moveAllTo 73 = .ok (.return_, 1) := by decide +kernel
set_option maxRecDepth 20000 in
theorem a_X1_moveAllTo_37 {Q : Sg → Unit → Prop} {X : Sg → String → Prop} {th : Nat} (K : MD l R p s m args c cX1_moveAllTo 2 RX1 D cA tys A n0 s0 0 0 []) (hQ : CQV p l e R s m args below meth c cX1_moveAllTo D cA A n0 s0 QM σi Q) (hX : CX p l e R s m args below meth c 2 D cA A n0 s0 QM σi X) (hTh : CT p l e R s m args below meth c cX1_moveAllTo 2 D cA A n0 s0 QM σi RX1 X) : ∀ (σ : Sg) (v1 : Option Nat) (g1 : tyV σ 1 v1), w_X1_moveAllTo_37 th Q X σ v1 → RG σ → TY σ → Ext σi σ → kO σ th 1 → JJ p l e R s m args below meth c 2 D cA A n0 s0 QM σ 37 [(0, .ref th), (1, va_rf v1)] [] := by
  intro σ v1 g1 h hGσ hYσ hE hth H locs ls hH hl hc
  have B := K.1
  have hl9 := K.2.2.2.2.2.2
  unfold w_X1_moveAllTo_37 at h
  refine lv_aload_nQ B.1 B.2.1 dX1_moveAllTo_37 rfl (lv_at hl 1 rfl) ?_
  refine lv_aload_n B.1 B.2.1 dX1_moveAllTo_38 rfl (lv_at hl 0 rfl) ?_
  refine f_getp B hH hth (by decide) rfl wu_X1 1 (by decide) wf_X1_15 rfl rfl dX1_moveAllTo_39 ?_
  obtain ⟨a25, ea25, h⟩ := h
  have ka25 : kO σ a25 1 := g1 a25 ea25
  have h := h ka25
  obtain ⟨σ26, eσ26⟩ : ∃ z, z = pP σ a25 1 (gP σ th 1) := ⟨_, rfl⟩
  have h := h σ26 eσ26
  refine W.eq (g2 := F0 m 42 ls [va_rf (gP σ th 1), .ref a25]) (by rw [ea25]; rfl) ?_
  refine f_putp B hH ka25 (by decide) rfl wu_X1 tyX1 tyX1_ok nmX1 1 (by decide) wf_X1_15 rfl (r := (gP σ th 1)) (ty := .object "StreamHouse$Cell") rfl rfl rfl (nrO _ _) (ftO _ _) dX1_moveAllTo_42 (fun H locs hH => ?_)
  have hH : Hd D cA A s (pP σ a25 1 (gP σ th 1)) H locs := hH
  rw [← eσ26] at hH
  have hGσ26 : RG σ26 := by rw [eσ26]; exact hGσ.pP
  have hYσ26 : TY σ26 := by rw [eσ26]; exact hYσ.pP ka25 (d := 0) (by decide) (hYσ.get hth (by decide))
  have xσ26 : Ext σ σ26 := by rw [eσ26]; exact Ext.pP
  have hc : CB n0 s0 σ26 := by rw [eσ26]; exact hc
  rw [show gc σ = gc σ26 by rw [eσ26]; try rfl, show gs σ = gs σ26 by rw [eσ26]; try rfl]
  refine lv_aload_nQ B.1 B.2.1 dX1_moveAllTo_45 rfl (lv_at hl 1 rfl) ?_
  refine lv_dup B.1 B.2.1 dX1_moveAllTo_46 (rf_cat _) ?_
  refine W.eq (g2 := F0 m 47 ls [.ref a25, va_rf v1]) (by rw [ea25]; rfl) ?_
  refine f_geti B hH (ka25.up xσ26) (by decide) rfl wu_X1 2 (by decide) wf_X1_23 rfl rfl dX1_moveAllTo_47 ?_
  refine lv_aload_n B.1 B.2.1 dX1_moveAllTo_50 rfl (lv_at hl 0 rfl) ?_
  refine f_geti B hH (hth.up xσ26) (by decide) rfl wu_X1 2 (by decide) wf_X1_23 rfl rfl dX1_moveAllTo_51 ?_
  obtain ⟨q1, h⟩ := h
  refine lv_iadd B.1 B.2.1 dX1_moveAllTo_54 ?_
  rw [i32_add]
  obtain ⟨σ27, eσ27⟩ : ∃ z, z = pI σ26 a25 2 (gI σ26 a25 2 + gI σ26 th 2) := ⟨_, rfl⟩
  have h := h σ27 eσ27
  refine W.eq (g2 := F0 m 55 ls [.int (i32 (gI σ26 a25 2 + gI σ26 th 2)), .ref a25]) (by rw [ea25]; rfl) ?_
  refine f_puti B hH (ka25.up xσ26) (by decide) rfl wu_X1 tyX1 tyX1_ok nmX1 2 (by decide) wf_X1_23 rfl (ty := .int) rfl rfl rfl rfl rfl dX1_moveAllTo_55 (fun H locs hH => ?_)
  have hH : Hd D cA A s (pI σ26 a25 2 (gI σ26 a25 2 + gI σ26 th 2)) H locs := hH
  rw [← eσ27] at hH
  have hGσ27 : RG σ27 := by rw [eσ27]; exact hGσ26.pI q1
  have hYσ27 : TY σ27 := by rw [eσ27]; exact hYσ26.pI
  have xσ27 : Ext σ26 σ27 := by rw [eσ27]; exact Ext.pI
  have hc : CB n0 s0 σ27 := by rw [eσ27]; exact hc
  rw [show gc σ26 = gc σ27 by rw [eσ27]; try rfl, show gs σ26 = gs σ27 by rw [eσ27]; try rfl]
  refine lv_aload_n B.1 B.2.1 dX1_moveAllTo_58 rfl (lv_at hl 0 rfl) ?_
  refine lv_null B.1 B.2.1 dX1_moveAllTo_59 ?_
  obtain ⟨σ28, eσ28⟩ : ∃ z, z = pP σ27 th 0 none := ⟨_, rfl⟩
  have h := h σ28 eσ28
  refine W.eq (g2 := F0 m 60 ls [va_rf none, .ref th]) (rfl) ?_
  refine f_putp B hH (hth.up (xσ26.trans xσ27)) (by decide) rfl wu_X1 tyX1 tyX1_ok nmX1 0 (by decide) wf_X1_20 rfl (r := none) (ty := .object "StreamHouse$Cell") rfl rfl rfl (nrO _ _) (ftO _ _) dX1_moveAllTo_60 (fun H locs hH => ?_)
  have hH : Hd D cA A s (pP σ27 th 0 none) H locs := hH
  rw [← eσ28] at hH
  have hGσ28 : RG σ28 := by rw [eσ28]; exact hGσ27.pP
  have hYσ28 : TY σ28 := by rw [eσ28]; exact hYσ27.pP (hth.up (xσ26.trans xσ27)) (d := 0) (by decide) (tyn _ _)
  have xσ28 : Ext σ27 σ28 := by rw [eσ28]; exact Ext.pP
  have hc : CB n0 s0 σ28 := by rw [eσ28]; exact hc
  rw [show gc σ27 = gc σ28 by rw [eσ28]; try rfl, show gs σ27 = gs σ28 by rw [eσ28]; try rfl]
  refine lv_aload_n B.1 B.2.1 dX1_moveAllTo_63 rfl (lv_at hl 0 rfl) ?_
  refine lv_null B.1 B.2.1 dX1_moveAllTo_64 ?_
  obtain ⟨σ29, eσ29⟩ : ∃ z, z = pP σ28 th 1 none := ⟨_, rfl⟩
  have h := h σ29 eσ29
  refine W.eq (g2 := F0 m 65 ls [va_rf none, .ref th]) (rfl) ?_
  refine f_putp B hH (hth.up (xσ26.trans (xσ27.trans xσ28))) (by decide) rfl wu_X1 tyX1 tyX1_ok nmX1 1 (by decide) wf_X1_15 rfl (r := none) (ty := .object "StreamHouse$Cell") rfl rfl rfl (nrO _ _) (ftO _ _) dX1_moveAllTo_65 (fun H locs hH => ?_)
  have hH : Hd D cA A s (pP σ28 th 1 none) H locs := hH
  rw [← eσ29] at hH
  have hGσ29 : RG σ29 := by rw [eσ29]; exact hGσ28.pP
  have hYσ29 : TY σ29 := by rw [eσ29]; exact hYσ28.pP (hth.up (xσ26.trans (xσ27.trans xσ28))) (d := 0) (by decide) (tyn _ _)
  have xσ29 : Ext σ28 σ29 := by rw [eσ29]; exact Ext.pP
  have hc : CB n0 s0 σ29 := by rw [eσ29]; exact hc
  rw [show gc σ28 = gc σ29 by rw [eσ29]; try rfl, show gs σ28 = gs σ29 by rw [eσ29]; try rfl]
  refine lv_aload_n B.1 B.2.1 dX1_moveAllTo_68 rfl (lv_at hl 0 rfl) ?_
  refine lv_iconst (v := i32 0) B.1 B.2.1 dX1_moveAllTo_69 (by decide) ?_
  obtain ⟨σ30, eσ30⟩ : ∃ z, z = pI σ29 th 2 0 := ⟨_, rfl⟩
  have h := h σ30 eσ30
  refine f_puti B hH (hth.up (xσ26.trans (xσ27.trans (xσ28.trans xσ29)))) (by decide) rfl wu_X1 tyX1 tyX1_ok nmX1 2 (by decide) wf_X1_23 rfl (ty := .int) rfl rfl rfl rfl rfl dX1_moveAllTo_70 (fun H locs hH => ?_)
  have hH : Hd D cA A s (pI σ29 th 2 0) H locs := hH
  rw [← eσ30] at hH
  have hGσ30 : RG σ30 := by rw [eσ30]; exact hGσ29.pI (by unfold rng; omega)
  have hYσ30 : TY σ30 := by rw [eσ30]; exact hYσ29.pI
  have xσ30 : Ext σ29 σ30 := by rw [eσ30]; exact Ext.pI
  have hc : CB n0 s0 σ30 := by rw [eσ30]; exact hc
  rw [show gc σ29 = gc σ30 by rw [eσ30]; try rfl, show gs σ29 = gs σ30 by rw [eσ30]; try rfl]
  exact hQ _ _ _ _ _ dX1_moveAllTo_73 hH hc h hGσ30 hYσ30 (((((hE.trans xσ26).trans xσ27).trans xσ28).trans xσ29).trans xσ30)
set_option maxRecDepth 20000 in
theorem a_X1_moveAllTo_26 {Q : Sg → Unit → Prop} {X : Sg → String → Prop} {th : Nat} (K : MD l R p s m args c cX1_moveAllTo 2 RX1 D cA tys A n0 s0 0 0 []) (hQ : CQV p l e R s m args below meth c cX1_moveAllTo D cA A n0 s0 QM σi Q) (hX : CX p l e R s m args below meth c 2 D cA A n0 s0 QM σi X) (hTh : CT p l e R s m args below meth c cX1_moveAllTo 2 D cA A n0 s0 QM σi RX1 X) : ∀ (σ : Sg) (v1 : Option Nat) (g1 : tyV σ 1 v1), w_X1_moveAllTo_26 th Q X σ v1 → RG σ → TY σ → Ext σi σ → kO σ th 1 → JJ p l e R s m args below meth c 2 D cA A n0 s0 QM σ 26 [(0, .ref th), (1, va_rf v1)] [] := by
  intro σ v1 g1 h hGσ hYσ hE hth H locs ls hH hl hc
  have B := K.1
  have hl9 := K.2.2.2.2.2.2
  unfold w_X1_moveAllTo_26 at h
  refine lv_aload_nQ B.1 B.2.1 dX1_moveAllTo_26 rfl (lv_at hl 1 rfl) ?_
  obtain ⟨a31, ea31, h⟩ := h
  have ka31 : kO σ a31 1 := g1 a31 ea31
  have h := h ka31
  refine W.eq (g2 := F0 m 27 ls [.ref a31]) (by rw [ea31]; rfl) ?_
  refine f_getp B hH ka31 (by decide) rfl wu_X1 1 (by decide) wf_X1_15 rfl rfl dX1_moveAllTo_27 ?_
  refine lv_aload_n B.1 B.2.1 dX1_moveAllTo_30 rfl (lv_at hl 0 rfl) ?_
  refine f_getp B hH hth (by decide) rfl wu_X1 0 (by decide) wf_X1_20 rfl rfl dX1_moveAllTo_31 ?_
  obtain ⟨a32, ea32, h⟩ := h
  have ka32 : kO σ a32 0 := (hYσ.get ka31 (by decide)) a32 ea32
  have h := h ka32
  obtain ⟨σ33, eσ33⟩ : ∃ z, z = pP σ a32 1 (gP σ th 0) := ⟨_, rfl⟩
  have h := h σ33 eσ33
  refine W.eq (g2 := F0 m 34 ls [va_rf (gP σ th 0), .ref a32]) (by rw [ea32]; rfl) ?_
  refine f_putp B hH ka32 (by decide) rfl wu_X0 tyX0 tyX0_ok nmX0 1 (by decide) wf_X1_9 rfl (r := (gP σ th 0)) (ty := .object "StreamHouse$Cell") rfl rfl rfl (nrO _ _) (ftO _ _) dX1_moveAllTo_34 (fun H locs hH => ?_)
  have hH : Hd D cA A s (pP σ a32 1 (gP σ th 0)) H locs := hH
  rw [← eσ33] at hH
  have hGσ33 : RG σ33 := by rw [eσ33]; exact hGσ.pP
  have hYσ33 : TY σ33 := by rw [eσ33]; exact hYσ.pP ka32 (d := 0) (by decide) (hYσ.get hth (by decide))
  have xσ33 : Ext σ σ33 := by rw [eσ33]; exact Ext.pP
  have hc : CB n0 s0 σ33 := by rw [eσ33]; exact hc
  rw [show gc σ = gc σ33 by rw [eσ33]; try rfl, show gs σ = gs σ33 by rw [eσ33]; try rfl]
  exact a_X1_moveAllTo_37 K hQ hX hTh _ _ (g1.up xσ33) h hGσ33 hYσ33 (hE.trans xσ33) (hth.up xσ33) _ _ _ hH (lv_sub (l' := [(0, .ref th), (1, va_rf v1)]) hl [0, 1] rfl) hc
set_option maxRecDepth 20000 in
theorem a_X1_moveAllTo_15 {Q : Sg → Unit → Prop} {X : Sg → String → Prop} {th : Nat} (K : MD l R p s m args c cX1_moveAllTo 2 RX1 D cA tys A n0 s0 0 0 []) (hQ : CQV p l e R s m args below meth c cX1_moveAllTo D cA A n0 s0 QM σi Q) (hX : CX p l e R s m args below meth c 2 D cA A n0 s0 QM σi X) (hTh : CT p l e R s m args below meth c cX1_moveAllTo 2 D cA A n0 s0 QM σi RX1 X) : ∀ (σ : Sg) (v1 : Option Nat) (g1 : tyV σ 1 v1), w_X1_moveAllTo_15 th Q X σ v1 → RG σ → TY σ → Ext σi σ → kO σ th 1 → JJ p l e R s m args below meth c 2 D cA A n0 s0 QM σ 15 [(0, .ref th), (1, va_rf v1)] [] := by
  intro σ v1 g1 h hGσ hYσ hE hth H locs ls hH hl hc
  have B := K.1
  have hl9 := K.2.2.2.2.2.2
  unfold w_X1_moveAllTo_15 at h
  refine lv_aload_nQ B.1 B.2.1 dX1_moveAllTo_15 rfl (lv_at hl 1 rfl) ?_
  refine lv_aload_n B.1 B.2.1 dX1_moveAllTo_16 rfl (lv_at hl 0 rfl) ?_
  refine f_getp B hH hth (by decide) rfl wu_X1 0 (by decide) wf_X1_20 rfl rfl dX1_moveAllTo_17 ?_
  obtain ⟨a34, ea34, h⟩ := h
  have ka34 : kO σ a34 1 := g1 a34 ea34
  have h := h ka34
  obtain ⟨σ35, eσ35⟩ : ∃ z, z = pP σ a34 0 (gP σ th 0) := ⟨_, rfl⟩
  have h := h σ35 eσ35
  refine W.eq (g2 := F0 m 20 ls [va_rf (gP σ th 0), .ref a34]) (by rw [ea34]; rfl) ?_
  refine f_putp B hH ka34 (by decide) rfl wu_X1 tyX1 tyX1_ok nmX1 0 (by decide) wf_X1_20 rfl (r := (gP σ th 0)) (ty := .object "StreamHouse$Cell") rfl rfl rfl (nrO _ _) (ftO _ _) dX1_moveAllTo_20 (fun H locs hH => ?_)
  have hH : Hd D cA A s (pP σ a34 0 (gP σ th 0)) H locs := hH
  rw [← eσ35] at hH
  have hGσ35 : RG σ35 := by rw [eσ35]; exact hGσ.pP
  have hYσ35 : TY σ35 := by rw [eσ35]; exact hYσ.pP ka34 (d := 0) (by decide) (hYσ.get hth (by decide))
  have xσ35 : Ext σ σ35 := by rw [eσ35]; exact Ext.pP
  have hc : CB n0 s0 σ35 := by rw [eσ35]; exact hc
  rw [show gc σ = gc σ35 by rw [eσ35]; try rfl, show gs σ = gs σ35 by rw [eσ35]; try rfl]
  refine lv_goto (tgt := 37) B.1 B.2.1 dX1_moveAllTo_23 (by decide) ?_
  exact a_X1_moveAllTo_37 K hQ hX hTh _ _ (g1.up xσ35) h hGσ35 hYσ35 (hE.trans xσ35) (hth.up xσ35) _ _ _ hH (lv_sub (l' := [(0, .ref th), (1, va_rf v1)]) hl [0, 1] rfl) hc
set_option maxRecDepth 20000 in
theorem a_X1_moveAllTo_8 {Q : Sg → Unit → Prop} {X : Sg → String → Prop} {th : Nat} (K : MD l R p s m args c cX1_moveAllTo 2 RX1 D cA tys A n0 s0 0 0 []) (hQ : CQV p l e R s m args below meth c cX1_moveAllTo D cA A n0 s0 QM σi Q) (hX : CX p l e R s m args below meth c 2 D cA A n0 s0 QM σi X) (hTh : CT p l e R s m args below meth c cX1_moveAllTo 2 D cA A n0 s0 QM σi RX1 X) : ∀ (σ : Sg) (v1 : Option Nat) (g1 : tyV σ 1 v1), w_X1_moveAllTo_8 th Q X σ v1 → RG σ → TY σ → Ext σi σ → kO σ th 1 → JJ p l e R s m args below meth c 2 D cA A n0 s0 QM σ 8 [(0, .ref th), (1, va_rf v1)] [] := by
  intro σ v1 g1 h hGσ hYσ hE hth H locs ls hH hl hc
  have B := K.1
  have hl9 := K.2.2.2.2.2.2
  unfold w_X1_moveAllTo_8 at h
  refine lv_aload_nQ B.1 B.2.1 dX1_moveAllTo_8 rfl (lv_at hl 1 rfl) ?_
  obtain ⟨a36, ea36, h⟩ := h
  have ka36 : kO σ a36 1 := g1 a36 ea36
  have h := h ka36
  refine W.eq (g2 := F0 m 9 ls [.ref a36]) (by rw [ea36]; rfl) ?_
  refine f_getp B hH ka36 (by decide) rfl wu_X1 1 (by decide) wf_X1_15 rfl rfl dX1_moveAllTo_9 ?_
  refine lv_ifnonnullQ (tgt := 26) B.1 B.2.1 dX1_moveAllTo_12 (by decide) (fun h9 => ?_) (fun h9 => ?_)
  · rw [if_pos (h9)] at h
    exact a_X1_moveAllTo_26 K hQ hX hTh _ _ g1 h hGσ hYσ hE hth _ _ _ hH (lv_sub (l' := [(0, .ref th), (1, va_rf v1)]) hl [0, 1] rfl) hc
  · rw [if_neg (h9)] at h
    exact a_X1_moveAllTo_15 K hQ hX hTh _ _ g1 h hGσ hYσ hE hth _ _ _ hH (lv_sub (l' := [(0, .ref th), (1, va_rf v1)]) hl [0, 1] rfl) hc
set_option maxRecDepth 20000 in
theorem a_X1_moveAllTo_7 {Q : Sg → Unit → Prop} {X : Sg → String → Prop} {th : Nat} (K : MD l R p s m args c cX1_moveAllTo 2 RX1 D cA tys A n0 s0 0 0 []) (hQ : CQV p l e R s m args below meth c cX1_moveAllTo D cA A n0 s0 QM σi Q) (hX : CX p l e R s m args below meth c 2 D cA A n0 s0 QM σi X) (hTh : CT p l e R s m args below meth c cX1_moveAllTo 2 D cA A n0 s0 QM σi RX1 X) : ∀ (σ : Sg), w_X1_moveAllTo_7 th Q X σ → RG σ → TY σ → Ext σi σ → kO σ th 1 → JJ p l e R s m args below meth c 2 D cA A n0 s0 QM σ 7 [(0, .ref th)] [] := by
  intro σ h hGσ hYσ hE hth H locs ls hH hl hc
  have B := K.1
  have hl9 := K.2.2.2.2.2.2
  unfold w_X1_moveAllTo_7 at h
  exact hQ _ _ _ _ _ dX1_moveAllTo_7 hH hc h hGσ hYσ hE
set_option maxRecDepth 20000 in
theorem a_X1_moveAllTo_0 {Q : Sg → Unit → Prop} {X : Sg → String → Prop} {th : Nat} (K : MD l R p s m args c cX1_moveAllTo 2 RX1 D cA tys A n0 s0 0 0 []) (hQ : CQV p l e R s m args below meth c cX1_moveAllTo D cA A n0 s0 QM σi Q) (hX : CX p l e R s m args below meth c 2 D cA A n0 s0 QM σi X) (hTh : CT p l e R s m args below meth c cX1_moveAllTo 2 D cA A n0 s0 QM σi RX1 X) : ∀ (σ : Sg) (v1 : Option Nat) (g1 : tyV σ 1 v1), w_X1_moveAllTo_0 th Q X σ v1 → RG σ → TY σ → Ext σi σ → kO σ th 1 → JJ p l e R s m args below meth c 2 D cA A n0 s0 QM σ 0 [(0, .ref th), (1, va_rf v1)] [] := by
  intro σ v1 g1 h hGσ hYσ hE hth H locs ls hH hl hc
  have B := K.1
  have hl9 := K.2.2.2.2.2.2
  unfold w_X1_moveAllTo_0 at h
  refine lv_aload_n B.1 B.2.1 dX1_moveAllTo_0 rfl (lv_at hl 0 rfl) ?_
  refine f_getp B hH hth (by decide) rfl wu_X1 0 (by decide) wf_X1_20 rfl rfl dX1_moveAllTo_1 ?_
  refine lv_ifnonnullQ (tgt := 8) B.1 B.2.1 dX1_moveAllTo_4 (by decide) (fun h9 => ?_) (fun h9 => ?_)
  · rw [if_pos (h9)] at h
    exact a_X1_moveAllTo_8 K hQ hX hTh _ _ g1 h hGσ hYσ hE hth _ _ _ hH (lv_sub (l' := [(0, .ref th), (1, va_rf v1)]) hl [0, 1] rfl) hc
  · rw [if_neg (h9)] at h
    exact a_X1_moveAllTo_7 K hQ hX hTh _ h hGσ hYσ hE hth _ _ _ hH (lv_sub (l' := [(0, .ref th)]) hl [0] rfl) hc
theorem ok_X1_moveAllTo (hl0 : l.stackTraces = false) (hT : TyC cA tys) {Q : Sg → Unit → Prop} {X : Sg → String → Prop} (σ : Sg) (th : Nat) (v1 : Option Nat) (g1 : tyV σ 1 v1) (hth : kO σ th 1) (hG : RG σ) (hY : TY σ) (h : wp_X1_moveAllTo th v1 σ Q X) : Ok l D cA tys A yX1_moveAllTo (.code yX1_moveAllTo cX1_moveAllTo 2 none) 0 0 [.ref th, va_rf v1] σ (QcV σ Q) (QxC σ X) := by
  unfold wp_X1_moveAllTo at h
  exact oc_V hl0 (by decide) (by cases v1 <;> exact Nat.le_of_ble_eq_true rfl) hT (fun p e R s m args below meth c K hQ hX hTh hin9 H locs ls hH hl hc => a_X1_moveAllTo_0 K hQ hX hTh σ v1 g1 h hG hY (Ext.rfl' σ) hth H locs ls hH (lv_sub (l' := [(0, .ref th), (1, va_rf v1)]) hl [0, 1] (by cases v1 <;> rfl)) hc)
theorem dX4_readInto_0 : decode cX4_readInto 0 = .ok (.iload_n 3, 1) := by decide +kernel
theorem dX4_readInto_1 : decode cX4_readInto 1 = .ok (.iconst 5, 1) := by decide +kernel
theorem dX4_readInto_2 : decode cX4_readInto 2 = .ok (.imul, 1) := by decide +kernel
theorem dX4_readInto_3 : decode cX4_readInto 3 = .ok (.istore 4, 2) := by decide +kernel
theorem dX4_readInto_5 : decode cX4_readInto 5 = .ok (.aload_n 1, 1) := by decide +kernel
theorem dX4_readInto_6 : decode cX4_readInto 6 = .ok (.aload_n 0, 1) := by decide +kernel
theorem dX4_readInto_7 : decode cX4_readInto 7 = .ok (.getfield 36, 3) := by decide +kernel
theorem dX4_readInto_10 : decode cX4_readInto 10 = .ok (.iload_n 2, 1) := by decide +kernel
theorem dX4_readInto_11 : decode cX4_readInto 11 = .ok (.aaload, 1) := by decide +kernel
theorem dX4_readInto_12 : decode cX4_readInto 12 = .ok (.iload 4, 2) := by decide +kernel
theorem dX4_readInto_14 : decode cX4_readInto 14 = .ok (.laload, 1) := by decide +kernel
theorem dX4_readInto_15 : decode cX4_readInto 15 = .ok (.putfield 70, 3) := by decide +kernel
theorem dX4_readInto_18 : decode cX4_readInto 18 = .ok (.aload_n 0, 1) := by decide +kernel
theorem dX4_readInto_19 : decode cX4_readInto 19 = .ok (.getfield 36, 3) := by decide +kernel
theorem dX4_readInto_22 : decode cX4_readInto 22 = .ok (.iload_n 2, 1) := by decide +kernel
theorem dX4_readInto_23 : decode cX4_readInto 23 = .ok (.aaload, 1) := by decide +kernel
theorem dX4_readInto_24 : decode cX4_readInto 24 = .ok (.iload 4, 2) := by decide +kernel
theorem dX4_readInto_26 : decode cX4_readInto 26 = .ok (.iconst 1, 1) := by decide +kernel
theorem dX4_readInto_27 : decode cX4_readInto 27 = .ok (.iadd, 1) := by decide +kernel
theorem dX4_readInto_28 : decode cX4_readInto 28 = .ok (.aload_n 1, 1) := by decide +kernel
theorem dX4_readInto_29 : decode cX4_readInto 29 = .ok (.getfield 75, 3) := by decide +kernel
theorem dX4_readInto_32 : decode cX4_readInto 32 = .ok (.iconst 0, 1) := by decide +kernel
theorem dX4_readInto_33 : decode cX4_readInto 33 = .ok (.iconst 4, 1) := by decide +kernel
theorem dX4_readInto_34 : decode cX4_readInto 34 = .ok (.invokestatic 78, 3) := by decide +kernel
theorem dX4_readInto_37 : decode cX4_readInto 37 = .ok (.return_, 1) := by decide +kernel
set_option maxRecDepth 20000 in
theorem a_X4_readInto_0 {Q : Sg → Unit → Prop} {X : Sg → String → Prop} {th : Nat} (K : MD l R p s m args c cX4_readInto 5 RX4 D cA tys A n0 s0 1 60 []) (hQ : CQV p l e R s m args below meth c cX4_readInto D cA A n0 s0 QM σi Q) (hX : CX p l e R s m args below meth c 5 D cA A n0 s0 QM σi X) (hTh : CT p l e R s m args below meth c cX4_readInto 5 D cA A n0 s0 QM σi RX4 X) : ∀ (σ : Sg) (v1 : Option Nat) (v2 : Int) (v3 : Int) (g1 : tyV σ 0 v1) (g2 : rng v2) (g3 : rng v3), w_X4_readInto_0 th Q X σ v1 v2 v3 → RG σ → TY σ → Ext σi σ → kO σ th 4 → JJ p l e R s m args below meth c 5 D cA A n0 s0 QM σ 0 [(0, .ref th), (1, va_rf v1), (2, .int (i32 v2)), (3, .int (i32 v3))] [] := by
  intro σ v1 v2 v3 g1 g2 g3 h hGσ hYσ hE hth H locs ls hH hl hc
  have B := K.1
  have hl9 := K.2.2.2.2.2.2
  unfold w_X4_readInto_0 at h
  refine lv_iload_n B.1 B.2.1 dX4_readInto_0 rfl (lv_at hl 3 rfl) ?_
  refine lv_iconst (v := i32 5) B.1 B.2.1 dX4_readInto_1 (by decide) ?_
  obtain ⟨q1, h⟩ := h
  refine lv_imul B.1 B.2.1 dX4_readInto_2 ?_
  rw [i32_mul]
  refine lv_istore (lv' := [(4, .int (i32 (v3 * 5))), (0, .ref th), (1, va_rf v1), (2, .int (i32 v2)), (3, .int (i32 v3))]) B.1 B.2.1 dX4_readInto_3 hl (by decide) rfl (fun ls hl => ?_)
  refine lv_aload_nQ B.1 B.2.1 dX4_readInto_5 rfl (lv_at hl 2 rfl) ?_
  refine lv_aload_n B.1 B.2.1 dX4_readInto_6 rfl (lv_at hl 1 rfl) ?_
  refine f_getp B hH hth (by decide) rfl wu_X4 11 (by decide) wf_X4_36 rfl rfl dX4_readInto_7 ?_
  refine lv_iload_n B.1 B.2.1 dX4_readInto_10 rfl (lv_at hl 3 rfl) ?_
  obtain ⟨a17, ea17, h⟩ := h
  have ka17 : kO σ a17 200 := (hYσ.get hth (by decide)) a17 ea17
  have h := h ka17
  obtain ⟨q2, h⟩ := h
  refine W.eq (g2 := F0 m 11 ls [.int (i32 v2), .ref a17, va_rf v1]) (by rw [ea17]; rfl) ?_
  refine y_aaldA B hH (t0 := 8) ka17 (by decide) K.2.1.2.2.2.2.2 q2 (hYσ.2 _) dX4_readInto_11 ?_
  refine lv_iload B.1 B.2.1 dX4_readInto_12 (lv_at hl 0 rfl) ?_
  obtain ⟨a18, ea18, h⟩ := h
  have ka18 : kO σ a18 101 := (hYσ.get ka17 rfl) a18 ea18
  have h := h ka18
  obtain ⟨q3, h⟩ := h
  refine W.eq (g2 := F0 m 14 ls [.int (i32 (v3 * 5)), .ref a18, va_rf v1]) (by rw [ea18]; rfl) ?_
  refine y_lald B K.2.1 hH ka18 q3 dX4_readInto_14 (hYσ.2 _) ?_
  obtain ⟨a19, ea19, h⟩ := h
  have ka19 : kO σ a19 0 := g1 a19 ea19
  have h := h ka19
  obtain ⟨σ20, eσ20⟩ : ∃ z, z = pJ σ a19 5 (gJ σ a18 (v3 * 5).toNat) := ⟨_, rfl⟩
  have h := h σ20 eσ20
  refine W.eq (g2 := F0 m 15 ls [.long (gJ σ a18 (v3 * 5).toNat), .ref a19]) (by rw [ea19]; rfl) ?_
  refine f_putl B hH ka19 (by decide) rfl wu_X0 tyX0 tyX0_ok nmX0 5 (by decide) wf_X4_70 rfl (ty := .long) rfl rfl rfl rfl rfl dX4_readInto_15 (fun H locs hH => ?_)
  have hH : Hd D cA A s (pJ σ a19 5 (gJ σ a18 (v3 * 5).toNat)) H locs := hH
  rw [← eσ20] at hH
  have hGσ20 : RG σ20 := by rw [eσ20]; exact hGσ.pJ
  have hYσ20 : TY σ20 := by rw [eσ20]; exact hYσ.pJ
  have xσ20 : Ext σ σ20 := by rw [eσ20]; exact Ext.pJ
  have hc : CB n0 s0 σ20 := by rw [eσ20]; exact hc
  rw [show gc σ = gc σ20 by rw [eσ20]; try rfl, show gs σ = gs σ20 by rw [eσ20]; try rfl]
  refine lv_aload_n B.1 B.2.1 dX4_readInto_18 rfl (lv_at hl 1 rfl) ?_
  refine f_getp B hH (hth.up xσ20) (by decide) rfl wu_X4 11 (by decide) wf_X4_36 rfl rfl dX4_readInto_19 ?_
  refine lv_iload_n B.1 B.2.1 dX4_readInto_22 rfl (lv_at hl 3 rfl) ?_
  obtain ⟨a21, ea21, h⟩ := h
  have ka21 : kO σ20 a21 200 := (hYσ20.get (hth.up xσ20) (by decide)) a21 ea21
  have h := h ka21
  obtain ⟨q4, h⟩ := h
  refine W.eq (g2 := F0 m 23 ls [.int (i32 v2), .ref a21]) (by rw [ea21]; rfl) ?_
  refine y_aaldA B hH (t0 := 8) ka21 (by decide) K.2.1.2.2.2.2.2 q4 (hYσ20.2 _) dX4_readInto_23 ?_
  refine lv_iload B.1 B.2.1 dX4_readInto_24 (lv_at hl 0 rfl) ?_
  refine lv_iconst (v := i32 1) B.1 B.2.1 dX4_readInto_26 (by decide) ?_
  obtain ⟨q5, h⟩ := h
  refine lv_iadd B.1 B.2.1 dX4_readInto_27 ?_
  rw [i32_add]
  refine lv_aload_nQ B.1 B.2.1 dX4_readInto_28 rfl (lv_at hl 2 rfl) ?_
  refine W.eq (g2 := F0 m 29 ls [.ref a19, .int (i32 ((v3 * 5) + 1)), va_rf (gP σ20 a21 v2.toNat)]) (by rw [ea19]; rfl) ?_
  refine f_getp B hH (ka19.up xσ20) (by decide) rfl wu_X0 0 (by decide) wf_X4_75 rfl rfl dX4_readInto_29 ?_
  refine lv_iconst (v := i32 0) B.1 B.2.1 dX4_readInto_32 (by decide) ?_
  refine lv_iconst (v := i32 4) B.1 B.2.1 dX4_readInto_33 (by decide) ?_
  obtain ⟨a22, ea22, h⟩ := h
  have ka22 : kO σ20 a22 101 := (hYσ20.get ka21 rfl) a22 ea22
  have h := h ka22
  obtain ⟨a23, ea23, h⟩ := h
  have ka23 : kO σ20 a23 101 := (hYσ20.get (ka19.up xσ20) (by decide)) a23 ea23
  have h := h ka23
  obtain ⟨q6, h⟩ := h
  obtain ⟨σ24, eσ24⟩ : ∃ z, z = cpJ σ20 a22 ((v3 * 5) + 1) a23 (0 : Int) (4 : Int) := ⟨_, rfl⟩
  have h := h σ24 eσ24
  refine W.eq (g2 := F0 m 34 ls [.int (i32 4), .int (i32 0), .ref a23, .int (i32 ((v3 * 5) + 1)), .ref a22]) (by rw [ea22, ea23]; rfl) ?_
  refine c_copy B K.2.1 hH hl ws_X4_78 ka22 ka23 q6.1 q6.2.1 q6.2.2 ⟨by have := hYσ20.2 a22; omega, by have := hYσ20.2 a23; omega⟩ (by have := K.2.2.2.1; omega) (Nat.le_trans (Nat.le_of_ble_eq_true rfl) K.2.2.2.2.1) dX4_readInto_34 (fun H locs hH => ?_)
  have hH : Hd D cA A s (cpJ σ20 a22 ((v3 * 5) + 1) a23 (0 : Int) (4 : Int)) H locs := hH
  rw [← eσ24] at hH
  have hGσ24 : RG σ24 := by rw [eσ24]; exact hGσ20.cpJ
  have hYσ24 : TY σ24 := by rw [eσ24]; exact hYσ20.cpJ
  have xσ24 : Ext σ20 σ24 := by rw [eσ24]; exact Ext.cpJ
  have hc : CB n0 s0 σ24 := by rw [eσ24]; exact hc
  rw [show gc σ20 = gc σ24 by rw [eσ24]; try rfl, show gs σ20 = gs σ24 by rw [eσ24]; try rfl]
  exact hQ _ _ _ _ _ dX4_readInto_37 hH hc h hGσ24 hYσ24 ((hE.trans xσ20).trans xσ24)
theorem ok_X4_readInto (hl0 : l.stackTraces = false) (hT : TyC cA tys) {Q : Sg → Unit → Prop} {X : Sg → String → Prop} (σ : Sg) (th : Nat) (v1 : Option Nat) (v2 : Int) (v3 : Int) (g1 : tyV σ 0 v1) (g2 : rng v2) (g3 : rng v3) (hth : kO σ th 4) (hG : RG σ) (hY : TY σ) (h : wp_X4_readInto th v1 v2 v3 σ Q X) : Ok l D cA tys A yX4_readInto (.code yX4_readInto cX4_readInto 5 none) 1 60 [.ref th, va_rf v1, .int (i32 v2), .int (i32 v3)] σ (QcV σ Q) (QxC σ X) := by
  unfold wp_X4_readInto at h
  exact oc_V hl0 (by decide) (by cases v1 <;> exact Nat.le_of_ble_eq_true rfl) hT (fun p e R s m args below meth c K hQ hX hTh hin9 H locs ls hH hl hc => a_X4_readInto_0 K hQ hX hTh σ v1 v2 v3 g1 g2 g3 h hG hY (Ext.rfl' σ) hth H locs ls hH (lv_sub (l' := [(0, .ref th), (1, va_rf v1), (2, .int (i32 v2)), (3, .int (i32 v3))]) hl [0, 1, 2, 3] (by cases v1 <;> rfl)) hc)
theorem dX7_readSource_0 : decode cX7_readSource 0 = .ok (.ldc2_w 152, 3) := by decide +kernel
theorem dX7_readSource_3 : decode cX7_readSource 3 = .ok (.lstore_n 2, 1) := by decide +kernel
theorem dX7_readSource_4 : decode cX7_readSource 4 = .ok (.iconst 0, 1) := by decide +kernel
theorem dX7_readSource_5 : decode cX7_readSource 5 = .ok (.istore 4, 2) := by decide +kernel
theorem dX7_readSource_7 : decode cX7_readSource 7 = .ok (.iload 4, 2) := by decide +kernel
theorem dX7_readSource_9 : decode cX7_readSource 9 = .ok (.aload_n 0, 1) := by decide +kernel
theorem dX7_readSource_10 : decode cX7_readSource 10 = .ok (.getfield 46, 3) := by decide +kernel
theorem dX7_readSource_13 : decode cX7_readSource 13 = .ok (.getfield 154, 3) := by decide +kernel
theorem dX7_readSource_16 : decode cX7_readSource 16 = .ok (.aload_n 1, 1) := by decide +kernel
theorem dX7_readSource_17 : decode cX7_readSource 17 = .ok (.getfield 158, 3) := by decide +kernel
theorem dX7_readSource_20 : decode cX7_readSource 20 = .ok (.iaload, 1) := by decide +kernel
theorem dX7_readSource_21 : decode cX7_readSource 21 = .ok (.if_icmp .ge 85, 3) := by decide +kernel
theorem dX7_readSource_24 : decode cX7_readSource 24 = .ok (.aload_n 0, 1) := by decide +kernel
theorem dX7_readSource_25 : decode cX7_readSource 25 = .ok (.getfield 33, 3) := by decide +kernel
theorem dX7_readSource_28 : decode cX7_readSource 28 = .ok (.invokevirtual 161, 3) := by decide +kernel
theorem dX7_readSource_31 : decode cX7_readSource 31 = .ok (.astore 5, 2) := by decide +kernel
theorem dX7_readSource_33 : decode cX7_readSource 33 = .ok (.aload_n 0, 1) := by decide +kernel
theorem dX7_readSource_34 : decode cX7_readSource 34 = .ok (.getfield 46, 3) := by decide +kernel
theorem dX7_readSource_37 : decode cX7_readSource 37 = .ok (.aload 5, 2) := by decide +kernel
theorem dX7_readSource_39 : decode cX7_readSource 39 = .ok (.aload_n 1, 1) := by decide +kernel
theorem dX7_readSource_40 : decode cX7_readSource 40 = .ok (.getfield 158, 3) := by decide +kernel
theorem dX7_readSource_43 : decode cX7_readSource 43 = .ok (.iload 4, 2) := by decide +kernel
theorem dX7_readSource_45 : decode cX7_readSource 45 = .ok (.invokevirtual 165, 3) := by decide +kernel
theorem dX7_readSource_48 : decode cX7_readSource 48 = .ok (.aload 5, 2) := by decide +kernel
theorem dX7_readSource_50 : decode cX7_readSource 50 = .ok (.getfield 169, 3) := by decide +kernel
theorem dX7_readSource_53 : decode cX7_readSource 53 = .ok (.lload_n 2, 1) := by decide +kernel
theorem dX7_readSource_54 : decode cX7_readSource 54 = .ok (.lcmp, 1) := by decide +kernel
theorem dX7_readSource_55 : decode cX7_readSource 55 = .ok (.ifCond .le 36, 3) := by decide +kernel
theorem dX7_readSource_58 : decode cX7_readSource 58 = .ok (.lload_n 2, 1) := by decide +kernel
theorem dX7_readSource_59 : decode cX7_readSource 59 = .ok (.aload 5, 2) := by decide +kernel
theorem dX7_readSource_61 : decode cX7_readSource 61 = .ok (.getfield 169, 3) := by decide +kernel
theorem dX7_readSource_64 : decode cX7_readSource 64 = .ok (.aload_n 1, 1) := by decide +kernel
theorem dX7_readSource_65 : decode cX7_readSource 65 = .ok (.getfield 173, 3) := by decide +kernel
theorem dX7_readSource_68 : decode cX7_readSource 68 = .ok (.i2l, 1) := by decide +kernel
theorem dX7_readSource_69 : decode cX7_readSource 69 = .ok (.lsub, 1) := by decide +kernel
theorem dX7_readSource_70 : decode cX7_readSource 70 = .ok (.lconst 1, 1) := by decide +kernel
theorem dX7_readSource_71 : decode cX7_readSource 71 = .ok (.lsub, 1) := by decide +kernel
theorem dX7_readSource_72 : decode cX7_readSource 72 = .ok (.invokestatic 176, 3) := by decide +kernel
theorem dX7_readSource_75 : decode cX7_readSource 75 = .ok (.lstore_n 2, 1) := by decide +kernel
theorem dX7_readSource_76 : decode cX7_readSource 76 = .ok (.aload_n 0, 1) := by decide +kernel
theorem dX7_readSource_77 : decode cX7_readSource 77 = .ok (.getfield 42, 3) := by decide +kernel
theorem dX7_readSource_80 : decode cX7_readSource 80 = .ok (.getfield 114, 3) := by decide +kernel
theorem dX7_readSource_83 : decode cX7_readSource 83 = .ok (.aload 5, 2) := by decide +kernel
theorem dX7_readSource_85 : decode cX7_readSource 85 = .ok (.invokevirtual 182, 3) := by decide +kernel
theorem dX7_readSource_88 : decode cX7_readSource 88 = .ok (.goto 12, 3) := by decide +kernel
theorem dX7_readSource_91 : decode cX7_readSource 91 = .ok (.aload_n 0, 1) := by decide +kernel
theorem dX7_readSource_92 : decode cX7_readSource 92 = .ok (.getfield 33, 3) := by decide +kernel
theorem dX7_readSource_95 : decode cX7_readSource 95 = .ok (.aload 5, 2) := by decide +kernel
theorem dX7_readSource_97 : decode cX7_readSource 97 = .ok (.invokevirtual 186, 3) := by decide +kernel
theorem dX7_readSource_100 : decode cX7_readSource 100 = .ok (.iinc 4 1, 3) := by decide +kernel
theorem dX7_readSource_103 : decode cX7_readSource 103 = .ok (.goto (-96), 3) := by decide +kernel
theorem dX7_readSource_106 : decode cX7_readSource 106 = .ok (.return_, 1) := by decide +kernel
set_option maxRecDepth 20000 in
theorem a_X7_readSource_106 {Q : Sg → Unit → Prop} {X : Sg → String → Prop} {th : Nat} (K : MD l R p s m args c cX7_readSource 6 RX7 D cA tys A n0 s0 3 84 []) (hQ : CQV p l e R s m args below meth c cX7_readSource D cA A n0 s0 QM σi Q) (hX : CX p l e R s m args below meth c 6 D cA A n0 s0 QM σi X) (hTh : CT p l e R s m args below meth c cX7_readSource 6 D cA A n0 s0 QM σi RX7 X) : ∀ (σ : Sg), w_X7_readSource_106 th Q X σ → RG σ → TY σ → Ext σi σ → kO σ th 7 → JJ p l e R s m args below meth c 6 D cA A n0 s0 QM σ 106 [(0, .ref th)] [] := by
  intro σ h hGσ hYσ hE hth H locs ls hH hl hc
  have B := K.1
  have hl9 := K.2.2.2.2.2.2
  unfold w_X7_readSource_106 at h
  exact hQ _ _ _ _ _ dX7_readSource_106 hH hc h hGσ hYσ hE
set_option maxRecDepth 20000 in
theorem a_X7_readSource_100 {Q : Sg → Unit → Prop} {X : Sg → String → Prop} {th : Nat} (K : MD l R p s m args c cX7_readSource 6 RX7 D cA tys A n0 s0 3 84 []) (hQ : CQV p l e R s m args below meth c cX7_readSource D cA A n0 s0 QM σi Q) (hX : CX p l e R s m args below meth c 6 D cA A n0 s0 QM σi X) (hTh : CT p l e R s m args below meth c cX7_readSource 6 D cA A n0 s0 QM σi RX7 X) {K7 : Sg → Option Nat → Int64 → Int → Prop} (hK7 : ∀ (σ : Sg) (v1 : Option Nat) (v2 : Int64) (v4 : Int) (g1 : tyV σ 5 v1) (g4 : rng v4), K7 σ v1 v2 v4 → RG σ → TY σ → Ext σi σ → kO σ th 7 → JJ p l e R s m args below meth c 6 D cA A n0 s0 QM σ 7 [(0, .ref th), (1, va_rf v1), (2, .long v2), (4, .int (i32 v4))] []) : ∀ (σ : Sg) (v1 : Option Nat) (v2 : Int64) (v4 : Int) (g1 : tyV σ 5 v1) (g4 : rng v4), w_X7_readSource_100 th K7 Q X σ v1 v2 v4 → RG σ → TY σ → Ext σi σ → kO σ th 7 → JJ p l e R s m args below meth c 6 D cA A n0 s0 QM σ 100 [(0, .ref th), (1, va_rf v1), (2, .long v2), (4, .int (i32 v4))] [] := by
  intro σ v1 v2 v4 g1 g4 h hGσ hYσ hE hth H locs ls hH hl hc
  have B := K.1
  have hl9 := K.2.2.2.2.2.2
  unfold w_X7_readSource_100 at h
  obtain ⟨q1, h⟩ := h
  refine lv_iinc (k := 3) (v := i32 (v4 + 1)) (lv' := [(4, .int (i32 (v4 + 1))), (0, .ref th), (1, va_rf v1), (2, .long v2)]) B.1 B.2.1 dX7_readSource_100 hl rfl (i32_add _ _) (by decide) rfl (fun ls hl => ?_)
  refine lv_goto (tgt := 7) B.1 B.2.1 dX7_readSource_103 (by decide) ?_
  exact hK7 _ _ _ _ g1 q1 h hGσ hYσ hE hth _ _ _ hH (lv_sub (l' := [(0, .ref th), (1, va_rf v1), (2, .long v2), (4, .int (i32 (v4 + 1)))]) hl [1, 2, 3, 0] rfl) hc
set_option maxRecDepth 20000 in
theorem a_X7_readSource_91 {Q : Sg → Unit → Prop} {X : Sg → String → Prop} {th : Nat} (K : MD l R p s m args c cX7_readSource 6 RX7 D cA tys A n0 s0 3 84 []) (hQ : CQV p l e R s m args below meth c cX7_readSource D cA A n0 s0 QM σi Q) (hX : CX p l e R s m args below meth c 6 D cA A n0 s0 QM σi X) (hTh : CT p l e R s m args below meth c cX7_readSource 6 D cA A n0 s0 QM σi RX7 X) {K7 : Sg → Option Nat → Int64 → Int → Prop} (hK7 : ∀ (σ : Sg) (v1 : Option Nat) (v2 : Int64) (v4 : Int) (g1 : tyV σ 5 v1) (g4 : rng v4), K7 σ v1 v2 v4 → RG σ → TY σ → Ext σi σ → kO σ th 7 → JJ p l e R s m args below meth c 6 D cA A n0 s0 QM σ 7 [(0, .ref th), (1, va_rf v1), (2, .long v2), (4, .int (i32 v4))] []) : ∀ (σ : Sg) (v1 : Option Nat) (v2 : Int64) (v4 : Int) (v5 : Option Nat) (g1 : tyV σ 5 v1) (g4 : rng v4) (g5 : tyV σ 0 v5), w_X7_readSource_91 th K7 Q X σ v1 v2 v4 v5 → RG σ → TY σ → Ext σi σ → kO σ th 7 → JJ p l e R s m args below meth c 6 D cA A n0 s0 QM σ 91 [(0, .ref th), (1, va_rf v1), (2, .long v2), (4, .int (i32 v4)), (5, va_rf v5)] [] := by
  intro σ v1 v2 v4 v5 g1 g4 g5 h hGσ hYσ hE hth H locs ls hH hl hc
  have B := K.1
  have hl9 := K.2.2.2.2.2.2
  unfold w_X7_readSource_91 at h
  refine lv_aload_n B.1 B.2.1 dX7_readSource_91 rfl (lv_at hl 0 rfl) ?_
  refine f_getp B hH hth (by decide) rfl wu_X7 0 (by decide) wf_X7_33 rfl rfl dX7_readSource_92 ?_
  refine lv_aloadQ B.1 B.2.1 dX7_readSource_95 (lv_at hl 4 rfl) ?_
  obtain ⟨a40, ea40, h⟩ := h
  have ka40 : kO σ a40 8 := (hYσ.get hth (by decide)) a40 ea40
  have h := h ka40
  refine W.eq (g2 := F0 m 97 ls [va_rf v5, .ref a40]) (by rw [ea40]; rfl) ?_
  refine c_V B hH hl hc K.2.2.1 (C := RX8) (T := TX8) (N := 3) (ci := 8) (As := [va_rf v5]) (ok_X8_release hl9 K.2.1 σ a40 v5 g5 ka40 hGσ hYσ h) wc_X7_186 1 hd_X8_release ⟨Nat.le_trans (Nat.le_of_ble_eq_true rfl) K.2.2.2.1, Nat.le_trans (Nat.le_of_ble_eq_true rfl) K.2.2.2.2.1⟩ ka40.1 ka40.2 (by decide) rfl rfl (rest := []) rfl (Nat.le_of_ble_eq_true rfl) dX7_readSource_97 (fun σ39 w hq => ?_) (fun σ9 E9 hx9 => hX σ9 E9 _ _ _ (tb_out K.2.2.2.2.2.1 rfl) hx9.1 hx9.2.1 hx9.2.2.1 (hE.trans hx9.2.2.2))
  obtain ⟨rfl, h, hGσ39, hYσ39, xσ39⟩ := hq
  have h := h xσ39
  intro H locs ls hH hl hc
  refine W.eq (g2 := F0 m 100 ls []) (rfl) ?_
  try dsimp only at h
  exact a_X7_readSource_100 K hQ hX hTh hK7 _ _ _ _ (g1.up xσ39) g4 h hGσ39 hYσ39 (hE.trans xσ39) (hth.up xσ39) _ _ _ hH (lv_sub (l' := [(0, .ref th), (1, va_rf v1), (2, .long v2), (4, .int (i32 v4))]) hl [0, 1, 2, 3] rfl) hc
set_option maxRecDepth 20000 in
theorem a_X7_readSource_58 {Q : Sg → Unit → Prop} {X : Sg → String → Prop} {th : Nat} (K : MD l R p s m args c cX7_readSource 6 RX7 D cA tys A n0 s0 3 84 []) (hQ : CQV p l e R s m args below meth c cX7_readSource D cA A n0 s0 QM σi Q) (hX : CX p l e R s m args below meth c 6 D cA A n0 s0 QM σi X) (hTh : CT p l e R s m args below meth c cX7_readSource 6 D cA A n0 s0 QM σi RX7 X) {K7 : Sg → Option Nat → Int64 → Int → Prop} (hK7 : ∀ (σ : Sg) (v1 : Option Nat) (v2 : Int64) (v4 : Int) (g1 : tyV σ 5 v1) (g4 : rng v4), K7 σ v1 v2 v4 → RG σ → TY σ → Ext σi σ → kO σ th 7 → JJ p l e R s m args below meth c 6 D cA A n0 s0 QM σ 7 [(0, .ref th), (1, va_rf v1), (2, .long v2), (4, .int (i32 v4))] []) : ∀ (σ : Sg) (v1 : Option Nat) (v2 : Int64) (v4 : Int) (v5 : Option Nat) (g1 : tyV σ 5 v1) (g4 : rng v4) (g5 : tyV σ 0 v5), w_X7_readSource_58 th K7 Q X σ v1 v2 v4 v5 → RG σ → TY σ → Ext σi σ → kO σ th 7 → JJ p l e R s m args below meth c 6 D cA A n0 s0 QM σ 58 [(0, .ref th), (1, va_rf v1), (2, .long v2), (4, .int (i32 v4)), (5, va_rf v5)] [] := by
  intro σ v1 v2 v4 v5 g1 g4 g5 h hGσ hYσ hE hth H locs ls hH hl hc
  have B := K.1
  have hl9 := K.2.2.2.2.2.2
  unfold w_X7_readSource_58 at h
  refine lv_lload_n B.1 B.2.1 dX7_readSource_58 rfl (lv_at hl 2 rfl) ?_
  refine lv_aloadQ B.1 B.2.1 dX7_readSource_59 (lv_at hl 4 rfl) ?_
  obtain ⟨a41, ea41, h⟩ := h
  have ka41 : kO σ a41 0 := g5 a41 ea41
  have h := h ka41
  refine W.eq (g2 := F0 m 61 ls [.ref a41, .long v2]) (by rw [ea41]; rfl) ?_
  refine f_getl B hH ka41 (by decide) rfl wu_X0 5 (by decide) wf_X7_169 rfl rfl dX7_readSource_61 ?_
  refine lv_aload_nQ B.1 B.2.1 dX7_readSource_64 rfl (lv_at hl 1 rfl) ?_
  obtain ⟨a42, ea42, h⟩ := h
  have ka42 : kO σ a42 5 := g1 a42 ea42
  have h := h ka42
  refine W.eq (g2 := F0 m 65 ls [.ref a42, .long (gJ σ a41 5), .long v2]) (by rw [ea42]; rfl) ?_
  refine f_geti B hH ka42 (by decide) rfl wu_X5 10 (by decide) wf_X7_173 rfl rfl dX7_readSource_65 ?_
  refine lv_i2l B.1 B.2.1 dX7_readSource_68 (i32_i64 (hGσ _ _)) ?_
  refine lv_lsub B.1 B.2.1 dX7_readSource_69 ?_
  refine lv_lconst (v := 1) B.1 B.2.1 dX7_readSource_70 (by decide) ?_
  refine lv_lsub B.1 B.2.1 dX7_readSource_71 ?_
  refine c_S B hH hl hc K.2.2.1 (As := [.long v2, .long ((gJ σ a41 5 - (Int64.ofInt (gI σ a42 10))) - 1)]) (okC_J9_max_f86c9 hl9 K.2.1 σ v2 ((gJ σ a41 5 - (Int64.ofInt (gI σ a42 10))) - 1) hGσ hYσ h) wc_X7_176 2 hdC_J9_max_f86c9 ⟨Nat.le_trans (Nat.le_of_ble_eq_true rfl) K.2.2.2.1, Nat.le_trans (Nat.le_of_ble_eq_true rfl) K.2.2.2.2.1⟩ rfl (rest := []) rfl (Nat.le_of_ble_eq_true rfl) dX7_readSource_72 (fun σ43 w hq => ?_) (fun σ9 E9 hx9 => hX σ9 E9 _ _ _ (tb_out K.2.2.2.2.2.1 rfl) hx9.1 hx9.2.1 hx9.2.2.1 (hE.trans hx9.2.2.2))
  obtain ⟨r44, rfl, h, hGσ43, hYσ43, xσ43⟩ := hq
  have h := h xσ43
  intro H locs ls hH hl hc
  refine W.eq (g2 := F0 m 75 ls [.long r44]) (rfl) ?_
  try dsimp only at h
  refine lv_lstore_n (lv' := [(2, .long r44), (0, .ref th), (1, va_rf v1), (4, .int (i32 v4)), (5, va_rf v5)]) B.1 B.2.1 dX7_readSource_75 rfl hl (by decide) (by generalize v1 = w9; cases w9 <;> rfl) (fun ls hl => ?_)
  refine lv_aload_n B.1 B.2.1 dX7_readSource_76 rfl (lv_at hl 1 rfl) ?_
  refine f_getp B hH (hth.up xσ43) (by decide) rfl wu_X7 1 (by decide) wf_X7_42 rfl rfl dX7_readSource_77 ?_
  obtain ⟨a45, ea45, h⟩ := h
  have ka45 : kO σ43 a45 11 := (hYσ43.get (hth.up xσ43) (by decide)) a45 ea45
  have h := h ka45
  refine W.eq (g2 := F0 m 80 ls [.ref a45]) (by rw [ea45]; rfl) ?_
  refine f_getp B hH ka45 (by decide) rfl wu_X11 2 (by decide) wf_X7_114 rfl rfl dX7_readSource_80 ?_
  refine lv_aloadQ B.1 B.2.1 dX7_readSource_83 (lv_at hl 4 rfl) ?_
  obtain ⟨a47, ea47, h⟩ := h
  have ka47 : kO σ43 a47 1 := (hYσ43.get ka45 (by decide)) a47 ea47
  have h := h ka47
  refine W.eq (g2 := F0 m 85 ls [va_rf v5, .ref a47]) (by rw [ea47]; rfl) ?_
  refine c_V B hH hl hc K.2.2.1 (C := RX1) (T := TX1) (N := 3) (ci := 1) (As := [va_rf v5]) (ok_X1_add hl9 K.2.1 σ43 a47 v5 (g5.up xσ43) ka47 hGσ43 hYσ43 h) wc_X7_182 1 hd_X1_add ⟨Nat.le_trans (Nat.le_of_ble_eq_true rfl) K.2.2.2.1, Nat.le_trans (Nat.le_of_ble_eq_true rfl) K.2.2.2.2.1⟩ ka47.1 ka47.2 (by decide) rfl rfl (rest := []) rfl (Nat.le_of_ble_eq_true rfl) dX7_readSource_85 (fun σ46 w hq => ?_) (fun σ9 E9 hx9 => hX σ9 E9 _ _ _ (tb_out K.2.2.2.2.2.1 rfl) hx9.1 hx9.2.1 hx9.2.2.1 ((hE.trans xσ43).trans hx9.2.2.2))
  obtain ⟨rfl, h, hGσ46, hYσ46, xσ46⟩ := hq
  have h := h xσ46
  intro H locs ls hH hl hc
  refine W.eq (g2 := F0 m 88 ls []) (rfl) ?_
  try dsimp only at h
  refine lv_goto (tgt := 100) B.1 B.2.1 dX7_readSource_88 (by decide) ?_
  exact a_X7_readSource_100 K hQ hX hTh hK7 _ _ _ _ (g1.up (xσ43.trans xσ46)) g4 h hGσ46 hYσ46 ((hE.trans xσ43).trans xσ46) (hth.up (xσ43.trans xσ46)) _ _ _ hH (lv_sub (l' := [(0, .ref th), (1, va_rf v1), (2, .long r44), (4, .int (i32 v4))]) hl [1, 2, 0, 3] rfl) hc
set_option maxRecDepth 20000 in
theorem a_X7_readSource_24 {Q : Sg → Unit → Prop} {X : Sg → String → Prop} {th : Nat} (K : MD l R p s m args c cX7_readSource 6 RX7 D cA tys A n0 s0 3 84 []) (hQ : CQV p l e R s m args below meth c cX7_readSource D cA A n0 s0 QM σi Q) (hX : CX p l e R s m args below meth c 6 D cA A n0 s0 QM σi X) (hTh : CT p l e R s m args below meth c cX7_readSource 6 D cA A n0 s0 QM σi RX7 X) {K7 : Sg → Option Nat → Int64 → Int → Prop} (hK7 : ∀ (σ : Sg) (v1 : Option Nat) (v2 : Int64) (v4 : Int) (g1 : tyV σ 5 v1) (g4 : rng v4), K7 σ v1 v2 v4 → RG σ → TY σ → Ext σi σ → kO σ th 7 → JJ p l e R s m args below meth c 6 D cA A n0 s0 QM σ 7 [(0, .ref th), (1, va_rf v1), (2, .long v2), (4, .int (i32 v4))] []) : ∀ (σ : Sg) (v1 : Option Nat) (v2 : Int64) (v4 : Int) (g1 : tyV σ 5 v1) (g4 : rng v4), w_X7_readSource_24 th K7 Q X σ v1 v2 v4 → RG σ → TY σ → Ext σi σ → kO σ th 7 → JJ p l e R s m args below meth c 6 D cA A n0 s0 QM σ 24 [(0, .ref th), (1, va_rf v1), (2, .long v2), (4, .int (i32 v4))] [] := by
  intro σ v1 v2 v4 g1 g4 h hGσ hYσ hE hth H locs ls hH hl hc
  have B := K.1
  have hl9 := K.2.2.2.2.2.2
  unfold w_X7_readSource_24 at h
  refine lv_aload_n B.1 B.2.1 dX7_readSource_24 rfl (lv_at hl 0 rfl) ?_
  refine f_getp B hH hth (by decide) rfl wu_X7 0 (by decide) wf_X7_33 rfl rfl dX7_readSource_25 ?_
  obtain ⟨a50, ea50, h⟩ := h
  have ka50 : kO σ a50 8 := (hYσ.get hth (by decide)) a50 ea50
  have h := h ka50
  refine W.eq (g2 := F0 m 28 ls [.ref a50]) (by rw [ea50]; rfl) ?_
  refine c_V B hH hl hc K.2.2.1 (C := RX8) (T := TX8) (N := 3) (ci := 8) (As := []) (ok_X8_fresh hl9 K.2.1 σ a50 ka50 hGσ hYσ h) wc_X7_161 0 hd_X8_fresh ⟨Nat.le_trans (Nat.le_of_ble_eq_true rfl) K.2.2.2.1, Nat.le_trans (Nat.le_of_ble_eq_true rfl) K.2.2.2.2.1⟩ ka50.1 ka50.2 (by decide) rfl rfl (rest := []) rfl (Nat.le_of_ble_eq_true rfl) dX7_readSource_28 (fun σ48 w hq => ?_) (fun σ9 E9 hx9 => hX σ9 E9 _ _ _ (tb_out K.2.2.2.2.2.1 rfl) hx9.1 hx9.2.1 hx9.2.2.1 (hE.trans hx9.2.2.2))
  obtain ⟨r49, rfl, tr49, h, hGσ48, hYσ48, xσ48⟩ := hq
  have h := h xσ48 tr49
  intro H locs ls hH hl hc
  refine W.eq (g2 := F0 m 31 ls [va_rf r49]) (rfl) ?_
  try dsimp only at h
  refine lv_astoreQ (lv' := [(5, va_rf r49), (0, .ref th), (1, va_rf v1), (2, .long v2), (4, .int (i32 v4))]) B.1 B.2.1 dX7_readSource_31 hl (by decide) rfl (fun ls hl => ?_)
  refine lv_aload_n B.1 B.2.1 dX7_readSource_33 rfl (lv_at hl 1 rfl) ?_
  refine f_getp B hH (hth.up xσ48) (by decide) rfl wu_X7 5 (by decide) wf_X7_46 rfl rfl dX7_readSource_34 ?_
  refine lv_aloadQ B.1 B.2.1 dX7_readSource_37 (lv_at hl 0 rfl) ?_
  refine lv_aload_nQ B.1 B.2.1 dX7_readSource_39 rfl (lv_at hl 2 rfl) ?_
  obtain ⟨a51, ea51, h⟩ := h
  have ka51 : kO σ48 a51 5 := (g1.up xσ48) a51 ea51
  have h := h ka51
  refine W.eq (g2 := F0 m 40 ls [.ref a51, va_rf r49, va_rf (gP σ48 th 5)]) (by rw [ea51]; rfl) ?_
  refine f_geti B hH ka51 (by decide) rfl wu_X5 9 (by decide) wf_X7_158 rfl rfl dX7_readSource_40 ?_
  refine lv_iload B.1 B.2.1 dX7_readSource_43 (lv_at hl 4 rfl) ?_
  obtain ⟨a53, ea53, h⟩ := h
  have ka53 : kO σ48 a53 4 := (hYσ48.get (hth.up xσ48) (by decide)) a53 ea53
  have h := h ka53
  refine W.eq (g2 := F0 m 45 ls [.int (i32 v4), .int (i32 (gI σ48 a51 9)), va_rf r49, .ref a53]) (by rw [ea53]; rfl) ?_
  refine c_V B hH hl hc K.2.2.1 (C := RX4) (T := TX4) (N := 14) (ci := 4) (As := [va_rf r49, .int (i32 (gI σ48 a51 9)), .int (i32 v4)]) (ok_X4_readInto hl9 K.2.1 σ48 a53 r49 (gI σ48 a51 9) v4 tr49 (hGσ48 _ _) g4 ka53 hGσ48 hYσ48 h) wc_X7_165 3 hd_X4_readInto ⟨Nat.le_trans (Nat.le_of_ble_eq_true rfl) K.2.2.2.1, Nat.le_trans (Nat.le_of_ble_eq_true rfl) K.2.2.2.2.1⟩ ka53.1 ka53.2 (by decide) rfl rfl (rest := []) rfl (Nat.le_of_ble_eq_true rfl) dX7_readSource_45 (fun σ52 w hq => ?_) (fun σ9 E9 hx9 => hX σ9 E9 _ _ _ (tb_out K.2.2.2.2.2.1 rfl) hx9.1 hx9.2.1 hx9.2.2.1 ((hE.trans xσ48).trans hx9.2.2.2))
  obtain ⟨rfl, h, hGσ52, hYσ52, xσ52⟩ := hq
  have h := h xσ52
  intro H locs ls hH hl hc
  refine W.eq (g2 := F0 m 48 ls []) (rfl) ?_
  try dsimp only at h
  refine lv_aloadQ B.1 B.2.1 dX7_readSource_48 (lv_at hl 0 rfl) ?_
  obtain ⟨a54, ea54, h⟩ := h
  have ka54 : kO σ52 a54 0 := (tr49.up xσ52) a54 ea54
  have h := h ka54
  refine W.eq (g2 := F0 m 50 ls [.ref a54]) (by rw [ea54]; rfl) ?_
  refine f_getl B hH ka54 (by decide) rfl wu_X0 5 (by decide) wf_X7_169 rfl rfl dX7_readSource_50 ?_
  refine lv_lload_n B.1 B.2.1 dX7_readSource_53 rfl (lv_at hl 3 rfl) ?_
  refine W.lcmp B.1 B.2.1 dX7_readSource_54 ?_
  refine lv_if_le (tgt := 91) B.1 B.2.1 dX7_readSource_55 (by decide) (fun h9 => ?_) (fun h9 => ?_)
  · rw [if_pos ((lg_cmp_le _ _).mp h9)] at h
    exact a_X7_readSource_91 K hQ hX hTh hK7 _ _ _ _ _ (g1.up (xσ48.trans xσ52)) g4 (tr49.up xσ52) h hGσ52 hYσ52 ((hE.trans xσ48).trans xσ52) (hth.up (xσ48.trans xσ52)) _ _ _ hH (lv_sub (l' := [(0, .ref th), (1, va_rf v1), (2, .long v2), (4, .int (i32 v4)), (5, va_rf r49)]) hl [1, 2, 3, 4, 0] rfl) hc
  · rw [if_neg (fun q => h9 ((lg_cmp_le _ _).mpr q))] at h
    exact a_X7_readSource_58 K hQ hX hTh hK7 _ _ _ _ _ (g1.up (xσ48.trans xσ52)) g4 (tr49.up xσ52) h hGσ52 hYσ52 ((hE.trans xσ48).trans xσ52) (hth.up (xσ48.trans xσ52)) _ _ _ hH (lv_sub (l' := [(0, .ref th), (1, va_rf v1), (2, .long v2), (4, .int (i32 v4)), (5, va_rf r49)]) hl [1, 2, 3, 4, 0] rfl) hc
set_option maxRecDepth 20000 in
theorem a_X7_readSource_7 {Q : Sg → Unit → Prop} {X : Sg → String → Prop} {th : Nat} (K : MD l R p s m args c cX7_readSource 6 RX7 D cA tys A n0 s0 3 84 []) (hQ : CQV p l e R s m args below meth c cX7_readSource D cA A n0 s0 QM σi Q) (hX : CX p l e R s m args below meth c 6 D cA A n0 s0 QM σi X) (hTh : CT p l e R s m args below meth c cX7_readSource 6 D cA A n0 s0 QM σi RX7 X) {K7 : Sg → Option Nat → Int64 → Int → Prop} (hK7 : ∀ (σ : Sg) (v1 : Option Nat) (v2 : Int64) (v4 : Int) (g1 : tyV σ 5 v1) (g4 : rng v4), K7 σ v1 v2 v4 → RG σ → TY σ → Ext σi σ → kO σ th 7 → JJ p l e R s m args below meth c 6 D cA A n0 s0 QM σ 7 [(0, .ref th), (1, va_rf v1), (2, .long v2), (4, .int (i32 v4))] []) : ∀ (σ : Sg) (v1 : Option Nat) (v2 : Int64) (v4 : Int) (g1 : tyV σ 5 v1) (g4 : rng v4), w_X7_readSource_7 th K7 Q X σ v1 v2 v4 → RG σ → TY σ → Ext σi σ → kO σ th 7 → JJ p l e R s m args below meth c 6 D cA A n0 s0 QM σ 7 [(0, .ref th), (1, va_rf v1), (2, .long v2), (4, .int (i32 v4))] [] := by
  intro σ v1 v2 v4 g1 g4 h hGσ hYσ hE hth H locs ls hH hl hc
  have B := K.1
  have hl9 := K.2.2.2.2.2.2
  unfold w_X7_readSource_7 at h
  refine lv_iload B.1 B.2.1 dX7_readSource_7 (lv_at hl 3 rfl) ?_
  refine lv_aload_n B.1 B.2.1 dX7_readSource_9 rfl (lv_at hl 0 rfl) ?_
  refine f_getp B hH hth (by decide) rfl wu_X7 5 (by decide) wf_X7_46 rfl rfl dX7_readSource_10 ?_
  obtain ⟨a55, ea55, h⟩ := h
  have ka55 : kO σ a55 4 := (hYσ.get hth (by decide)) a55 ea55
  have h := h ka55
  refine W.eq (g2 := F0 m 13 ls [.ref a55, .int (i32 v4)]) (by rw [ea55]; rfl) ?_
  refine f_getp B hH ka55 (by decide) rfl wu_X4 12 (by decide) wf_X7_154 rfl rfl dX7_readSource_13 ?_
  refine lv_aload_nQ B.1 B.2.1 dX7_readSource_16 rfl (lv_at hl 1 rfl) ?_
  obtain ⟨a56, ea56, h⟩ := h
  have ka56 : kO σ a56 5 := g1 a56 ea56
  have h := h ka56
  refine W.eq (g2 := F0 m 17 ls [.ref a56, va_rf (gP σ a55 12), .int (i32 v4)]) (by rw [ea56]; rfl) ?_
  refine f_geti B hH ka56 (by decide) rfl wu_X5 9 (by decide) wf_X7_158 rfl rfl dX7_readSource_17 ?_
  obtain ⟨a57, ea57, h⟩ := h
  have ka57 : kO σ a57 100 := (hYσ.get ka55 (by decide)) a57 ea57
  have h := h ka57
  obtain ⟨q1, h⟩ := h
  refine W.eq (g2 := F0 m 20 ls [.int (i32 (gI σ a56 9)), .ref a57, .int (i32 v4)]) (by rw [ea57]; rfl) ?_
  refine y_iald B K.2.1 hH ka57 q1 dX7_readSource_20 (hYσ.2 _) ?_
  refine lv_icmp_ge (tgt := 106) B.1 B.2.1 dX7_readSource_21 (by decide) (fun h9 => ?_) (fun h9 => ?_)
  · rw [if_pos ((i32_le (hGσ _ _) g4).mp h9)] at h
    exact a_X7_readSource_106 K hQ hX hTh _ h hGσ hYσ hE hth _ _ _ hH (lv_sub (l' := [(0, .ref th)]) hl [0] rfl) hc
  · rw [if_neg (fun q => h9 ((i32_le (hGσ _ _) g4).mpr q))] at h
    exact a_X7_readSource_24 K hQ hX hTh hK7 _ _ _ _ g1 g4 h hGσ hYσ hE hth _ _ _ hH (lv_sub (l' := [(0, .ref th), (1, va_rf v1), (2, .long v2), (4, .int (i32 v4))]) hl [0, 1, 2, 3] rfl) hc
theorem al_X7_readSource_7 {Q : Sg → Unit → Prop} {X : Sg → String → Prop} {th : Nat} (K : MD l R p s m args c cX7_readSource 6 RX7 D cA tys A n0 s0 3 84 []) (hQ : CQV p l e R s m args below meth c cX7_readSource D cA A n0 s0 QM σi Q) (hX : CX p l e R s m args below meth c 6 D cA A n0 s0 QM σi X) (hTh : CT p l e R s m args below meth c cX7_readSource 6 D cA A n0 s0 QM σi RX7 X) : ∀ (n : Nat), ∀ (σ : Sg) (v1 : Option Nat) (v2 : Int64) (v4 : Int) (g1 : tyV σ 5 v1) (g4 : rng v4), wl_X7_readSource_7 th Q X n σ v1 v2 v4 → RG σ → TY σ → Ext σi σ → kO σ th 7 → JJ p l e R s m args below meth c 6 D cA A n0 s0 QM σ 7 [(0, .ref th), (1, va_rf v1), (2, .long v2), (4, .int (i32 v4))] [] := by
  intro n
  induction n with
  | zero => intro σ v1 v2 v4 g1 g4 h; exact h.elim
  | succ n ih => exact fun σ v1 v2 v4 g1 g4 h => a_X7_readSource_7 K hQ hX hTh ih σ v1 v2 v4 g1 g4 h
set_option maxRecDepth 20000 in
theorem a_X7_readSource_0 {Q : Sg → Unit → Prop} {X : Sg → String → Prop} {th : Nat} (K : MD l R p s m args c cX7_readSource 6 RX7 D cA tys A n0 s0 3 84 []) (hQ : CQV p l e R s m args below meth c cX7_readSource D cA A n0 s0 QM σi Q) (hX : CX p l e R s m args below meth c 6 D cA A n0 s0 QM σi X) (hTh : CT p l e R s m args below meth c cX7_readSource 6 D cA A n0 s0 QM σi RX7 X) : ∀ (σ : Sg) (v1 : Option Nat) (g1 : tyV σ 5 v1), w_X7_readSource_0 th Q X σ v1 → RG σ → TY σ → Ext σi σ → kO σ th 7 → JJ p l e R s m args below meth c 6 D cA A n0 s0 QM σ 0 [(0, .ref th), (1, va_rf v1)] [] := by
  intro σ v1 g1 h hGσ hYσ hE hth H locs ls hH hl hc
  have B := K.1
  have hl9 := K.2.2.2.2.2.2
  unfold w_X7_readSource_0 at h
  refine lv_ldc2 B.1 B.2.1 B.2.2.1 (B.2.2.2.1 _ (wk_X7_152)) dX7_readSource_0 ?_
  refine lv_lstore_n (lv' := [(2, .long (-1)), (0, .ref th), (1, va_rf v1)]) B.1 B.2.1 dX7_readSource_3 rfl hl (by decide) (by generalize v1 = w9; cases w9 <;> rfl) (fun ls hl => ?_)
  refine lv_iconst (v := i32 0) B.1 B.2.1 dX7_readSource_4 (by decide) ?_
  refine lv_istore (lv' := [(4, .int (i32 0)), (2, .long (-1)), (0, .ref th), (1, va_rf v1)]) B.1 B.2.1 dX7_readSource_5 hl (by decide) rfl (fun ls hl => ?_)
  obtain ⟨n9, h⟩ := h
  exact al_X7_readSource_7 K hQ hX hTh n9 _ _ _ _ g1 (by unfold rng; omega) h hGσ hYσ hE hth _ _ _ hH (lv_sub (l' := [(0, .ref th), (1, va_rf v1), (2, .long (-1)), (4, .int (i32 0))]) hl [2, 3, 1, 0] rfl) hc
theorem ok_X7_readSource (hl0 : l.stackTraces = false) (hT : TyC cA tys) {Q : Sg → Unit → Prop} {X : Sg → String → Prop} (σ : Sg) (th : Nat) (v1 : Option Nat) (g1 : tyV σ 5 v1) (hth : kO σ th 7) (hG : RG σ) (hY : TY σ) (h : wp_X7_readSource th v1 σ Q X) : Ok l D cA tys A yX7_readSource (.code yX7_readSource cX7_readSource 6 none) 3 84 [.ref th, va_rf v1] σ (QcV σ Q) (QxC σ X) := by
  unfold wp_X7_readSource at h
  exact oc_V hl0 (by decide) (by cases v1 <;> exact Nat.le_of_ble_eq_true rfl) hT (fun p e R s m args below meth c K hQ hX hTh hin9 H locs ls hH hl hc => a_X7_readSource_0 K hQ hX hTh σ v1 g1 h hG hY (Ext.rfl' σ) hth H locs ls hH (lv_sub (l' := [(0, .ref th), (1, va_rf v1)]) hl [0, 1] (by cases v1 <;> rfl)) hc)
theorem dX7_keepMade_0 : decode cX7_keepMade 0 = .ok (.aload_n 2, 1) := by decide +kernel
theorem dX7_keepMade_1 : decode cX7_keepMade 1 = .ok (.getfield 120, 3) := by decide +kernel
theorem dX7_keepMade_4 : decode cX7_keepMade 4 = .ok (.ifCond .ne 8, 3) := by decide +kernel
theorem dX7_keepMade_7 : decode cX7_keepMade 7 = .ok (.aload_n 0, 1) := by decide +kernel
theorem dX7_keepMade_8 : decode cX7_keepMade 8 = .ok (.aload_n 2, 1) := by decide +kernel
theorem dX7_keepMade_9 : decode cX7_keepMade 9 = .ok (.invokevirtual 142, 3) := by decide +kernel
theorem dX7_keepMade_12 : decode cX7_keepMade 12 = .ok (.aload_n 0, 1) := by decide +kernel
theorem dX7_keepMade_13 : decode cX7_keepMade 13 = .ok (.invokevirtual 134, 3) := by decide +kernel
theorem dX7_keepMade_16 : decode cX7_keepMade 16 = .ok (.aload_n 0, 1) := by decide +kernel
theorem dX7_keepMade_17 : decode cX7_keepMade 17 = .ok (.dup, 1) := by decide +kernel
theorem dX7_keepMade_18 : decode cX7_keepMade 18 = .ok (.getfield 51, 3) := by decide +kernel
theorem dX7_keepMade_21 : decode cX7_keepMade 21 = .ok (.aload_n 0, 1) := by decide +kernel
theorem dX7_keepMade_22 : decode cX7_keepMade 22 = .ok (.getfield 42, 3) := by decide +kernel
theorem dX7_keepMade_25 : decode cX7_keepMade 25 = .ok (.getfield 114, 3) := by decide +kernel
theorem dX7_keepMade_28 : decode cX7_keepMade 28 = .ok (.getfield 146, 3) := by decide +kernel
theorem dX7_keepMade_31 : decode cX7_keepMade 31 = .ok (.iadd, 1) := by decide +kernel
theorem dX7_keepMade_32 : decode cX7_keepMade 32 = .ok (.putfield 51, 3) := by decide +kernel
theorem dX7_keepMade_35 : decode cX7_keepMade 35 = .ok (.aload_n 0, 1) := by decide +kernel
theorem dX7_keepMade_36 : decode cX7_keepMade 36 = .ok (.getfield 42, 3) := by decide +kernel
theorem dX7_keepMade_39 : decode cX7_keepMade 39 = .ok (.getfield 114, 3) := by decide +kernel
theorem dX7_keepMade_42 : decode cX7_keepMade 42 = .ok (.aload_n 0, 1) := by decide +kernel
theorem dX7_keepMade_43 : decode cX7_keepMade 43 = .ok (.getfield 22, 3) := by decide +kernel
theorem dX7_keepMade_46 : decode cX7_keepMade 46 = .ok (.iload_n 1, 1) := by decide +kernel
theorem dX7_keepMade_47 : decode cX7_keepMade 47 = .ok (.aaload, 1) := by decide +kernel
theorem dX7_keepMade_48 : decode cX7_keepMade 48 = .ok (.invokevirtual 149, 3) := by decide +kernel
theorem dX7_keepMade_51 : decode cX7_keepMade 51 = .ok (.aload_n 0, 1) := by decide +kernel
theorem dX7_keepMade_52 : decode cX7_keepMade 52 = .ok (.getfield 33, 3) := by decide +kernel
theorem dX7_keepMade_55 : decode cX7_keepMade 55 = .ok (.aload_n 0, 1) := by decide +kernel
theorem dX7_keepMade_56 : decode cX7_keepMade 56 = .ok (.getfield 12, 3) := by decide +kernel
theorem dX7_keepMade_59 : decode cX7_keepMade 59 = .ok (.getfield 108, 3) := by decide +kernel
theorem dX7_keepMade_62 : decode cX7_keepMade 62 = .ok (.invokevirtual 102, 3) := by decide +kernel
theorem dX7_keepMade_65 : decode cX7_keepMade 65 = .ok (.aload_n 0, 1) := by decide +kernel
theorem dX7_keepMade_66 : decode cX7_keepMade 66 = .ok (.getfield 33, 3) := by decide +kernel
theorem dX7_keepMade_69 : decode cX7_keepMade 69 = .ok (.aload_n 0, 1) := by decide +kernel
theorem dX7_keepMade_70 : decode cX7_keepMade 70 = .ok (.getfield 12, 3) := by decide +kernel
theorem dX7_keepMade_73 : decode cX7_keepMade 73 = .ok (.getfield 111, 3) := by decide +kernel
theorem dX7_keepMade_76 : decode cX7_keepMade 76 = .ok (.invokevirtual 102, 3) := by decide +kernel
theorem dX7_keepMade_79 : decode cX7_keepMade 79 = .ok (.aload_n 0, 1) := by decide +kernel
theorem dX7_keepMade_80 : decode cX7_keepMade 80 = .ok (.getfield 42, 3) := by decide +kernel
theorem dX7_keepMade_83 : decode cX7_keepMade 83 = .ok (.iconst 0, 1) := by decide +kernel
theorem dX7_keepMade_84 : decode cX7_keepMade 84 = .ok (.putfield 117, 3) := by decide +kernel
theorem dX7_keepMade_87 : decode cX7_keepMade 87 = .ok (.return_, 1) := by decide +kernel
set_option maxRecDepth 20000 in
theorem a_X7_keepMade_12 {Q : Sg → Unit → Prop} {X : Sg → String → Prop} {th : Nat} (K : MD l R p s m args c cX7_keepMade 3 RX7 D cA tys A n0 s0 7 110 []) (hQ : CQV p l e R s m args below meth c cX7_keepMade D cA A n0 s0 QM σi Q) (hX : CX p l e R s m args below meth c 3 D cA A n0 s0 QM σi X) (hTh : CT p l e R s m args below meth c cX7_keepMade 3 D cA A n0 s0 QM σi RX7 X) : ∀ (σ : Sg) (v1 : Int) (g1 : rng v1), w_X7_keepMade_12 th Q X σ v1 → RG σ → TY σ → Ext σi σ → kO σ th 7 → JJ p l e R s m args below meth c 3 D cA A n0 s0 QM σ 12 [(0, .ref th), (1, .int (i32 v1))] [] := by
  intro σ v1 g1 h hGσ hYσ hE hth H locs ls hH hl hc
  have B := K.1
  have hl9 := K.2.2.2.2.2.2
  unfold w_X7_keepMade_12 at h
  refine lv_aload_n B.1 B.2.1 dX7_keepMade_12 rfl (lv_at hl 0 rfl) ?_
  refine W.eq (g2 := F0 m 13 ls [.ref th]) (rfl) ?_
  refine c_V B hH hl hc K.2.2.1 (C := RX7) (T := TX7) (N := 7) (ci := 7) (As := []) (ok_X7_limit hl9 K.2.1 σ th hth hGσ hYσ h) wc_X7_134 0 hd_X7_limit ⟨Nat.le_trans (Nat.le_of_ble_eq_true rfl) K.2.2.2.1, Nat.le_trans (Nat.le_of_ble_eq_true rfl) K.2.2.2.2.1⟩ hth.1 hth.2 (by decide) rfl rfl (rest := []) rfl (Nat.le_of_ble_eq_true rfl) dX7_keepMade_13 (fun σ37 w hq => ?_) (fun σ9 E9 hx9 => hX σ9 E9 _ _ _ (tb_out K.2.2.2.2.2.1 rfl) hx9.1 hx9.2.1 hx9.2.2.1 (hE.trans hx9.2.2.2))
  obtain ⟨rfl, h, hGσ37, hYσ37, xσ37⟩ := hq
  have h := h xσ37
  intro H locs ls hH hl hc
  refine W.eq (g2 := F0 m 16 ls []) (rfl) ?_
  try dsimp only at h
  refine lv_aload_n B.1 B.2.1 dX7_keepMade_16 rfl (lv_at hl 0 rfl) ?_
  refine lv_dup B.1 B.2.1 dX7_keepMade_17 rfl ?_
  refine f_geti B hH (hth.up xσ37) (by decide) rfl wu_X7 6 (by decide) wf_X7_51 rfl rfl dX7_keepMade_18 ?_
  refine lv_aload_n B.1 B.2.1 dX7_keepMade_21 rfl (lv_at hl 0 rfl) ?_
  refine f_getp B hH (hth.up xσ37) (by decide) rfl wu_X7 1 (by decide) wf_X7_42 rfl rfl dX7_keepMade_22 ?_
  obtain ⟨a38, ea38, h⟩ := h
  have ka38 : kO σ37 a38 11 := (hYσ37.get (hth.up xσ37) (by decide)) a38 ea38
  have h := h ka38
  refine W.eq (g2 := F0 m 25 ls [.ref a38, .int (i32 (gI σ37 th 6)), .ref th]) (by rw [ea38]; rfl) ?_
  refine f_getp B hH ka38 (by decide) rfl wu_X11 2 (by decide) wf_X7_114 rfl rfl dX7_keepMade_25 ?_
  obtain ⟨a39, ea39, h⟩ := h
  have ka39 : kO σ37 a39 1 := (hYσ37.get ka38 (by decide)) a39 ea39
  have h := h ka39
  refine W.eq (g2 := F0 m 28 ls [.ref a39, .int (i32 (gI σ37 th 6)), .ref th]) (by rw [ea39]; rfl) ?_
  refine f_geti B hH ka39 (by decide) rfl wu_X1 2 (by decide) wf_X7_146 rfl rfl dX7_keepMade_28 ?_
  obtain ⟨q1, h⟩ := h
  refine lv_iadd B.1 B.2.1 dX7_keepMade_31 ?_
  rw [i32_add]
  obtain ⟨σ40, eσ40⟩ : ∃ z, z = pI σ37 th 6 (gI σ37 th 6 + gI σ37 a39 2) := ⟨_, rfl⟩
  have h := h σ40 eσ40
  refine f_puti B hH (hth.up xσ37) (by decide) rfl wu_X7 tyX7 tyX7_ok nmX7 6 (by decide) wf_X7_51 rfl (ty := .int) rfl rfl rfl rfl rfl dX7_keepMade_32 (fun H locs hH => ?_)
  have hH : Hd D cA A s (pI σ37 th 6 (gI σ37 th 6 + gI σ37 a39 2)) H locs := hH
  rw [← eσ40] at hH
  have hGσ40 : RG σ40 := by rw [eσ40]; exact hGσ37.pI q1
  have hYσ40 : TY σ40 := by rw [eσ40]; exact hYσ37.pI
  have xσ40 : Ext σ37 σ40 := by rw [eσ40]; exact Ext.pI
  have hc : CB n0 s0 σ40 := by rw [eσ40]; exact hc
  rw [show gc σ37 = gc σ40 by rw [eσ40]; try rfl, show gs σ37 = gs σ40 by rw [eσ40]; try rfl]
  refine lv_aload_n B.1 B.2.1 dX7_keepMade_35 rfl (lv_at hl 0 rfl) ?_
  refine f_getp B hH (hth.up (xσ37.trans xσ40)) (by decide) rfl wu_X7 1 (by decide) wf_X7_42 rfl rfl dX7_keepMade_36 ?_
  obtain ⟨a41, ea41, h⟩ := h
  have ka41 : kO σ40 a41 11 := (hYσ40.get (hth.up (xσ37.trans xσ40)) (by decide)) a41 ea41
  have h := h ka41
  refine W.eq (g2 := F0 m 39 ls [.ref a41]) (by rw [ea41]; rfl) ?_
  refine f_getp B hH ka41 (by decide) rfl wu_X11 2 (by decide) wf_X7_114 rfl rfl dX7_keepMade_39 ?_
  refine lv_aload_n B.1 B.2.1 dX7_keepMade_42 rfl (lv_at hl 0 rfl) ?_
  refine f_getp B hH (hth.up (xσ37.trans xσ40)) (by decide) rfl wu_X7 3 (by decide) wf_X7_22 rfl rfl dX7_keepMade_43 ?_
  refine lv_iload_n B.1 B.2.1 dX7_keepMade_46 rfl (lv_at hl 1 rfl) ?_
  obtain ⟨a42, ea42, h⟩ := h
  have ka42 : kO σ40 a42 111 := (hYσ40.get (hth.up (xσ37.trans xσ40)) (by decide)) a42 ea42
  have h := h ka42
  obtain ⟨q2, h⟩ := h
  refine W.eq (g2 := F0 m 47 ls [.int (i32 v1), .ref a42, va_rf (gP σ40 a41 2)]) (by rw [ea42]; rfl) ?_
  refine y_aald B hH (t0 := 4) ka42 (by decide) K.2.1.2.1 q2 (hYσ40.2 _) dX7_keepMade_47 ?_
  obtain ⟨a44, ea44, h⟩ := h
  have ka44 : kO σ40 a44 1 := (hYσ40.get ka41 (by decide)) a44 ea44
  have h := h ka44
  refine W.eq (g2 := F0 m 48 ls [va_rf (gP σ40 a42 v1.toNat), .ref a44]) (by rw [ea44]; rfl) ?_
  refine c_V B hH hl hc K.2.2.1 (C := RX1) (T := TX1) (N := 3) (ci := 1) (As := [va_rf (gP σ40 a42 v1.toNat)]) (ok_X1_moveAllTo hl9 K.2.1 σ40 a44 (gP σ40 a42 v1.toNat) (hYσ40.get ka42 rfl) ka44 hGσ40 hYσ40 h) wc_X7_149 1 hd_X1_moveAllTo ⟨Nat.le_trans (Nat.le_of_ble_eq_true rfl) K.2.2.2.1, Nat.le_trans (Nat.le_of_ble_eq_true rfl) K.2.2.2.2.1⟩ ka44.1 ka44.2 (by decide) rfl rfl (rest := []) rfl (Nat.le_of_ble_eq_true rfl) dX7_keepMade_48 (fun σ43 w hq => ?_) (fun σ9 E9 hx9 => hX σ9 E9 _ _ _ (tb_out K.2.2.2.2.2.1 rfl) hx9.1 hx9.2.1 hx9.2.2.1 (((hE.trans xσ37).trans xσ40).trans hx9.2.2.2))
  obtain ⟨rfl, h, hGσ43, hYσ43, xσ43⟩ := hq
  have h := h xσ43
  intro H locs ls hH hl hc
  refine W.eq (g2 := F0 m 51 ls []) (rfl) ?_
  try dsimp only at h
  refine lv_aload_n B.1 B.2.1 dX7_keepMade_51 rfl (lv_at hl 0 rfl) ?_
  refine f_getp B hH (hth.up (xσ37.trans (xσ40.trans xσ43))) (by decide) rfl wu_X7 0 (by decide) wf_X7_33 rfl rfl dX7_keepMade_52 ?_
  refine lv_aload_n B.1 B.2.1 dX7_keepMade_55 rfl (lv_at hl 0 rfl) ?_
  refine f_getp B hH (hth.up (xσ37.trans (xσ40.trans xσ43))) (by decide) rfl wu_X7 2 (by decide) wf_X7_12 rfl rfl dX7_keepMade_56 ?_
  obtain ⟨a45, ea45, h⟩ := h
  have ka45 : kO σ43 a45 10 := (hYσ43.get (hth.up (xσ37.trans (xσ40.trans xσ43))) (by decide)) a45 ea45
  have h := h ka45
  refine W.eq (g2 := F0 m 59 ls [.ref a45, va_rf (gP σ43 th 0)]) (by rw [ea45]; rfl) ?_
  refine f_getp B hH ka45 (by decide) rfl wu_X10 2 (by decide) wf_X7_108 rfl rfl dX7_keepMade_59 ?_
  obtain ⟨a47, ea47, h⟩ := h
  have ka47 : kO σ43 a47 8 := (hYσ43.get (hth.up (xσ37.trans (xσ40.trans xσ43))) (by decide)) a47 ea47
  have h := h ka47
  refine W.eq (g2 := F0 m 62 ls [va_rf (gP σ43 a45 2), .ref a47]) (by rw [ea47]; rfl) ?_
  refine c_V B hH hl hc K.2.2.1 (C := RX8) (T := TX8) (N := 3) (ci := 8) (As := [va_rf (gP σ43 a45 2)]) (ok_X8_releaseAll hl9 K.2.1 σ43 a47 (gP σ43 a45 2) (hYσ43.get ka45 (by decide)) ka47 hGσ43 hYσ43 h) wc_X7_102 1 hd_X8_releaseAll ⟨Nat.le_trans (Nat.le_of_ble_eq_true rfl) K.2.2.2.1, Nat.le_trans (Nat.le_of_ble_eq_true rfl) K.2.2.2.2.1⟩ ka47.1 ka47.2 (by decide) rfl rfl (rest := []) rfl (Nat.le_of_ble_eq_true rfl) dX7_keepMade_62 (fun σ46 w hq => ?_) (fun σ9 E9 hx9 => hX σ9 E9 _ _ _ (tb_out K.2.2.2.2.2.1 rfl) hx9.1 hx9.2.1 hx9.2.2.1 ((((hE.trans xσ37).trans xσ40).trans xσ43).trans hx9.2.2.2))
  obtain ⟨rfl, h, hGσ46, hYσ46, xσ46⟩ := hq
  have h := h xσ46
  intro H locs ls hH hl hc
  refine W.eq (g2 := F0 m 65 ls []) (rfl) ?_
  try dsimp only at h
  refine lv_aload_n B.1 B.2.1 dX7_keepMade_65 rfl (lv_at hl 0 rfl) ?_
  refine f_getp B hH (hth.up (xσ37.trans (xσ40.trans (xσ43.trans xσ46)))) (by decide) rfl wu_X7 0 (by decide) wf_X7_33 rfl rfl dX7_keepMade_66 ?_
  refine lv_aload_n B.1 B.2.1 dX7_keepMade_69 rfl (lv_at hl 0 rfl) ?_
  refine f_getp B hH (hth.up (xσ37.trans (xσ40.trans (xσ43.trans xσ46)))) (by decide) rfl wu_X7 2 (by decide) wf_X7_12 rfl rfl dX7_keepMade_70 ?_
  obtain ⟨a48, ea48, h⟩ := h
  have ka48 : kO σ46 a48 10 := (hYσ46.get (hth.up (xσ37.trans (xσ40.trans (xσ43.trans xσ46)))) (by decide)) a48 ea48
  have h := h ka48
  refine W.eq (g2 := F0 m 73 ls [.ref a48, va_rf (gP σ46 th 0)]) (by rw [ea48]; rfl) ?_
  refine f_getp B hH ka48 (by decide) rfl wu_X10 3 (by decide) wf_X7_111 rfl rfl dX7_keepMade_73 ?_
  obtain ⟨a50, ea50, h⟩ := h
  have ka50 : kO σ46 a50 8 := (hYσ46.get (hth.up (xσ37.trans (xσ40.trans (xσ43.trans xσ46)))) (by decide)) a50 ea50
  have h := h ka50
  refine W.eq (g2 := F0 m 76 ls [va_rf (gP σ46 a48 3), .ref a50]) (by rw [ea50]; rfl) ?_
  refine c_V B hH hl hc K.2.2.1 (C := RX8) (T := TX8) (N := 3) (ci := 8) (As := [va_rf (gP σ46 a48 3)]) (ok_X8_releaseAll hl9 K.2.1 σ46 a50 (gP σ46 a48 3) (hYσ46.get ka48 (by decide)) ka50 hGσ46 hYσ46 h) wc_X7_102 1 hd_X8_releaseAll ⟨Nat.le_trans (Nat.le_of_ble_eq_true rfl) K.2.2.2.1, Nat.le_trans (Nat.le_of_ble_eq_true rfl) K.2.2.2.2.1⟩ ka50.1 ka50.2 (by decide) rfl rfl (rest := []) rfl (Nat.le_of_ble_eq_true rfl) dX7_keepMade_76 (fun σ49 w hq => ?_) (fun σ9 E9 hx9 => hX σ9 E9 _ _ _ (tb_out K.2.2.2.2.2.1 rfl) hx9.1 hx9.2.1 hx9.2.2.1 (((((hE.trans xσ37).trans xσ40).trans xσ43).trans xσ46).trans hx9.2.2.2))
  obtain ⟨rfl, h, hGσ49, hYσ49, xσ49⟩ := hq
  have h := h xσ49
  intro H locs ls hH hl hc
  refine W.eq (g2 := F0 m 79 ls []) (rfl) ?_
  try dsimp only at h
  refine lv_aload_n B.1 B.2.1 dX7_keepMade_79 rfl (lv_at hl 0 rfl) ?_
  refine f_getp B hH (hth.up (xσ37.trans (xσ40.trans (xσ43.trans (xσ46.trans xσ49))))) (by decide) rfl wu_X7 1 (by decide) wf_X7_42 rfl rfl dX7_keepMade_80 ?_
  refine lv_iconst (v := i32 0) B.1 B.2.1 dX7_keepMade_83 (by decide) ?_
  obtain ⟨a51, ea51, h⟩ := h
  have ka51 : kO σ49 a51 11 := (hYσ49.get (hth.up (xσ37.trans (xσ40.trans (xσ43.trans (xσ46.trans xσ49))))) (by decide)) a51 ea51
  have h := h ka51
  obtain ⟨σ52, eσ52⟩ : ∃ z, z = pI σ49 a51 4 0 := ⟨_, rfl⟩
  have h := h σ52 eσ52
  refine W.eq (g2 := F0 m 84 ls [.int (i32 0), .ref a51]) (by rw [ea51]; rfl) ?_
  refine f_puti B hH ka51 (by decide) rfl wu_X11 tyX11 tyX11_ok nmX11 4 (by decide) wf_X7_117 rfl (ty := .int) rfl rfl rfl rfl rfl dX7_keepMade_84 (fun H locs hH => ?_)
  have hH : Hd D cA A s (pI σ49 a51 4 0) H locs := hH
  rw [← eσ52] at hH
  have hGσ52 : RG σ52 := by rw [eσ52]; exact hGσ49.pI (by unfold rng; omega)
  have hYσ52 : TY σ52 := by rw [eσ52]; exact hYσ49.pI
  have xσ52 : Ext σ49 σ52 := by rw [eσ52]; exact Ext.pI
  have hc : CB n0 s0 σ52 := by rw [eσ52]; exact hc
  rw [show gc σ49 = gc σ52 by rw [eσ52]; try rfl, show gs σ49 = gs σ52 by rw [eσ52]; try rfl]
  exact hQ _ _ _ _ _ dX7_keepMade_87 hH hc h hGσ52 hYσ52 ((((((hE.trans xσ37).trans xσ40).trans xσ43).trans xσ46).trans xσ49).trans xσ52)
set_option maxRecDepth 20000 in
theorem a_X7_keepMade_7 {Q : Sg → Unit → Prop} {X : Sg → String → Prop} {th : Nat} (K : MD l R p s m args c cX7_keepMade 3 RX7 D cA tys A n0 s0 7 110 []) (hQ : CQV p l e R s m args below meth c cX7_keepMade D cA A n0 s0 QM σi Q) (hX : CX p l e R s m args below meth c 3 D cA A n0 s0 QM σi X) (hTh : CT p l e R s m args below meth c cX7_keepMade 3 D cA A n0 s0 QM σi RX7 X) : ∀ (σ : Sg) (v1 : Int) (v2 : Option Nat) (g1 : rng v1) (g2 : tyV σ 5 v2), w_X7_keepMade_7 th Q X σ v1 v2 → RG σ → TY σ → Ext σi σ → kO σ th 7 → JJ p l e R s m args below meth c 3 D cA A n0 s0 QM σ 7 [(0, .ref th), (1, .int (i32 v1)), (2, va_rf v2)] [] := by
  intro σ v1 v2 g1 g2 h hGσ hYσ hE hth H locs ls hH hl hc
  have B := K.1
  have hl9 := K.2.2.2.2.2.2
  unfold w_X7_keepMade_7 at h
  refine lv_aload_n B.1 B.2.1 dX7_keepMade_7 rfl (lv_at hl 0 rfl) ?_
  refine lv_aload_nQ B.1 B.2.1 dX7_keepMade_8 rfl (lv_at hl 2 rfl) ?_
  refine W.eq (g2 := F0 m 9 ls [va_rf v2, .ref th]) (rfl) ?_
  refine c_V B hH hl hc K.2.2.1 (C := RX7) (T := TX7) (N := 7) (ci := 7) (As := [va_rf v2]) (ok_X7_readSource hl9 K.2.1 σ th v2 g2 hth hGσ hYσ h) wc_X7_142 1 hd_X7_readSource ⟨Nat.le_trans (Nat.le_of_ble_eq_true rfl) K.2.2.2.1, Nat.le_trans (Nat.le_of_ble_eq_true rfl) K.2.2.2.2.1⟩ hth.1 hth.2 (by decide) rfl rfl (rest := []) rfl (Nat.le_of_ble_eq_true rfl) dX7_keepMade_9 (fun σ53 w hq => ?_) (fun σ9 E9 hx9 => hX σ9 E9 _ _ _ (tb_out K.2.2.2.2.2.1 rfl) hx9.1 hx9.2.1 hx9.2.2.1 (hE.trans hx9.2.2.2))
  obtain ⟨rfl, h, hGσ53, hYσ53, xσ53⟩ := hq
  have h := h xσ53
  intro H locs ls hH hl hc
  refine W.eq (g2 := F0 m 12 ls []) (rfl) ?_
  try dsimp only at h
  exact a_X7_keepMade_12 K hQ hX hTh _ _ g1 h hGσ53 hYσ53 (hE.trans xσ53) (hth.up xσ53) _ _ _ hH (lv_sub (l' := [(0, .ref th), (1, .int (i32 v1))]) hl [0, 1] rfl) hc
set_option maxRecDepth 20000 in
theorem a_X7_keepMade_0 {Q : Sg → Unit → Prop} {X : Sg → String → Prop} {th : Nat} (K : MD l R p s m args c cX7_keepMade 3 RX7 D cA tys A n0 s0 7 110 []) (hQ : CQV p l e R s m args below meth c cX7_keepMade D cA A n0 s0 QM σi Q) (hX : CX p l e R s m args below meth c 3 D cA A n0 s0 QM σi X) (hTh : CT p l e R s m args below meth c cX7_keepMade 3 D cA A n0 s0 QM σi RX7 X) : ∀ (σ : Sg) (v1 : Int) (v2 : Option Nat) (g1 : rng v1) (g2 : tyV σ 5 v2), w_X7_keepMade_0 th Q X σ v1 v2 → RG σ → TY σ → Ext σi σ → kO σ th 7 → JJ p l e R s m args below meth c 3 D cA A n0 s0 QM σ 0 [(0, .ref th), (1, .int (i32 v1)), (2, va_rf v2)] [] := by
  intro σ v1 v2 g1 g2 h hGσ hYσ hE hth H locs ls hH hl hc
  have B := K.1
  have hl9 := K.2.2.2.2.2.2
  unfold w_X7_keepMade_0 at h
  refine lv_aload_nQ B.1 B.2.1 dX7_keepMade_0 rfl (lv_at hl 2 rfl) ?_
  obtain ⟨a54, ea54, h⟩ := h
  have ka54 : kO σ a54 5 := g2 a54 ea54
  have h := h ka54
  refine W.eq (g2 := F0 m 1 ls [.ref a54]) (by rw [ea54]; rfl) ?_
  refine f_geti B hH ka54 (by decide) rfl wu_X5 6 (by decide) wf_X7_120 rfl rfl dX7_keepMade_1 ?_
  refine lv_if_ne (tgt := 12) B.1 B.2.1 dX7_keepMade_4 (by decide) (fun h9 => ?_) (fun h9 => ?_)
  · rw [if_pos (fun q => h9 ((z_eq (hGσ _ _)).mpr q))] at h
    exact a_X7_keepMade_12 K hQ hX hTh _ _ g1 h hGσ hYσ hE hth _ _ _ hH (lv_sub (l' := [(0, .ref th), (1, .int (i32 v1))]) hl [0, 1] rfl) hc
  · rw [if_neg (fun q => q ((z_eq (hGσ _ _)).mp h9))] at h
    exact a_X7_keepMade_7 K hQ hX hTh _ _ _ g1 g2 h hGσ hYσ hE hth _ _ _ hH (lv_sub (l' := [(0, .ref th), (1, .int (i32 v1)), (2, va_rf v2)]) hl [0, 1, 2] rfl) hc
theorem ok_X7_keepMade (hl0 : l.stackTraces = false) (hT : TyC cA tys) {Q : Sg → Unit → Prop} {X : Sg → String → Prop} (σ : Sg) (th : Nat) (v1 : Int) (v2 : Option Nat) (g1 : rng v1) (g2 : tyV σ 5 v2) (hth : kO σ th 7) (hG : RG σ) (hY : TY σ) (h : wp_X7_keepMade th v1 v2 σ Q X) : Ok l D cA tys A yX7_keepMade (.code yX7_keepMade cX7_keepMade 3 none) 7 110 [.ref th, .int (i32 v1), va_rf v2] σ (QcV σ Q) (QxC σ X) := by
  unfold wp_X7_keepMade at h
  exact oc_V hl0 (by decide) (by cases v2 <;> exact Nat.le_of_ble_eq_true rfl) hT (fun p e R s m args below meth c K hQ hX hTh hin9 H locs ls hH hl hc => a_X7_keepMade_0 K hQ hX hTh σ v1 v2 g1 g2 h hG hY (Ext.rfl' σ) hth H locs ls hH (lv_sub (l' := [(0, .ref th), (1, .int (i32 v1)), (2, va_rf v2)]) hl [0, 1, 2] (by cases v2 <;> rfl)) hc)
theorem dX7_isRight_0 : decode cX7_isRight 0 = .ok (.aload_n 0, 1) := by decide +kernel
theorem dX7_isRight_1 : decode cX7_isRight 1 = .ok (.aload_n 1, 1) := by decide +kernel
theorem dX7_isRight_2 : decode cX7_isRight 2 = .ok (.putfield 46, 3) := by decide +kernel
theorem dX7_isRight_5 : decode cX7_isRight 5 = .ok (.aload_n 0, 1) := by decide +kernel
theorem dX7_isRight_6 : decode cX7_isRight 6 = .ok (.getfield 42, 3) := by decide +kernel
theorem dX7_isRight_9 : decode cX7_isRight 9 = .ok (.aload_n 1, 1) := by decide +kernel
theorem dX7_isRight_10 : decode cX7_isRight 10 = .ok (.putfield 50, 3) := by decide +kernel
theorem dX7_isRight_13 : decode cX7_isRight 13 = .ok (.aload_n 0, 1) := by decide +kernel
theorem dX7_isRight_14 : decode cX7_isRight 14 = .ok (.iconst 0, 1) := by decide +kernel
theorem dX7_isRight_15 : decode cX7_isRight 15 = .ok (.putfield 51, 3) := by decide +kernel
theorem dX7_isRight_18 : decode cX7_isRight 18 = .ok (.iconst 0, 1) := by decide +kernel
theorem dX7_isRight_19 : decode cX7_isRight 19 = .ok (.istore_n 3, 1) := by decide +kernel
theorem dX7_isRight_20 : decode cX7_isRight 20 = .ok (.iload_n 3, 1) := by decide +kernel
theorem dX7_isRight_21 : decode cX7_isRight 21 = .ok (.aload_n 0, 1) := by decide +kernel
theorem dX7_isRight_22 : decode cX7_isRight 22 = .ok (.getfield 46, 3) := by decide +kernel
theorem dX7_isRight_25 : decode cX7_isRight 25 = .ok (.getfield 55, 3) := by decide +kernel
theorem dX7_isRight_28 : decode cX7_isRight 28 = .ok (.if_icmp .ge 67, 3) := by decide +kernel
theorem dX7_isRight_31 : decode cX7_isRight 31 = .ok (.aload_n 0, 1) := by decide +kernel
theorem dX7_isRight_32 : decode cX7_isRight 32 = .ok (.getfield 46, 3) := by decide +kernel
theorem dX7_isRight_35 : decode cX7_isRight 35 = .ok (.getfield 60, 3) := by decide +kernel
theorem dX7_isRight_38 : decode cX7_isRight 38 = .ok (.iload_n 3, 1) := by decide +kernel
theorem dX7_isRight_39 : decode cX7_isRight 39 = .ok (.aaload, 1) := by decide +kernel
theorem dX7_isRight_40 : decode cX7_isRight 40 = .ok (.astore 4, 2) := by decide +kernel
theorem dX7_isRight_42 : decode cX7_isRight 42 = .ok (.aload_n 0, 1) := by decide +kernel
theorem dX7_isRight_43 : decode cX7_isRight 43 = .ok (.aload 4, 2) := by decide +kernel
theorem dX7_isRight_45 : decode cX7_isRight 45 = .ok (.iconst 0, 1) := by decide +kernel
theorem dX7_isRight_46 : decode cX7_isRight 46 = .ok (.aload 4, 2) := by decide +kernel
theorem dX7_isRight_48 : decode cX7_isRight 48 = .ok (.getfield 64, 3) := by decide +kernel
theorem dX7_isRight_51 : decode cX7_isRight 51 = .ok (.invokevirtual 69, 3) := by decide +kernel
theorem dX7_isRight_54 : decode cX7_isRight 54 = .ok (.aload_n 0, 1) := by decide +kernel
theorem dX7_isRight_55 : decode cX7_isRight 55 = .ok (.aload 4, 2) := by decide +kernel
theorem dX7_isRight_57 : decode cX7_isRight 57 = .ok (.iconst 1, 1) := by decide +kernel
theorem dX7_isRight_58 : decode cX7_isRight 58 = .ok (.aload 4, 2) := by decide +kernel
theorem dX7_isRight_60 : decode cX7_isRight 60 = .ok (.getfield 73, 3) := by decide +kernel
theorem dX7_isRight_63 : decode cX7_isRight 63 = .ok (.invokevirtual 69, 3) := by decide +kernel
theorem dX7_isRight_66 : decode cX7_isRight 66 = .ok (.aload_n 0, 1) := by decide +kernel
theorem dX7_isRight_67 : decode cX7_isRight 67 = .ok (.getfield 42, 3) := by decide +kernel
theorem dX7_isRight_70 : decode cX7_isRight 70 = .ok (.aload 4, 2) := by decide +kernel
theorem dX7_isRight_72 : decode cX7_isRight 72 = .ok (.aload_n 0, 1) := by decide +kernel
theorem dX7_isRight_73 : decode cX7_isRight 73 = .ok (.getfield 12, 3) := by decide +kernel
theorem dX7_isRight_76 : decode cX7_isRight 76 = .ok (.ldc2_w 76, 3) := by decide +kernel
theorem dX7_isRight_79 : decode cX7_isRight 79 = .ok (.invokevirtual 78, 3) := by decide +kernel
theorem dX7_isRight_82 : decode cX7_isRight 82 = .ok (.aload_n 0, 1) := by decide +kernel
theorem dX7_isRight_83 : decode cX7_isRight 83 = .ok (.iload_n 3, 1) := by decide +kernel
theorem dX7_isRight_84 : decode cX7_isRight 84 = .ok (.aload 4, 2) := by decide +kernel
theorem dX7_isRight_86 : decode cX7_isRight 86 = .ok (.invokevirtual 82, 3) := by decide +kernel
theorem dX7_isRight_89 : decode cX7_isRight 89 = .ok (.iinc 3 1, 3) := by decide +kernel
theorem dX7_isRight_92 : decode cX7_isRight 92 = .ok (.goto (-72), 3) := by decide +kernel
theorem dX7_isRight_95 : decode cX7_isRight 95 = .ok (.goto 6, 3) := by decide +kernel
theorem dX7_isRight_98 : decode cX7_isRight 98 = .ok (.astore_n 3, 1) := by decide +kernel
theorem dX7_isRight_99 : decode cX7_isRight 99 = .ok (.iconst 0, 1) := by decide +kernel
theorem dX7_isRight_100 : decode cX7_isRight 100 = .ok (.ireturn, 1) := by decide +kernel
theorem dX7_isRight_101 : decode cX7_isRight 101 = .ok (.iconst 0, 1) := by decide +kernel
theorem dX7_isRight_102 : decode cX7_isRight 102 = .ok (.istore_n 3, 1) := by decide +kernel
theorem dX7_isRight_103 : decode cX7_isRight 103 = .ok (.iload_n 3, 1) := by decide +kernel
theorem dX7_isRight_104 : decode cX7_isRight 104 = .ok (.aload_n 0, 1) := by decide +kernel
theorem dX7_isRight_105 : decode cX7_isRight 105 = .ok (.getfield 46, 3) := by decide +kernel
theorem dX7_isRight_108 : decode cX7_isRight 108 = .ok (.getfield 88, 3) := by decide +kernel
theorem dX7_isRight_111 : decode cX7_isRight 111 = .ok (.if_icmp .ge 46, 3) := by decide +kernel
theorem dX7_isRight_114 : decode cX7_isRight 114 = .ok (.aload_n 0, 1) := by decide +kernel
theorem dX7_isRight_115 : decode cX7_isRight 115 = .ok (.getfield 46, 3) := by decide +kernel
theorem dX7_isRight_118 : decode cX7_isRight 118 = .ok (.iload_n 3, 1) := by decide +kernel
theorem dX7_isRight_119 : decode cX7_isRight 119 = .ok (.invokevirtual 91, 3) := by decide +kernel
theorem dX7_isRight_122 : decode cX7_isRight 122 = .ok (.astore 4, 2) := by decide +kernel
theorem dX7_isRight_124 : decode cX7_isRight 124 = .ok (.aload_n 0, 1) := by decide +kernel
theorem dX7_isRight_125 : decode cX7_isRight 125 = .ok (.aload_n 0, 1) := by decide +kernel
theorem dX7_isRight_126 : decode cX7_isRight 126 = .ok (.getfield 22, 3) := by decide +kernel
theorem dX7_isRight_129 : decode cX7_isRight 129 = .ok (.aload 4, 2) := by decide +kernel
theorem dX7_isRight_131 : decode cX7_isRight 131 = .ok (.getfield 64, 3) := by decide +kernel
theorem dX7_isRight_134 : decode cX7_isRight 134 = .ok (.aaload, 1) := by decide +kernel
theorem dX7_isRight_135 : decode cX7_isRight 135 = .ok (.aload_n 2, 1) := by decide +kernel
theorem dX7_isRight_136 : decode cX7_isRight 136 = .ok (.iload_n 3, 1) := by decide +kernel
theorem dX7_isRight_137 : decode cX7_isRight 137 = .ok (.aaload, 1) := by decide +kernel
theorem dX7_isRight_138 : decode cX7_isRight 138 = .ok (.aload 4, 2) := by decide +kernel
theorem dX7_isRight_140 : decode cX7_isRight 140 = .ok (.getfield 95, 3) := by decide +kernel
theorem dX7_isRight_143 : decode cX7_isRight 143 = .ok (.invokevirtual 98, 3) := by decide +kernel
theorem dX7_isRight_146 : decode cX7_isRight 146 = .ok (.ifCond .ne 5, 3) := by decide +kernel
theorem dX7_isRight_149 : decode cX7_isRight 149 = .ok (.iconst 0, 1) := by decide +kernel
theorem dX7_isRight_150 : decode cX7_isRight 150 = .ok (.ireturn, 1) := by decide +kernel
theorem dX7_isRight_151 : decode cX7_isRight 151 = .ok (.iinc 3 1, 3) := by decide +kernel
theorem dX7_isRight_154 : decode cX7_isRight 154 = .ok (.goto (-51), 3) := by decide +kernel
theorem dX7_isRight_157 : decode cX7_isRight 157 = .ok (.iconst 1, 1) := by decide +kernel
theorem dX7_isRight_158 : decode cX7_isRight 158 = .ok (.ireturn, 1) := by decide +kernel
set_option maxRecDepth 20000 in
theorem a_X7_isRight_157 {Q : Sg → Int → Prop} {X : Sg → String → Prop} {th : Nat} (K : MD l R p s m args c cX7_isRight 5 RX7 D cA tys A n0 s0 12 247 [(18, 95, 98, 86)]) (hQ : CQZ p l e R s m args below meth c cX7_isRight D cA A n0 s0 QM σi Q) (hX : CX p l e R s m args below meth c 5 D cA A n0 s0 QM σi X) : ∀ (σ : Sg), w_X7_isRight_157 th Q X σ → RG σ → TY σ → Ext σi σ → kO σ th 7 → JJ p l e R s m args below meth c 5 D cA A n0 s0 QM σ 157 [(0, .ref th)] [] := by
  intro σ h hGσ hYσ hE hth H locs ls hH hl hc
  have B := K.1
  have hl9 := K.2.2.2.2.2.2
  unfold w_X7_isRight_157 at h
  refine lv_iconst (v := i32 1) B.1 B.2.1 dX7_isRight_157 (by decide) ?_
  exact hQ _ _ _ _ _ _ (by unfold rng; omega) (Or.inr rfl) dX7_isRight_158 hH hc h hGσ hYσ hE
set_option maxRecDepth 20000 in
theorem a_X7_isRight_151 {Q : Sg → Int → Prop} {X : Sg → String → Prop} {th : Nat} (K : MD l R p s m args c cX7_isRight 5 RX7 D cA tys A n0 s0 12 247 [(18, 95, 98, 86)]) (hQ : CQZ p l e R s m args below meth c cX7_isRight D cA A n0 s0 QM σi Q) (hX : CX p l e R s m args below meth c 5 D cA A n0 s0 QM σi X) {K103 : Sg → Option Nat → Int → Prop} (hK103 : ∀ (σ : Sg) (v2 : Option Nat) (v3 : Int) (g2 : tyV σ 111 v2) (g3 : rng v3), K103 σ v2 v3 → RG σ → TY σ → Ext σi σ → kO σ th 7 → JJ p l e R s m args below meth c 5 D cA A n0 s0 QM σ 103 [(0, .ref th), (2, va_rf v2), (3, .int (i32 v3))] []) : ∀ (σ : Sg) (v2 : Option Nat) (v3 : Int) (g2 : tyV σ 111 v2) (g3 : rng v3), w_X7_isRight_151 th K103 Q X σ v2 v3 → RG σ → TY σ → Ext σi σ → kO σ th 7 → JJ p l e R s m args below meth c 5 D cA A n0 s0 QM σ 151 [(0, .ref th), (2, va_rf v2), (3, .int (i32 v3))] [] := by
  intro σ v2 v3 g2 g3 h hGσ hYσ hE hth H locs ls hH hl hc
  have B := K.1
  have hl9 := K.2.2.2.2.2.2
  unfold w_X7_isRight_151 at h
  obtain ⟨q1, h⟩ := h
  refine lv_iinc (k := 2) (v := i32 (v3 + 1)) (lv' := [(3, .int (i32 (v3 + 1))), (0, .ref th), (2, va_rf v2)]) B.1 B.2.1 dX7_isRight_151 hl rfl (i32_add _ _) (by decide) (by generalize v2 = w9; cases w9 <;> rfl) (fun ls hl => ?_)
  refine lv_goto (tgt := 103) B.1 B.2.1 dX7_isRight_154 (by decide) ?_
  exact hK103 _ _ _ g2 q1 h hGσ hYσ hE hth _ _ _ hH (lv_sub (l' := [(0, .ref th), (2, va_rf v2), (3, .int (i32 (v3 + 1)))]) hl [1, 2, 0] rfl) hc
set_option maxRecDepth 20000 in
theorem a_X7_isRight_149 {Q : Sg → Int → Prop} {X : Sg → String → Prop} {th : Nat} (K : MD l R p s m args c cX7_isRight 5 RX7 D cA tys A n0 s0 12 247 [(18, 95, 98, 86)]) (hQ : CQZ p l e R s m args below meth c cX7_isRight D cA A n0 s0 QM σi Q) (hX : CX p l e R s m args below meth c 5 D cA A n0 s0 QM σi X) : ∀ (σ : Sg), w_X7_isRight_149 th Q X σ → RG σ → TY σ → Ext σi σ → kO σ th 7 → JJ p l e R s m args below meth c 5 D cA A n0 s0 QM σ 149 [(0, .ref th)] [] := by
  intro σ h hGσ hYσ hE hth H locs ls hH hl hc
  have B := K.1
  have hl9 := K.2.2.2.2.2.2
  unfold w_X7_isRight_149 at h
  refine lv_iconst (v := i32 0) B.1 B.2.1 dX7_isRight_149 (by decide) ?_
  exact hQ _ _ _ _ _ _ (by unfold rng; omega) (Or.inl rfl) dX7_isRight_150 hH hc h hGσ hYσ hE
set_option maxRecDepth 20000 in
theorem a_X7_isRight_114 {Q : Sg → Int → Prop} {X : Sg → String → Prop} {th : Nat} (K : MD l R p s m args c cX7_isRight 5 RX7 D cA tys A n0 s0 12 247 [(18, 95, 98, 86)]) (hQ : CQZ p l e R s m args below meth c cX7_isRight D cA A n0 s0 QM σi Q) (hX : CX p l e R s m args below meth c 5 D cA A n0 s0 QM σi X) {K103 : Sg → Option Nat → Int → Prop} (hK103 : ∀ (σ : Sg) (v2 : Option Nat) (v3 : Int) (g2 : tyV σ 111 v2) (g3 : rng v3), K103 σ v2 v3 → RG σ → TY σ → Ext σi σ → kO σ th 7 → JJ p l e R s m args below meth c 5 D cA A n0 s0 QM σ 103 [(0, .ref th), (2, va_rf v2), (3, .int (i32 v3))] []) : ∀ (σ : Sg) (v2 : Option Nat) (v3 : Int) (g2 : tyV σ 111 v2) (g3 : rng v3), w_X7_isRight_114 th K103 Q X σ v2 v3 → RG σ → TY σ → Ext σi σ → kO σ th 7 → JJ p l e R s m args below meth c 5 D cA A n0 s0 QM σ 114 [(0, .ref th), (2, va_rf v2), (3, .int (i32 v3))] [] := by
  intro σ v2 v3 g2 g3 h hGσ hYσ hE hth H locs ls hH hl hc
  have B := K.1
  have hl9 := K.2.2.2.2.2.2
  unfold w_X7_isRight_114 at h
  refine lv_aload_n B.1 B.2.1 dX7_isRight_114 rfl (lv_at hl 0 rfl) ?_
  refine f_getp B hH hth (by decide) rfl wu_X7 5 (by decide) wf_X7_46 rfl rfl dX7_isRight_115 ?_
  refine lv_iload_n B.1 B.2.1 dX7_isRight_118 rfl (lv_at hl 2 rfl) ?_
  obtain ⟨a47, ea47, h⟩ := h
  have ka47 : kO σ a47 4 := (hYσ.get hth (by decide)) a47 ea47
  have h := h ka47
  refine W.eq (g2 := F0 m 119 ls [.int (i32 v3), .ref a47]) (by rw [ea47]; rfl) ?_
  refine c_V B hH hl hc K.2.2.1 (C := RX4) (T := TX4) (N := 14) (ci := 4) (As := [.int (i32 v3)]) (ok_X4_outputOp hl9 K.2.1 σ a47 v3 g3 ka47 hGσ hYσ h) wc_X7_91 1 hd_X4_outputOp ⟨Nat.le_trans (Nat.le_of_ble_eq_true rfl) K.2.2.2.1, Nat.le_trans (Nat.le_of_ble_eq_true rfl) K.2.2.2.2.1⟩ ka47.1 ka47.2 (by decide) rfl rfl (rest := []) rfl (Nat.le_of_ble_eq_true rfl) dX7_isRight_119 (fun σ45 w hq => ?_) (fun σ9 E9 hx9 => hX σ9 E9 _ _ _ (tb_out K.2.2.2.2.2.1 rfl) hx9.1 hx9.2.1 hx9.2.2.1 (hE.trans hx9.2.2.2))
  obtain ⟨r46, rfl, tr46, h, hGσ45, hYσ45, xσ45⟩ := hq
  have h := h xσ45 tr46
  intro H locs ls hH hl hc
  refine W.eq (g2 := F0 m 122 ls [va_rf r46]) (rfl) ?_
  try dsimp only at h
  refine lv_astoreQ (lv' := [(4, va_rf r46), (0, .ref th), (2, va_rf v2), (3, .int (i32 v3))]) B.1 B.2.1 dX7_isRight_122 hl (by decide) rfl (fun ls hl => ?_)
  refine lv_aload_n B.1 B.2.1 dX7_isRight_124 rfl (lv_at hl 1 rfl) ?_
  refine lv_aload_n B.1 B.2.1 dX7_isRight_125 rfl (lv_at hl 1 rfl) ?_
  refine f_getp B hH (hth.up xσ45) (by decide) rfl wu_X7 3 (by decide) wf_X7_22 rfl rfl dX7_isRight_126 ?_
  refine lv_aloadQ B.1 B.2.1 dX7_isRight_129 (lv_at hl 0 rfl) ?_
  obtain ⟨a48, ea48, h⟩ := h
  have ka48 : kO σ45 a48 5 := tr46 a48 ea48
  have h := h ka48
  refine W.eq (g2 := F0 m 131 ls [.ref a48, va_rf (gP σ45 th 3), .ref th]) (by rw [ea48]; rfl) ?_
  refine f_geti B hH ka48 (by decide) rfl wu_X5 7 (by decide) wf_X7_64 rfl rfl dX7_isRight_131 ?_
  obtain ⟨a49, ea49, h⟩ := h
  have ka49 : kO σ45 a49 111 := (hYσ45.get (hth.up xσ45) (by decide)) a49 ea49
  have h := h ka49
  obtain ⟨q1, h⟩ := h
  refine W.eq (g2 := F0 m 134 ls [.int (i32 (gI σ45 a48 7)), .ref a49, .ref th]) (by rw [ea49]; rfl) ?_
  refine y_aald B hH (t0 := 4) ka49 (by decide) K.2.1.2.1 q1 (hYσ45.2 _) dX7_isRight_134 ?_
  refine lv_aload_nQ B.1 B.2.1 dX7_isRight_135 rfl (lv_at hl 2 rfl) ?_
  refine lv_iload_n B.1 B.2.1 dX7_isRight_136 rfl (lv_at hl 3 rfl) ?_
  obtain ⟨a50, ea50, h⟩ := h
  have ka50 : kO σ45 a50 111 := (g2.up xσ45) a50 ea50
  have h := h ka50
  obtain ⟨q2, h⟩ := h
  refine W.eq (g2 := F0 m 137 ls [.int (i32 v3), .ref a50, va_rf (gP σ45 a49 (gI σ45 a48 7).toNat), .ref th]) (by rw [ea50]; rfl) ?_
  refine y_aald B hH (t0 := 4) ka50 (by decide) K.2.1.2.1 q2 (hYσ45.2 _) dX7_isRight_137 ?_
  refine lv_aloadQ B.1 B.2.1 dX7_isRight_138 (lv_at hl 0 rfl) ?_
  refine W.eq (g2 := F0 m 140 ls [.ref a48, va_rf (gP σ45 a50 v3.toNat), va_rf (gP σ45 a49 (gI σ45 a48 7).toNat), .ref th]) (by rw [ea48]; rfl) ?_
  refine f_geti B hH ka48 (by decide) rfl wu_X5 3 (by decide) wf_X7_95 rfl rfl dX7_isRight_140 ?_
  refine W.eq (g2 := F0 m 143 ls [.int (i32 (gI σ45 a48 3)), va_rf (gP σ45 a50 v3.toNat), va_rf (gP σ45 a49 (gI σ45 a48 7).toNat), .ref th]) (rfl) ?_
  refine c_V B hH hl hc K.2.2.1 (C := RX7) (T := TX7) (N := 7) (ci := 7) (As := [va_rf (gP σ45 a49 (gI σ45 a48 7).toNat), va_rf (gP σ45 a50 v3.toNat), .int (i32 (gI σ45 a48 3))]) (ok_X7_hasSameRows hl9 K.2.1 σ45 th (gP σ45 a49 (gI σ45 a48 7).toNat) (gP σ45 a50 v3.toNat) (gI σ45 a48 3) (hYσ45.get ka49 rfl) (hYσ45.get ka50 rfl) (hGσ45 _ _) (hth.up xσ45) hGσ45 hYσ45 h) wc_X7_98 3 hd_X7_hasSameRows ⟨Nat.le_trans (Nat.le_of_ble_eq_true rfl) K.2.2.2.1, Nat.le_trans (Nat.le_of_ble_eq_true rfl) K.2.2.2.2.1⟩ (hth.up xσ45).1 (hth.up xσ45).2 (by decide) rfl rfl (rest := []) rfl (Nat.le_of_ble_eq_true rfl) dX7_isRight_143 (fun σ51 w hq => ?_) (fun σ9 E9 hx9 => hX σ9 E9 _ _ _ (tb_out K.2.2.2.2.2.1 rfl) hx9.1 hx9.2.1 hx9.2.2.1 ((hE.trans xσ45).trans hx9.2.2.2))
  obtain ⟨r52, rfl, ⟨gr52, gzr52⟩, h, hGσ51, hYσ51, xσ51⟩ := hq
  have h := h xσ51
  intro H locs ls hH hl hc
  refine W.eq (g2 := F0 m 146 ls [.int (i32 r52)]) (rfl) ?_
  try dsimp only at h
  refine lv_if_ne (tgt := 151) B.1 B.2.1 dX7_isRight_146 (by decide) (fun h9 => ?_) (fun h9 => ?_)
  · rw [if_pos (fun q => h9 ((z_eq gr52).mpr q))] at h
    exact a_X7_isRight_151 K hQ hX hK103 _ _ _ (g2.up (xσ45.trans xσ51)) g3 h hGσ51 hYσ51 ((hE.trans xσ45).trans xσ51) (hth.up (xσ45.trans xσ51)) _ _ _ hH (lv_sub (l' := [(0, .ref th), (2, va_rf v2), (3, .int (i32 v3))]) hl [1, 2, 3] rfl) hc
  · rw [if_neg (fun q => q ((z_eq gr52).mp h9))] at h
    exact a_X7_isRight_149 K hQ hX _ h hGσ51 hYσ51 ((hE.trans xσ45).trans xσ51) (hth.up (xσ45.trans xσ51)) _ _ _ hH (lv_sub (l' := [(0, .ref th)]) hl [1] rfl) hc
set_option maxRecDepth 20000 in
theorem a_X7_isRight_103 {Q : Sg → Int → Prop} {X : Sg → String → Prop} {th : Nat} (K : MD l R p s m args c cX7_isRight 5 RX7 D cA tys A n0 s0 12 247 [(18, 95, 98, 86)]) (hQ : CQZ p l e R s m args below meth c cX7_isRight D cA A n0 s0 QM σi Q) (hX : CX p l e R s m args below meth c 5 D cA A n0 s0 QM σi X) {K103 : Sg → Option Nat → Int → Prop} (hK103 : ∀ (σ : Sg) (v2 : Option Nat) (v3 : Int) (g2 : tyV σ 111 v2) (g3 : rng v3), K103 σ v2 v3 → RG σ → TY σ → Ext σi σ → kO σ th 7 → JJ p l e R s m args below meth c 5 D cA A n0 s0 QM σ 103 [(0, .ref th), (2, va_rf v2), (3, .int (i32 v3))] []) : ∀ (σ : Sg) (v2 : Option Nat) (v3 : Int) (g2 : tyV σ 111 v2) (g3 : rng v3), w_X7_isRight_103 th K103 Q X σ v2 v3 → RG σ → TY σ → Ext σi σ → kO σ th 7 → JJ p l e R s m args below meth c 5 D cA A n0 s0 QM σ 103 [(0, .ref th), (2, va_rf v2), (3, .int (i32 v3))] [] := by
  intro σ v2 v3 g2 g3 h hGσ hYσ hE hth H locs ls hH hl hc
  have B := K.1
  have hl9 := K.2.2.2.2.2.2
  unfold w_X7_isRight_103 at h
  refine lv_iload_n B.1 B.2.1 dX7_isRight_103 rfl (lv_at hl 2 rfl) ?_
  refine lv_aload_n B.1 B.2.1 dX7_isRight_104 rfl (lv_at hl 0 rfl) ?_
  refine f_getp B hH hth (by decide) rfl wu_X7 5 (by decide) wf_X7_46 rfl rfl dX7_isRight_105 ?_
  obtain ⟨a53, ea53, h⟩ := h
  have ka53 : kO σ a53 4 := (hYσ.get hth (by decide)) a53 ea53
  have h := h ka53
  refine W.eq (g2 := F0 m 108 ls [.ref a53, .int (i32 v3)]) (by rw [ea53]; rfl) ?_
  refine f_geti B hH ka53 (by decide) rfl wu_X4 2 (by decide) wf_X7_88 rfl rfl dX7_isRight_108 ?_
  refine lv_icmp_ge (tgt := 157) B.1 B.2.1 dX7_isRight_111 (by decide) (fun h9 => ?_) (fun h9 => ?_)
  · rw [if_pos ((i32_le (hGσ _ _) g3).mp h9)] at h
    exact a_X7_isRight_157 K hQ hX _ h hGσ hYσ hE hth _ _ _ hH (lv_sub (l' := [(0, .ref th)]) hl [0] rfl) hc
  · rw [if_neg (fun q => h9 ((i32_le (hGσ _ _) g3).mpr q))] at h
    exact a_X7_isRight_114 K hQ hX hK103 _ _ _ g2 g3 h hGσ hYσ hE hth _ _ _ hH (lv_sub (l' := [(0, .ref th), (2, va_rf v2), (3, .int (i32 v3))]) hl [0, 1, 2] rfl) hc
theorem al_X7_isRight_103 {Q : Sg → Int → Prop} {X : Sg → String → Prop} {th : Nat} (K : MD l R p s m args c cX7_isRight 5 RX7 D cA tys A n0 s0 12 247 [(18, 95, 98, 86)]) (hQ : CQZ p l e R s m args below meth c cX7_isRight D cA A n0 s0 QM σi Q) (hX : CX p l e R s m args below meth c 5 D cA A n0 s0 QM σi X) : ∀ (n : Nat), ∀ (σ : Sg) (v2 : Option Nat) (v3 : Int) (g2 : tyV σ 111 v2) (g3 : rng v3), wl_X7_isRight_103 th Q X n σ v2 v3 → RG σ → TY σ → Ext σi σ → kO σ th 7 → JJ p l e R s m args below meth c 5 D cA A n0 s0 QM σ 103 [(0, .ref th), (2, va_rf v2), (3, .int (i32 v3))] [] := by
  intro n
  induction n with
  | zero => intro σ v2 v3 g2 g3 h; exact h.elim
  | succ n ih => exact fun σ v2 v3 g2 g3 h => a_X7_isRight_103 K hQ hX ih σ v2 v3 g2 g3 h
set_option maxRecDepth 20000 in
theorem a_X7_isRight_101 {Q : Sg → Int → Prop} {X : Sg → String → Prop} {th : Nat} (K : MD l R p s m args c cX7_isRight 5 RX7 D cA tys A n0 s0 12 247 [(18, 95, 98, 86)]) (hQ : CQZ p l e R s m args below meth c cX7_isRight D cA A n0 s0 QM σi Q) (hX : CX p l e R s m args below meth c 5 D cA A n0 s0 QM σi X) : ∀ (σ : Sg) (v2 : Option Nat) (g2 : tyV σ 111 v2), w_X7_isRight_101 th Q X σ v2 → RG σ → TY σ → Ext σi σ → kO σ th 7 → JJ p l e R s m args below meth c 5 D cA A n0 s0 QM σ 101 [(0, .ref th), (2, va_rf v2)] [] := by
  intro σ v2 g2 h hGσ hYσ hE hth H locs ls hH hl hc
  have B := K.1
  have hl9 := K.2.2.2.2.2.2
  unfold w_X7_isRight_101 at h
  refine lv_iconst (v := i32 0) B.1 B.2.1 dX7_isRight_101 (by decide) ?_
  refine lv_istore_n (lv' := [(3, .int (i32 0)), (0, .ref th), (2, va_rf v2)]) B.1 B.2.1 dX7_isRight_102 rfl hl (by decide) (by generalize v2 = w9; cases w9 <;> rfl) (fun ls hl => ?_)
  obtain ⟨n9, h⟩ := h
  exact al_X7_isRight_103 K hQ hX n9 _ _ _ g2 (by unfold rng; omega) h hGσ hYσ hE hth _ _ _ hH (lv_sub (l' := [(0, .ref th), (2, va_rf v2), (3, .int (i32 0))]) hl [1, 2, 0] rfl) hc
set_option maxRecDepth 20000 in
theorem a_X7_isRight_95 {Q : Sg → Int → Prop} {X : Sg → String → Prop} {th : Nat} (K : MD l R p s m args c cX7_isRight 5 RX7 D cA tys A n0 s0 12 247 [(18, 95, 98, 86)]) (hQ : CQZ p l e R s m args below meth c cX7_isRight D cA A n0 s0 QM σi Q) (hX : CX p l e R s m args below meth c 5 D cA A n0 s0 QM σi X) : ∀ (σ : Sg) (v2 : Option Nat) (g2 : tyV σ 111 v2), w_X7_isRight_95 th Q X σ v2 → RG σ → TY σ → Ext σi σ → kO σ th 7 → JJ p l e R s m args below meth c 5 D cA A n0 s0 QM σ 95 [(0, .ref th), (2, va_rf v2)] [] := by
  intro σ v2 g2 h hGσ hYσ hE hth H locs ls hH hl hc
  have B := K.1
  have hl9 := K.2.2.2.2.2.2
  unfold w_X7_isRight_95 at h
  refine lv_goto (tgt := 101) B.1 B.2.1 dX7_isRight_95 (by decide) ?_
  exact a_X7_isRight_101 K hQ hX _ _ g2 h hGσ hYσ hE hth _ _ _ hH (lv_sub (l' := [(0, .ref th), (2, va_rf v2)]) hl [0, 1] rfl) hc
set_option maxRecDepth 20000 in
theorem a_X7_isRight_98 {Q : Sg → Int → Prop} {X : Sg → String → Prop} {th : Nat} (K : MD l R p s m args c cX7_isRight 5 RX7 D cA tys A n0 s0 12 247 [(18, 95, 98, 86)]) (hQ : CQZ p l e R s m args below meth c cX7_isRight D cA A n0 s0 QM σi Q) (hX : CX p l e R s m args below meth c 5 D cA A n0 s0 QM σi X) : ∀ (σ : Sg) (u0 : Option Nat), w_X7_isRight_98 th Q X σ u0 → RG σ → TY σ → Ext σi σ → kO σ th 7 → JJ p l e R s m args below meth c 5 D cA A n0 s0 QM σ 98 [(0, .ref th)] [va_rf u0] := by
  intro σ u0 h hGσ hYσ hE hth H locs ls hH hl hc
  have B := K.1
  have hl9 := K.2.2.2.2.2.2
  unfold w_X7_isRight_98 at h
  refine lv_astore_nQ (lv' := [(3, va_rf u0), (0, .ref th)]) B.1 B.2.1 dX7_isRight_98 rfl hl (by decide) rfl (fun ls hl => ?_)
  refine lv_iconst (v := i32 0) B.1 B.2.1 dX7_isRight_99 (by decide) ?_
  exact hQ _ _ _ _ _ _ (by unfold rng; omega) (Or.inl rfl) dX7_isRight_100 hH hc h hGσ hYσ hE
set_option maxRecDepth 20000 in
theorem a_X7_isRight_31 {Q : Sg → Int → Prop} {X : Sg → String → Prop} {th : Nat} (K : MD l R p s m args c cX7_isRight 5 RX7 D cA tys A n0 s0 12 247 [(18, 95, 98, 86)]) (hQ : CQZ p l e R s m args below meth c cX7_isRight D cA A n0 s0 QM σi Q) (hX : CX p l e R s m args below meth c 5 D cA A n0 s0 QM σi X) {K20 : Sg → Option Nat → Int → Prop} (hK20 : ∀ (σ : Sg) (v2 : Option Nat) (v3 : Int) (g2 : tyV σ 111 v2) (g3 : rng v3), K20 σ v2 v3 → RG σ → TY σ → Ext σi σ → kO σ th 7 → JJ p l e R s m args below meth c 5 D cA A n0 s0 QM σ 20 [(0, .ref th), (2, va_rf v2), (3, .int (i32 v3))] []) : ∀ (σ : Sg) (v2 : Option Nat) (v3 : Int) (g2 : tyV σ 111 v2) (g3 : rng v3), w_X7_isRight_31 th K20 Q X σ v2 v3 → RG σ → TY σ → Ext σi σ → kO σ th 7 → JJ p l e R s m args below meth c 5 D cA A n0 s0 QM σ 31 [(0, .ref th), (2, va_rf v2), (3, .int (i32 v3))] [] := by
  intro σ v2 v3 g2 g3 h hGσ hYσ hE hth H locs ls hH hl hc
  have B := K.1
  have hl9 := K.2.2.2.2.2.2
  unfold w_X7_isRight_31 at h
  refine lv_aload_n B.1 B.2.1 dX7_isRight_31 rfl (lv_at hl 0 rfl) ?_
  refine f_getp B hH hth (by decide) rfl wu_X7 5 (by decide) wf_X7_46 rfl rfl dX7_isRight_32 ?_
  obtain ⟨a54, ea54, h⟩ := h
  have ka54 : kO σ a54 4 := (hYσ.get hth (by decide)) a54 ea54
  have h := h ka54
  refine W.eq (g2 := F0 m 35 ls [.ref a54]) (by rw [ea54]; rfl) ?_
  refine f_getp B hH ka54 (by decide) rfl wu_X4 0 (by decide) wf_X7_60 rfl rfl dX7_isRight_35 ?_
  refine lv_iload_n B.1 B.2.1 dX7_isRight_38 rfl (lv_at hl 2 rfl) ?_
  obtain ⟨a55, ea55, h⟩ := h
  have ka55 : kO σ a55 115 := (hYσ.get ka54 (by decide)) a55 ea55
  have h := h ka55
  obtain ⟨q1, h⟩ := h
  refine W.eq (g2 := F0 m 39 ls [.int (i32 v3), .ref a55]) (by rw [ea55]; rfl) ?_
  refine y_aald B hH (t0 := 6) ka55 (by decide) K.2.1.2.2.2.1 q1 (hYσ.2 _) dX7_isRight_39 ?_
  refine lv_astoreQ (lv' := [(4, va_rf (gP σ a55 v3.toNat)), (0, .ref th), (2, va_rf v2), (3, .int (i32 v3))]) B.1 B.2.1 dX7_isRight_40 hl (by decide) rfl (fun ls hl => ?_)
  refine lv_aload_n B.1 B.2.1 dX7_isRight_42 rfl (lv_at hl 1 rfl) ?_
  refine lv_aloadQ B.1 B.2.1 dX7_isRight_43 (lv_at hl 0 rfl) ?_
  refine lv_iconst (v := i32 0) B.1 B.2.1 dX7_isRight_45 (by decide) ?_
  refine lv_aloadQ B.1 B.2.1 dX7_isRight_46 (lv_at hl 0 rfl) ?_
  obtain ⟨a56, ea56, h⟩ := h
  have ka56 : kO σ a56 5 := (hYσ.get ka55 rfl) a56 ea56
  have h := h ka56
  refine W.eq (g2 := F0 m 48 ls [.ref a56, .int (i32 0), va_rf (gP σ a55 v3.toNat), .ref th]) (by rw [ea56]; rfl) ?_
  refine f_geti B hH ka56 (by decide) rfl wu_X5 7 (by decide) wf_X7_64 rfl rfl dX7_isRight_48 ?_
  refine W.eq (g2 := F0 m 51 ls [.int (i32 (gI σ a56 7)), .int (i32 0), va_rf (gP σ a55 v3.toNat), .ref th]) (rfl) ?_
  refine c_V B hH hl hc K.2.2.1 (C := RX7) (T := TX7) (N := 7) (ci := 7) (As := [va_rf (gP σ a55 v3.toNat), .int (i32 0), .int (i32 (gI σ a56 7))]) (ok_X7_acceptAll hl9 K.2.1 σ th (gP σ a55 v3.toNat) 0 (gI σ a56 7) (hYσ.get ka55 rfl) (by unfold rng; omega) (hGσ _ _) hth hGσ hYσ h) wc_X7_69 3 hd_X7_acceptAll ⟨Nat.le_trans (Nat.le_of_ble_eq_true rfl) K.2.2.2.1, Nat.le_trans (Nat.le_of_ble_eq_true rfl) K.2.2.2.2.1⟩ hth.1 hth.2 (by decide) rfl rfl (rest := []) rfl (Nat.le_of_ble_eq_true rfl) dX7_isRight_51 (fun σ57 w hq => ?_) (fun σ9 E9 hx9 => (by obtain ⟨h9, hG9, hY9, xσ9⟩ := hx9; obtain ⟨rfl, h⟩ := h9 xσ9; exact h_catchP B [] (K.2.2.2.2.2.1.trans rfl) rfl rfl (by decide) wl_X7_86 (by decide) (fun q9 H locs ls hH hl hc => a_X7_isRight_98 K hQ hX σ9 (some q9) (h (some q9)) hG9 hY9 (hE.trans xσ9) (hth.up xσ9) H locs ls hH (lv_sub (l' := [(0, .ref th)]) hl [1] rfl) hc)))
  obtain ⟨rfl, h, hGσ57, hYσ57, xσ57⟩ := hq
  have h := h xσ57
  intro H locs ls hH hl hc
  refine W.eq (g2 := F0 m 54 ls []) (rfl) ?_
  try dsimp only at h
  refine lv_aload_n B.1 B.2.1 dX7_isRight_54 rfl (lv_at hl 1 rfl) ?_
  refine lv_aloadQ B.1 B.2.1 dX7_isRight_55 (lv_at hl 0 rfl) ?_
  refine lv_iconst (v := i32 1) B.1 B.2.1 dX7_isRight_57 (by decide) ?_
  refine lv_aloadQ B.1 B.2.1 dX7_isRight_58 (lv_at hl 0 rfl) ?_
  refine W.eq (g2 := F0 m 60 ls [.ref a56, .int (i32 1), va_rf (gP σ a55 v3.toNat), .ref th]) (by rw [ea56]; rfl) ?_
  refine f_geti B hH (ka56.up xσ57) (by decide) rfl wu_X5 8 (by decide) wf_X7_73 rfl rfl dX7_isRight_60 ?_
  refine W.eq (g2 := F0 m 63 ls [.int (i32 (gI σ57 a56 8)), .int (i32 1), va_rf (gP σ a55 v3.toNat), .ref th]) (rfl) ?_
  refine c_V B hH hl hc K.2.2.1 (C := RX7) (T := TX7) (N := 7) (ci := 7) (As := [va_rf (gP σ a55 v3.toNat), .int (i32 1), .int (i32 (gI σ57 a56 8))]) (ok_X7_acceptAll hl9 K.2.1 σ57 th (gP σ a55 v3.toNat) 1 (gI σ57 a56 8) ((hYσ.get ka55 rfl).up xσ57) (by unfold rng; omega) (hGσ57 _ _) (hth.up xσ57) hGσ57 hYσ57 h) wc_X7_69 3 hd_X7_acceptAll ⟨Nat.le_trans (Nat.le_of_ble_eq_true rfl) K.2.2.2.1, Nat.le_trans (Nat.le_of_ble_eq_true rfl) K.2.2.2.2.1⟩ (hth.up xσ57).1 (hth.up xσ57).2 (by decide) rfl rfl (rest := []) rfl (Nat.le_of_ble_eq_true rfl) dX7_isRight_63 (fun σ58 w hq => ?_) (fun σ9 E9 hx9 => (by obtain ⟨h9, hG9, hY9, xσ9⟩ := hx9; obtain ⟨rfl, h⟩ := h9 xσ9; exact h_catchP B [] (K.2.2.2.2.2.1.trans rfl) rfl rfl (by decide) wl_X7_86 (by decide) (fun q9 H locs ls hH hl hc => a_X7_isRight_98 K hQ hX σ9 (some q9) (h (some q9)) hG9 hY9 ((hE.trans xσ57).trans xσ9) (hth.up (xσ57.trans xσ9)) H locs ls hH (lv_sub (l' := [(0, .ref th)]) hl [1] rfl) hc)))
  obtain ⟨rfl, h, hGσ58, hYσ58, xσ58⟩ := hq
  have h := h xσ58
  intro H locs ls hH hl hc
  refine W.eq (g2 := F0 m 66 ls []) (rfl) ?_
  try dsimp only at h
  refine lv_aload_n B.1 B.2.1 dX7_isRight_66 rfl (lv_at hl 1 rfl) ?_
  refine f_getp B hH (hth.up (xσ57.trans xσ58)) (by decide) rfl wu_X7 1 (by decide) wf_X7_42 rfl rfl dX7_isRight_67 ?_
  refine lv_aloadQ B.1 B.2.1 dX7_isRight_70 (lv_at hl 0 rfl) ?_
  refine lv_aload_n B.1 B.2.1 dX7_isRight_72 rfl (lv_at hl 1 rfl) ?_
  refine f_getp B hH (hth.up (xσ57.trans xσ58)) (by decide) rfl wu_X7 2 (by decide) wf_X7_12 rfl rfl dX7_isRight_73 ?_
  refine lv_ldc2 B.1 B.2.1 B.2.2.1 (B.2.2.2.1 _ (wk_X7_76)) dX7_isRight_76 ?_
  obtain ⟨a60, ea60, h⟩ := h
  have ka60 : kO σ58 a60 11 := (hYσ58.get (hth.up (xσ57.trans xσ58)) (by decide)) a60 ea60
  have h := h ka60
  refine W.eq (g2 := F0 m 79 ls [.long 1099511627776, va_rf (gP σ58 th 2), va_rf (gP σ a55 v3.toNat), .ref a60]) (by rw [ea60]; rfl) ?_
  refine c_V B hH hl hc K.2.2.1 (C := RX11) (T := TX11) (N := 6) (ci := 11) (As := [va_rf (gP σ a55 v3.toNat), va_rf (gP σ58 th 2), .long 1099511627776]) (ok_X11_advance hl9 K.2.1 σ58 a60 (gP σ a55 v3.toNat) (gP σ58 th 2) 1099511627776 ((hYσ.get ka55 rfl).up (xσ57.trans xσ58)) (hYσ58.get (hth.up (xσ57.trans xσ58)) (by decide)) ka60 hGσ58 hYσ58 h) wc_X7_78 3 hd_X11_advance ⟨Nat.le_trans (Nat.le_of_ble_eq_true rfl) K.2.2.2.1, Nat.le_trans (Nat.le_of_ble_eq_true rfl) K.2.2.2.2.1⟩ ka60.1 ka60.2 (by decide) rfl rfl (rest := []) rfl (Nat.le_of_ble_eq_true rfl) dX7_isRight_79 (fun σ59 w hq => ?_) (fun σ9 E9 hx9 => (by obtain ⟨h9, hG9, hY9, xσ9⟩ := hx9; obtain ⟨rfl, h⟩ := h9 xσ9; exact h_catchP B [] (K.2.2.2.2.2.1.trans rfl) rfl rfl (by decide) wl_X7_86 (by decide) (fun q9 H locs ls hH hl hc => a_X7_isRight_98 K hQ hX σ9 (some q9) (h (some q9)) hG9 hY9 (((hE.trans xσ57).trans xσ58).trans xσ9) (hth.up (xσ57.trans (xσ58.trans xσ9))) H locs ls hH (lv_sub (l' := [(0, .ref th)]) hl [1] rfl) hc)))
  obtain ⟨rfl, h, hGσ59, hYσ59, xσ59⟩ := hq
  have h := h xσ59
  intro H locs ls hH hl hc
  refine W.eq (g2 := F0 m 82 ls []) (rfl) ?_
  try dsimp only at h
  refine lv_aload_n B.1 B.2.1 dX7_isRight_82 rfl (lv_at hl 1 rfl) ?_
  refine lv_iload_n B.1 B.2.1 dX7_isRight_83 rfl (lv_at hl 3 rfl) ?_
  refine lv_aloadQ B.1 B.2.1 dX7_isRight_84 (lv_at hl 0 rfl) ?_
  refine W.eq (g2 := F0 m 86 ls [va_rf (gP σ a55 v3.toNat), .int (i32 v3), .ref th]) (rfl) ?_
  refine c_V B hH hl hc K.2.2.1 (C := RX7) (T := TX7) (N := 7) (ci := 7) (As := [.int (i32 v3), va_rf (gP σ a55 v3.toNat)]) (ok_X7_keepMade hl9 K.2.1 σ59 th v3 (gP σ a55 v3.toNat) g3 ((hYσ.get ka55 rfl).up (xσ57.trans (xσ58.trans xσ59))) (hth.up (xσ57.trans (xσ58.trans xσ59))) hGσ59 hYσ59 h) wc_X7_82 2 hd_X7_keepMade ⟨Nat.le_trans (Nat.le_of_ble_eq_true rfl) K.2.2.2.1, Nat.le_trans (Nat.le_of_ble_eq_true rfl) K.2.2.2.2.1⟩ (hth.up (xσ57.trans (xσ58.trans xσ59))).1 (hth.up (xσ57.trans (xσ58.trans xσ59))).2 (by decide) rfl rfl (rest := []) rfl (Nat.le_of_ble_eq_true rfl) dX7_isRight_86 (fun σ61 w hq => ?_) (fun σ9 E9 hx9 => (by obtain ⟨h9, hG9, hY9, xσ9⟩ := hx9; obtain ⟨rfl, h⟩ := h9 xσ9; exact h_catchP B [] (K.2.2.2.2.2.1.trans rfl) rfl rfl (by decide) wl_X7_86 (by decide) (fun q9 H locs ls hH hl hc => a_X7_isRight_98 K hQ hX σ9 (some q9) (h (some q9)) hG9 hY9 ((((hE.trans xσ57).trans xσ58).trans xσ59).trans xσ9) (hth.up (xσ57.trans (xσ58.trans (xσ59.trans xσ9)))) H locs ls hH (lv_sub (l' := [(0, .ref th)]) hl [1] rfl) hc)))
  obtain ⟨rfl, h, hGσ61, hYσ61, xσ61⟩ := hq
  have h := h xσ61
  intro H locs ls hH hl hc
  refine W.eq (g2 := F0 m 89 ls []) (rfl) ?_
  try dsimp only at h
  obtain ⟨q2, h⟩ := h
  refine lv_iinc (k := 3) (v := i32 (v3 + 1)) (lv' := [(3, .int (i32 (v3 + 1))), (4, va_rf (gP σ a55 v3.toNat)), (0, .ref th), (2, va_rf v2)]) B.1 B.2.1 dX7_isRight_89 hl rfl (i32_add _ _) (by decide) (by generalize v2 = w9; cases w9 <;> rfl) (fun ls hl => ?_)
  refine lv_goto (tgt := 20) B.1 B.2.1 dX7_isRight_92 (by decide) ?_
  exact hK20 _ _ _ (g2.up (xσ57.trans (xσ58.trans (xσ59.trans xσ61)))) q2 h hGσ61 hYσ61 ((((hE.trans xσ57).trans xσ58).trans xσ59).trans xσ61) (hth.up (xσ57.trans (xσ58.trans (xσ59.trans xσ61)))) _ _ _ hH (lv_sub (l' := [(0, .ref th), (2, va_rf v2), (3, .int (i32 (v3 + 1)))]) hl [2, 3, 0] rfl) hc
set_option maxRecDepth 20000 in
theorem a_X7_isRight_20 {Q : Sg → Int → Prop} {X : Sg → String → Prop} {th : Nat} (K : MD l R p s m args c cX7_isRight 5 RX7 D cA tys A n0 s0 12 247 [(18, 95, 98, 86)]) (hQ : CQZ p l e R s m args below meth c cX7_isRight D cA A n0 s0 QM σi Q) (hX : CX p l e R s m args below meth c 5 D cA A n0 s0 QM σi X) {K20 : Sg → Option Nat → Int → Prop} (hK20 : ∀ (σ : Sg) (v2 : Option Nat) (v3 : Int) (g2 : tyV σ 111 v2) (g3 : rng v3), K20 σ v2 v3 → RG σ → TY σ → Ext σi σ → kO σ th 7 → JJ p l e R s m args below meth c 5 D cA A n0 s0 QM σ 20 [(0, .ref th), (2, va_rf v2), (3, .int (i32 v3))] []) : ∀ (σ : Sg) (v2 : Option Nat) (v3 : Int) (g2 : tyV σ 111 v2) (g3 : rng v3), w_X7_isRight_20 th K20 Q X σ v2 v3 → RG σ → TY σ → Ext σi σ → kO σ th 7 → JJ p l e R s m args below meth c 5 D cA A n0 s0 QM σ 20 [(0, .ref th), (2, va_rf v2), (3, .int (i32 v3))] [] := by
  intro σ v2 v3 g2 g3 h hGσ hYσ hE hth H locs ls hH hl hc
  have B := K.1
  have hl9 := K.2.2.2.2.2.2
  unfold w_X7_isRight_20 at h
  refine lv_iload_n B.1 B.2.1 dX7_isRight_20 rfl (lv_at hl 2 rfl) ?_
  refine lv_aload_n B.1 B.2.1 dX7_isRight_21 rfl (lv_at hl 0 rfl) ?_
  refine f_getp B hH hth (by decide) rfl wu_X7 5 (by decide) wf_X7_46 rfl rfl dX7_isRight_22 ?_
  obtain ⟨a62, ea62, h⟩ := h
  have ka62 : kO σ a62 4 := (hYσ.get hth (by decide)) a62 ea62
  have h := h ka62
  refine W.eq (g2 := F0 m 25 ls [.ref a62, .int (i32 v3)]) (by rw [ea62]; rfl) ?_
  refine f_geti B hH ka62 (by decide) rfl wu_X4 1 (by decide) wf_X7_55 rfl rfl dX7_isRight_25 ?_
  refine lv_icmp_ge (tgt := 95) B.1 B.2.1 dX7_isRight_28 (by decide) (fun h9 => ?_) (fun h9 => ?_)
  · rw [if_pos ((i32_le (hGσ _ _) g3).mp h9)] at h
    exact a_X7_isRight_95 K hQ hX _ _ g2 h hGσ hYσ hE hth _ _ _ hH (lv_sub (l' := [(0, .ref th), (2, va_rf v2)]) hl [0, 1] rfl) hc
  · rw [if_neg (fun q => h9 ((i32_le (hGσ _ _) g3).mpr q))] at h
    exact a_X7_isRight_31 K hQ hX hK20 _ _ _ g2 g3 h hGσ hYσ hE hth _ _ _ hH (lv_sub (l' := [(0, .ref th), (2, va_rf v2), (3, .int (i32 v3))]) hl [0, 1, 2] rfl) hc
theorem al_X7_isRight_20 {Q : Sg → Int → Prop} {X : Sg → String → Prop} {th : Nat} (K : MD l R p s m args c cX7_isRight 5 RX7 D cA tys A n0 s0 12 247 [(18, 95, 98, 86)]) (hQ : CQZ p l e R s m args below meth c cX7_isRight D cA A n0 s0 QM σi Q) (hX : CX p l e R s m args below meth c 5 D cA A n0 s0 QM σi X) : ∀ (n : Nat), ∀ (σ : Sg) (v2 : Option Nat) (v3 : Int) (g2 : tyV σ 111 v2) (g3 : rng v3), wl_X7_isRight_20 th Q X n σ v2 v3 → RG σ → TY σ → Ext σi σ → kO σ th 7 → JJ p l e R s m args below meth c 5 D cA A n0 s0 QM σ 20 [(0, .ref th), (2, va_rf v2), (3, .int (i32 v3))] [] := by
  intro n
  induction n with
  | zero => intro σ v2 v3 g2 g3 h; exact h.elim
  | succ n ih => exact fun σ v2 v3 g2 g3 h => a_X7_isRight_20 K hQ hX ih σ v2 v3 g2 g3 h
set_option maxRecDepth 20000 in
theorem a_X7_isRight_18 {Q : Sg → Int → Prop} {X : Sg → String → Prop} {th : Nat} (K : MD l R p s m args c cX7_isRight 5 RX7 D cA tys A n0 s0 12 247 [(18, 95, 98, 86)]) (hQ : CQZ p l e R s m args below meth c cX7_isRight D cA A n0 s0 QM σi Q) (hX : CX p l e R s m args below meth c 5 D cA A n0 s0 QM σi X) : ∀ (σ : Sg) (v2 : Option Nat) (g2 : tyV σ 111 v2), w_X7_isRight_18 th Q X σ v2 → RG σ → TY σ → Ext σi σ → kO σ th 7 → JJ p l e R s m args below meth c 5 D cA A n0 s0 QM σ 18 [(0, .ref th), (2, va_rf v2)] [] := by
  intro σ v2 g2 h hGσ hYσ hE hth H locs ls hH hl hc
  have B := K.1
  have hl9 := K.2.2.2.2.2.2
  unfold w_X7_isRight_18 at h
  refine lv_iconst (v := i32 0) B.1 B.2.1 dX7_isRight_18 (by decide) ?_
  refine lv_istore_n (lv' := [(3, .int (i32 0)), (0, .ref th), (2, va_rf v2)]) B.1 B.2.1 dX7_isRight_19 rfl hl (by decide) (by generalize v2 = w9; cases w9 <;> rfl) (fun ls hl => ?_)
  obtain ⟨n9, h⟩ := h
  exact al_X7_isRight_20 K hQ hX n9 _ _ _ g2 (by unfold rng; omega) h hGσ hYσ hE hth _ _ _ hH (lv_sub (l' := [(0, .ref th), (2, va_rf v2), (3, .int (i32 0))]) hl [1, 2, 0] rfl) hc
set_option maxRecDepth 20000 in
theorem a_X7_isRight_0 {Q : Sg → Int → Prop} {X : Sg → String → Prop} {th : Nat} (K : MD l R p s m args c cX7_isRight 5 RX7 D cA tys A n0 s0 12 247 [(18, 95, 98, 86)]) (hQ : CQZ p l e R s m args below meth c cX7_isRight D cA A n0 s0 QM σi Q) (hX : CX p l e R s m args below meth c 5 D cA A n0 s0 QM σi X) : ∀ (σ : Sg) (v1 : Option Nat) (v2 : Option Nat) (g1 : tyV σ 4 v1) (g2 : tyV σ 111 v2), w_X7_isRight_0 th Q X σ v1 v2 → RG σ → TY σ → Ext σi σ → kO σ th 7 → JJ p l e R s m args below meth c 5 D cA A n0 s0 QM σ 0 [(0, .ref th), (1, va_rf v1), (2, va_rf v2)] [] := by
  intro σ v1 v2 g1 g2 h hGσ hYσ hE hth H locs ls hH hl hc
  have B := K.1
  have hl9 := K.2.2.2.2.2.2
  unfold w_X7_isRight_0 at h
  refine lv_aload_n B.1 B.2.1 dX7_isRight_0 rfl (lv_at hl 0 rfl) ?_
  refine lv_aload_nQ B.1 B.2.1 dX7_isRight_1 rfl (lv_at hl 1 rfl) ?_
  obtain ⟨σ63, eσ63⟩ : ∃ z, z = pP σ th 5 v1 := ⟨_, rfl⟩
  have h := h σ63 eσ63
  refine W.eq (g2 := F0 m 2 ls [va_rf v1, .ref th]) (rfl) ?_
  refine f_putp B hH hth (by decide) rfl wu_X7 tyX7 tyX7_ok nmX7 5 (by decide) wf_X7_46 rfl (r := v1) (ty := .object "StreamHouse$Job") rfl rfl rfl (nrO _ _) (ftO _ _) dX7_isRight_2 (fun H locs hH => ?_)
  have hH : Hd D cA A s (pP σ th 5 v1) H locs := hH
  rw [← eσ63] at hH
  have hGσ63 : RG σ63 := by rw [eσ63]; exact hGσ.pP
  have hYσ63 : TY σ63 := by rw [eσ63]; exact hYσ.pP hth (d := 4) (by decide) g1
  have xσ63 : Ext σ σ63 := by rw [eσ63]; exact Ext.pP
  have hc : CB n0 s0 σ63 := by rw [eσ63]; exact hc
  rw [show gc σ = gc σ63 by rw [eσ63]; try rfl, show gs σ = gs σ63 by rw [eσ63]; try rfl]
  refine lv_aload_n B.1 B.2.1 dX7_isRight_5 rfl (lv_at hl 0 rfl) ?_
  refine f_getp B hH (hth.up xσ63) (by decide) rfl wu_X7 1 (by decide) wf_X7_42 rfl rfl dX7_isRight_6 ?_
  refine lv_aload_nQ B.1 B.2.1 dX7_isRight_9 rfl (lv_at hl 1 rfl) ?_
  obtain ⟨a64, ea64, h⟩ := h
  have ka64 : kO σ63 a64 11 := (hYσ63.get (hth.up xσ63) (by decide)) a64 ea64
  have h := h ka64
  obtain ⟨σ65, eσ65⟩ : ∃ z, z = pP σ63 a64 5 v1 := ⟨_, rfl⟩
  have h := h σ65 eσ65
  refine W.eq (g2 := F0 m 10 ls [va_rf v1, .ref a64]) (by rw [ea64]; rfl) ?_
  refine f_putp B hH ka64 (by decide) rfl wu_X11 tyX11 tyX11_ok nmX11 5 (by decide) wf_X7_50 rfl (r := v1) (ty := .object "StreamHouse$Job") rfl rfl rfl (nrO _ _) (ftO _ _) dX7_isRight_10 (fun H locs hH => ?_)
  have hH : Hd D cA A s (pP σ63 a64 5 v1) H locs := hH
  rw [← eσ65] at hH
  have hGσ65 : RG σ65 := by rw [eσ65]; exact hGσ63.pP
  have hYσ65 : TY σ65 := by rw [eσ65]; exact hYσ63.pP ka64 (d := 4) (by decide) (g1.up xσ63)
  have xσ65 : Ext σ63 σ65 := by rw [eσ65]; exact Ext.pP
  have hc : CB n0 s0 σ65 := by rw [eσ65]; exact hc
  rw [show gc σ63 = gc σ65 by rw [eσ65]; try rfl, show gs σ63 = gs σ65 by rw [eσ65]; try rfl]
  refine lv_aload_n B.1 B.2.1 dX7_isRight_13 rfl (lv_at hl 0 rfl) ?_
  refine lv_iconst (v := i32 0) B.1 B.2.1 dX7_isRight_14 (by decide) ?_
  obtain ⟨σ66, eσ66⟩ : ∃ z, z = pI σ65 th 6 0 := ⟨_, rfl⟩
  have h := h σ66 eσ66
  refine f_puti B hH (hth.up (xσ63.trans xσ65)) (by decide) rfl wu_X7 tyX7 tyX7_ok nmX7 6 (by decide) wf_X7_51 rfl (ty := .int) rfl rfl rfl rfl rfl dX7_isRight_15 (fun H locs hH => ?_)
  have hH : Hd D cA A s (pI σ65 th 6 0) H locs := hH
  rw [← eσ66] at hH
  have hGσ66 : RG σ66 := by rw [eσ66]; exact hGσ65.pI (by unfold rng; omega)
  have hYσ66 : TY σ66 := by rw [eσ66]; exact hYσ65.pI
  have xσ66 : Ext σ65 σ66 := by rw [eσ66]; exact Ext.pI
  have hc : CB n0 s0 σ66 := by rw [eσ66]; exact hc
  rw [show gc σ65 = gc σ66 by rw [eσ66]; try rfl, show gs σ65 = gs σ66 by rw [eσ66]; try rfl]
  exact a_X7_isRight_18 K hQ hX _ _ (g2.up (xσ63.trans (xσ65.trans xσ66))) h hGσ66 hYσ66 (((hE.trans xσ63).trans xσ65).trans xσ66) (hth.up (xσ63.trans (xσ65.trans xσ66))) _ _ _ hH (lv_sub (l' := [(0, .ref th), (2, va_rf v2)]) hl [0, 2] rfl) hc
theorem ok_X7_isRight (hl0 : l.stackTraces = false) (hT : TyC cA tys) {Q : Sg → Int → Prop} {X : Sg → String → Prop} (σ : Sg) (th : Nat) (v1 : Option Nat) (v2 : Option Nat) (g1 : tyV σ 4 v1) (g2 : tyV σ 111 v2) (hth : kO σ th 7) (hG : RG σ) (hY : TY σ) (h : wp_X7_isRight th v1 v2 σ Q X) : Ok l D cA tys A yX7_isRight (.codeWith yX7_isRight cX7_isRight 5 (some .boolean) [(18, 95, 98, 86)]) 12 247 [.ref th, va_rf v1, va_rf v2] σ (QcZ σ Q) (QxC σ X) := by
  unfold wp_X7_isRight at h
  exact oc_ZH hl0 (by decide) (by cases v1 <;> cases v2 <;> exact Nat.le_of_ble_eq_true rfl) hT (fun p e R s m args below meth c K hQ hX H locs ls hH hl hc => a_X7_isRight_0 K hQ hX σ v1 v2 g1 g2 h hG hY (Ext.rfl' σ) hth H locs ls hH (lv_sub (l' := [(0, .ref th), (1, va_rf v1), (2, va_rf v2)]) hl [0, 1, 2] (by cases v1 <;> cases v2 <;> rfl)) hc)
theorem dX12_onePass_0 : decode cX12_onePass 0 = .ok (.aload_n 0, 1) := by decide +kernel
theorem dX12_onePass_1 : decode cX12_onePass 1 = .ok (.getfield 30, 3) := by decide +kernel
theorem dX12_onePass_4 : decode cX12_onePass 4 = .ok (.getfield 89, 3) := by decide +kernel
theorem dX12_onePass_7 : decode cX12_onePass 7 = .ok (.ifCond .ne 11, 3) := by decide +kernel
theorem dX12_onePass_10 : decode cX12_onePass 10 = .ok (.new 76, 3) := by decide +kernel
theorem dX12_onePass_13 : decode cX12_onePass 13 = .ok (.dup, 1) := by decide +kernel
theorem dX12_onePass_14 : decode cX12_onePass 14 = .ok (.invokespecial 78, 3) := by decide +kernel
theorem dX12_onePass_17 : decode cX12_onePass 17 = .ok (.athrow, 1) := by decide +kernel
theorem dX12_onePass_18 : decode cX12_onePass 18 = .ok (.aload_n 0, 1) := by decide +kernel
theorem dX12_onePass_19 : decode cX12_onePass 19 = .ok (.getfield 56, 3) := by decide +kernel
theorem dX12_onePass_22 : decode cX12_onePass 22 = .ok (.aload_n 0, 1) := by decide +kernel
theorem dX12_onePass_23 : decode cX12_onePass 23 = .ok (.getfield 30, 3) := by decide +kernel
theorem dX12_onePass_26 : decode cX12_onePass 26 = .ok (.aload_n 0, 1) := by decide +kernel
theorem dX12_onePass_27 : decode cX12_onePass 27 = .ok (.getfield 49, 3) := by decide +kernel
theorem dX12_onePass_30 : decode cX12_onePass 30 = .ok (.getfield 175, 3) := by decide +kernel
theorem dX12_onePass_33 : decode cX12_onePass 33 = .ok (.invokevirtual 212, 3) := by decide +kernel
theorem dX12_onePass_36 : decode cX12_onePass 36 = .ok (.istore_n 1, 1) := by decide +kernel
theorem dX12_onePass_37 : decode cX12_onePass 37 = .ok (.aload_n 0, 1) := by decide +kernel
theorem dX12_onePass_38 : decode cX12_onePass 38 = .ok (.getfield 56, 3) := by decide +kernel
theorem dX12_onePass_41 : decode cX12_onePass 41 = .ok (.invokevirtual 216, 3) := by decide +kernel
theorem dX12_onePass_44 : decode cX12_onePass 44 = .ok (.iload_n 1, 1) := by decide +kernel
theorem dX12_onePass_45 : decode cX12_onePass 45 = .ok (.ireturn, 1) := by decide +kernel
set_option maxRecDepth 20000 in
theorem a_X12_onePass_18 {Q : Sg → Int → Prop} {X : Sg → String → Prop} {th : Nat} (K : MD l R p s m args c cX12_onePass 2 RX12 D cA tys A n0 s0 13 271 []) (hQ : CQZ p l e R s m args below meth c cX12_onePass D cA A n0 s0 QM σi Q) (hX : CX p l e R s m args below meth c 2 D cA A n0 s0 QM σi X) (hTh : CT p l e R s m args below meth c cX12_onePass 2 D cA A n0 s0 QM σi RX12 X) : ∀ (σ : Sg), w_X12_onePass_18 th Q X σ → RG σ → TY σ → Ext σi σ → kO σ th 12 → JJ p l e R s m args below meth c 2 D cA A n0 s0 QM σ 18 [(0, .ref th)] [] := by
  intro σ h hGσ hYσ hE hth H locs ls hH hl hc
  have B := K.1
  have hl9 := K.2.2.2.2.2.2
  unfold w_X12_onePass_18 at h
  refine lv_aload_n B.1 B.2.1 dX12_onePass_18 rfl (lv_at hl 0 rfl) ?_
  refine f_getp B hH hth (by decide) rfl wu_X12 8 (by decide) wf_X12_56 rfl rfl dX12_onePass_19 ?_
  refine lv_aload_n B.1 B.2.1 dX12_onePass_22 rfl (lv_at hl 0 rfl) ?_
  refine f_getp B hH hth (by decide) rfl wu_X12 4 (by decide) wf_X12_30 rfl rfl dX12_onePass_23 ?_
  refine lv_aload_n B.1 B.2.1 dX12_onePass_26 rfl (lv_at hl 0 rfl) ?_
  refine f_getp B hH hth (by decide) rfl wu_X12 7 (by decide) wf_X12_49 rfl rfl dX12_onePass_27 ?_
  obtain ⟨a15, ea15, h⟩ := h
  have ka15 : kO σ a15 9 := (hYσ.get hth (by decide)) a15 ea15
  have h := h ka15
  refine W.eq (g2 := F0 m 30 ls [.ref a15, va_rf (gP σ th 4), va_rf (gP σ th 8)]) (by rw [ea15]; rfl) ?_
  refine f_getp B hH ka15 (by decide) rfl wu_X9 8 (by decide) wf_X12_175 rfl rfl dX12_onePass_30 ?_
  obtain ⟨a18, ea18, h⟩ := h
  have ka18 : kO σ a18 7 := (hYσ.get hth (by decide)) a18 ea18
  have h := h ka18
  refine W.eq (g2 := F0 m 33 ls [va_rf (gP σ a15 8), va_rf (gP σ th 4), .ref a18]) (by rw [ea18]; rfl) ?_
  refine c_VH B hH hl hc K.2.2.1 (C := RX7) (T := TX7) (N := 7) (ci := 7) (As := [va_rf (gP σ th 4), va_rf (gP σ a15 8)]) (ok_X7_isRight hl9 K.2.1 σ a18 (gP σ th 4) (gP σ a15 8) (hYσ.get hth (by decide)) (hYσ.get ka15 (by decide)) ka18 hGσ hYσ h) wc_X12_212 2 hd_X7_isRight ⟨Nat.le_trans (Nat.le_of_ble_eq_true rfl) K.2.2.2.1, Nat.le_trans (Nat.le_of_ble_eq_true rfl) K.2.2.2.2.1⟩ ka18.1 ka18.2 (by decide) rfl rfl (rest := []) rfl (Nat.le_of_ble_eq_true rfl) dX12_onePass_33 (fun σ16 w hq => ?_) (fun σ9 E9 hx9 => hX σ9 E9 _ _ _ (tb_out K.2.2.2.2.2.1 rfl) hx9.1 hx9.2.1 hx9.2.2.1 (hE.trans hx9.2.2.2))
  obtain ⟨r17, rfl, ⟨gr17, gzr17⟩, h, hGσ16, hYσ16, xσ16⟩ := hq
  have h := h xσ16
  intro H locs ls hH hl hc
  refine W.eq (g2 := F0 m 36 ls [.int (i32 r17)]) (rfl) ?_
  try dsimp only at h
  refine lv_istore_n (lv' := [(1, .int (i32 r17)), (0, .ref th)]) B.1 B.2.1 dX12_onePass_36 rfl hl (by decide) rfl (fun ls hl => ?_)
  refine lv_aload_n B.1 B.2.1 dX12_onePass_37 rfl (lv_at hl 1 rfl) ?_
  refine f_getp B hH (hth.up xσ16) (by decide) rfl wu_X12 8 (by decide) wf_X12_56 rfl rfl dX12_onePass_38 ?_
  obtain ⟨a20, ea20, h⟩ := h
  have ka20 : kO σ16 a20 7 := (hYσ16.get (hth.up xσ16) (by decide)) a20 ea20
  have h := h ka20
  refine W.eq (g2 := F0 m 41 ls [.ref a20]) (by rw [ea20]; rfl) ?_
  refine c_V B hH hl hc K.2.2.1 (C := RX7) (T := TX7) (N := 7) (ci := 7) (As := []) (ok_X7_forget hl9 K.2.1 σ16 a20 ka20 hGσ16 hYσ16 h) wc_X12_216 0 hd_X7_forget ⟨Nat.le_trans (Nat.le_of_ble_eq_true rfl) K.2.2.2.1, Nat.le_trans (Nat.le_of_ble_eq_true rfl) K.2.2.2.2.1⟩ ka20.1 ka20.2 (by decide) rfl rfl (rest := []) rfl (Nat.le_of_ble_eq_true rfl) dX12_onePass_41 (fun σ19 w hq => ?_) (fun σ9 E9 hx9 => hX σ9 E9 _ _ _ (tb_out K.2.2.2.2.2.1 rfl) hx9.1 hx9.2.1 hx9.2.2.1 ((hE.trans xσ16).trans hx9.2.2.2))
  obtain ⟨rfl, h, hGσ19, hYσ19, xσ19⟩ := hq
  have h := h xσ19
  intro H locs ls hH hl hc
  refine W.eq (g2 := F0 m 44 ls []) (rfl) ?_
  try dsimp only at h
  refine lv_iload_n B.1 B.2.1 dX12_onePass_44 rfl (lv_at hl 0 rfl) ?_
  obtain ⟨qz, h⟩ := h
  exact hQ _ _ _ _ _ _ gr17 qz dX12_onePass_45 hH hc h hGσ19 hYσ19 ((hE.trans xσ16).trans xσ19)
set_option maxRecDepth 20000 in
theorem a_X12_onePass_10 {Q : Sg → Int → Prop} {X : Sg → String → Prop} {th : Nat} (K : MD l R p s m args c cX12_onePass 2 RX12 D cA tys A n0 s0 13 271 []) (hQ : CQZ p l e R s m args below meth c cX12_onePass D cA A n0 s0 QM σi Q) (hX : CX p l e R s m args below meth c 2 D cA A n0 s0 QM σi X) (hTh : CT p l e R s m args below meth c cX12_onePass 2 D cA A n0 s0 QM σi RX12 X) : ∀ (σ : Sg), w_X12_onePass_10 th Q X σ → RG σ → TY σ → Ext σi σ → kO σ th 12 → JJ p l e R s m args below meth c 2 D cA A n0 s0 QM σ 10 [(0, .ref th)] [] := by
  intro σ h hGσ hYσ hE hth H locs ls hH hl hc
  have B := K.1
  have hl9 := K.2.2.2.2.2.2
  unfold w_X12_onePass_10 at h
  obtain ⟨q9, h⟩ := h
  exact hTh _ _ _ _ _ _ _ _ _ tw_X12_76_78 dX12_onePass_10 dX12_onePass_13 dX12_onePass_14 dX12_onePass_17 hH hl hc q9 h hGσ hYσ hE (by have := K.2.2.2.1; omega) (by have := K.2.2.2.2.1; omega)
set_option maxRecDepth 20000 in
theorem a_X12_onePass_0 {Q : Sg → Int → Prop} {X : Sg → String → Prop} {th : Nat} (K : MD l R p s m args c cX12_onePass 2 RX12 D cA tys A n0 s0 13 271 []) (hQ : CQZ p l e R s m args below meth c cX12_onePass D cA A n0 s0 QM σi Q) (hX : CX p l e R s m args below meth c 2 D cA A n0 s0 QM σi X) (hTh : CT p l e R s m args below meth c cX12_onePass 2 D cA A n0 s0 QM σi RX12 X) : ∀ (σ : Sg), w_X12_onePass_0 th Q X σ → RG σ → TY σ → Ext σi σ → kO σ th 12 → JJ p l e R s m args below meth c 2 D cA A n0 s0 QM σ 0 [(0, .ref th)] [] := by
  intro σ h hGσ hYσ hE hth H locs ls hH hl hc
  have B := K.1
  have hl9 := K.2.2.2.2.2.2
  unfold w_X12_onePass_0 at h
  refine lv_aload_n B.1 B.2.1 dX12_onePass_0 rfl (lv_at hl 0 rfl) ?_
  refine f_getp B hH hth (by decide) rfl wu_X12 4 (by decide) wf_X12_30 rfl rfl dX12_onePass_1 ?_
  obtain ⟨a21, ea21, h⟩ := h
  have ka21 : kO σ a21 4 := (hYσ.get hth (by decide)) a21 ea21
  have h := h ka21
  refine W.eq (g2 := F0 m 4 ls [.ref a21]) (by rw [ea21]; rfl) ?_
  refine f_geti B hH ka21 (by decide) rfl wu_X4 1 (by decide) wf_X12_89 rfl rfl dX12_onePass_4 ?_
  refine lv_if_ne (tgt := 18) B.1 B.2.1 dX12_onePass_7 (by decide) (fun h9 => ?_) (fun h9 => ?_)
  · rw [if_pos (fun q => h9 ((z_eq (hGσ _ _)).mpr q))] at h
    exact a_X12_onePass_18 K hQ hX hTh _ h hGσ hYσ hE hth _ _ _ hH (lv_sub (l' := [(0, .ref th)]) hl [0] rfl) hc
  · rw [if_neg (fun q => q ((z_eq (hGσ _ _)).mp h9))] at h
    exact a_X12_onePass_10 K hQ hX hTh _ h hGσ hYσ hE hth _ _ _ hH (lv_sub (l' := [(0, .ref th)]) hl [0] rfl) hc
theorem ok_X12_onePass (hl0 : l.stackTraces = false) (hT : TyC cA tys) {Q : Sg → Int → Prop} {X : Sg → String → Prop} (σ : Sg) (th : Nat) (hth : kO σ th 12) (hG : RG σ) (hY : TY σ) (h : wp_X12_onePass th σ Q X) : Ok l D cA tys A yX12_onePass (.code yX12_onePass cX12_onePass 2 (some .boolean)) 13 271 [.ref th] σ (QcZ σ Q) (QxC σ X) := by
  unfold wp_X12_onePass at h
  exact oc_Z hl0 (by decide) (by exact Nat.le_of_ble_eq_true rfl) hT (fun p e R s m args below meth c K hQ hX hTh H locs ls hH hl hc => a_X12_onePass_0 K hQ hX hTh σ h hG hY (Ext.rfl' σ) hth H locs ls hH (lv_sub (l' := [(0, .ref th)]) hl [0] rfl) hc)
theorem dX12_operator_0 : decode cX12_operator 0 = .ok (.iload_n 1, 1) := by decide +kernel
theorem dX12_operator_1 : decode cX12_operator 1 = .ok (.ifCond .lt 14, 3) := by decide +kernel
theorem dX12_operator_4 : decode cX12_operator 4 = .ok (.iload_n 1, 1) := by decide +kernel
theorem dX12_operator_5 : decode cX12_operator 5 = .ok (.aload_n 0, 1) := by decide +kernel
theorem dX12_operator_6 : decode cX12_operator 6 = .ok (.getfield 30, 3) := by decide +kernel
theorem dX12_operator_9 : decode cX12_operator 9 = .ok (.getfield 89, 3) := by decide +kernel
theorem dX12_operator_12 : decode cX12_operator 12 = .ok (.if_icmp .lt 11, 3) := by decide +kernel
theorem dX12_operator_15 : decode cX12_operator 15 = .ok (.new 92, 3) := by decide +kernel
theorem dX12_operator_18 : decode cX12_operator 18 = .ok (.dup, 1) := by decide +kernel
theorem dX12_operator_19 : decode cX12_operator 19 = .ok (.invokespecial 94, 3) := by decide +kernel
theorem dX12_operator_22 : decode cX12_operator 22 = .ok (.athrow, 1) := by decide +kernel
theorem dX12_operator_23 : decode cX12_operator 23 = .ok (.iload_n 2, 1) := by decide +kernel
theorem dX12_operator_24 : decode cX12_operator 24 = .ok (.ifCond .lt 9, 3) := by decide +kernel
theorem dX12_operator_27 : decode cX12_operator 27 = .ok (.iload_n 2, 1) := by decide +kernel
theorem dX12_operator_28 : decode cX12_operator 28 = .ok (.bipush 11, 2) := by decide +kernel
theorem dX12_operator_30 : decode cX12_operator 30 = .ok (.if_icmp .le 11, 3) := by decide +kernel
theorem dX12_operator_33 : decode cX12_operator 33 = .ok (.new 60, 3) := by decide +kernel
theorem dX12_operator_36 : decode cX12_operator 36 = .ok (.dup, 1) := by decide +kernel
theorem dX12_operator_37 : decode cX12_operator 37 = .ok (.invokespecial 62, 3) := by decide +kernel
theorem dX12_operator_40 : decode cX12_operator 40 = .ok (.athrow, 1) := by decide +kernel
theorem dX12_operator_41 : decode cX12_operator 41 = .ok (.aload_n 0, 1) := by decide +kernel
theorem dX12_operator_42 : decode cX12_operator 42 = .ok (.getfield 30, 3) := by decide +kernel
theorem dX12_operator_45 : decode cX12_operator 45 = .ok (.getfield 95, 3) := by decide +kernel
theorem dX12_operator_48 : decode cX12_operator 48 = .ok (.iload_n 1, 1) := by decide +kernel
theorem dX12_operator_49 : decode cX12_operator 49 = .ok (.aaload, 1) := by decide +kernel
theorem dX12_operator_50 : decode cX12_operator 50 = .ok (.astore_n 3, 1) := by decide +kernel
theorem dX12_operator_51 : decode cX12_operator 51 = .ok (.iload_n 2, 1) := by decide +kernel
theorem dX12_operator_52 : decode cX12_operator 52 = .ok (.tableswitch 56 0 3 #[32, 38, 44, 50], 32) := by decide +kernel
theorem dX12_operator_84 : decode cX12_operator 84 = .ok (.aload_n 3, 1) := by decide +kernel
theorem dX12_operator_85 : decode cX12_operator 85 = .ok (.getfield 99, 3) := by decide +kernel
theorem dX12_operator_88 : decode cX12_operator 88 = .ok (.i2l, 1) := by decide +kernel
theorem dX12_operator_89 : decode cX12_operator 89 = .ok (.lreturn, 1) := by decide +kernel
theorem dX12_operator_90 : decode cX12_operator 90 = .ok (.aload_n 3, 1) := by decide +kernel
theorem dX12_operator_91 : decode cX12_operator 91 = .ok (.getfield 104, 3) := by decide +kernel
theorem dX12_operator_94 : decode cX12_operator 94 = .ok (.i2l, 1) := by decide +kernel
theorem dX12_operator_95 : decode cX12_operator 95 = .ok (.lreturn, 1) := by decide +kernel
theorem dX12_operator_96 : decode cX12_operator 96 = .ok (.aload_n 3, 1) := by decide +kernel
theorem dX12_operator_97 : decode cX12_operator 97 = .ok (.getfield 107, 3) := by decide +kernel
theorem dX12_operator_100 : decode cX12_operator 100 = .ok (.i2l, 1) := by decide +kernel
theorem dX12_operator_101 : decode cX12_operator 101 = .ok (.lreturn, 1) := by decide +kernel
theorem dX12_operator_102 : decode cX12_operator 102 = .ok (.aload_n 3, 1) := by decide +kernel
theorem dX12_operator_103 : decode cX12_operator 103 = .ok (.getfield 110, 3) := by decide +kernel
theorem dX12_operator_106 : decode cX12_operator 106 = .ok (.i2l, 1) := by decide +kernel
theorem dX12_operator_107 : decode cX12_operator 107 = .ok (.lreturn, 1) := by decide +kernel
theorem dX12_operator_108 : decode cX12_operator 108 = .ok (.iload_n 2, 1) := by decide +kernel
theorem dX12_operator_109 : decode cX12_operator 109 = .ok (.iconst 4, 1) := by decide +kernel
theorem dX12_operator_110 : decode cX12_operator 110 = .ok (.isub, 1) := by decide +kernel
theorem dX12_operator_111 : decode cX12_operator 111 = .ok (.aload_n 3, 1) := by decide +kernel
theorem dX12_operator_112 : decode cX12_operator 112 = .ok (.getfield 110, 3) := by decide +kernel
theorem dX12_operator_115 : decode cX12_operator 115 = .ok (.if_icmp .ge 14, 3) := by decide +kernel
theorem dX12_operator_118 : decode cX12_operator 118 = .ok (.aload_n 3, 1) := by decide +kernel
theorem dX12_operator_119 : decode cX12_operator 119 = .ok (.getfield 113, 3) := by decide +kernel
theorem dX12_operator_122 : decode cX12_operator 122 = .ok (.iload_n 2, 1) := by decide +kernel
theorem dX12_operator_123 : decode cX12_operator 123 = .ok (.iconst 4, 1) := by decide +kernel
theorem dX12_operator_124 : decode cX12_operator 124 = .ok (.isub, 1) := by decide +kernel
theorem dX12_operator_125 : decode cX12_operator 125 = .ok (.laload, 1) := by decide +kernel
theorem dX12_operator_126 : decode cX12_operator 126 = .ok (.goto 4, 3) := by decide +kernel
theorem dX12_operator_129 : decode cX12_operator 129 = .ok (.lconst 0, 1) := by decide +kernel
theorem dX12_operator_130 : decode cX12_operator 130 = .ok (.lreturn, 1) := by decide +kernel
set_option maxRecDepth 20000 in
theorem a_X12_operator_15 {Q : Sg → Int64 → Prop} {X : Sg → String → Prop} {th : Nat} (K : MD l R p s m args c cX12_operator 4 RX12 D cA tys A n0 s0 6 90 []) (hQ : CQJ p l e R s m args below meth c cX12_operator D cA A n0 s0 QM σi Q) (hX : CX p l e R s m args below meth c 4 D cA A n0 s0 QM σi X) (hTh : CT p l e R s m args below meth c cX12_operator 4 D cA A n0 s0 QM σi RX12 X) : ∀ (σ : Sg), w_X12_operator_15 th Q X σ → RG σ → TY σ → Ext σi σ → kO σ th 12 → JJ p l e R s m args below meth c 4 D cA A n0 s0 QM σ 15 [(0, .ref th)] [] := by
  intro σ h hGσ hYσ hE hth H locs ls hH hl hc
  have B := K.1
  have hl9 := K.2.2.2.2.2.2
  unfold w_X12_operator_15 at h
  obtain ⟨q9, h⟩ := h
  exact hTh _ _ _ _ _ _ _ _ _ tw_X12_92_94 dX12_operator_15 dX12_operator_18 dX12_operator_19 dX12_operator_22 hH hl hc q9 h hGσ hYσ hE (by have := K.2.2.2.1; omega) (by have := K.2.2.2.2.1; omega)
set_option maxRecDepth 20000 in
theorem a_X12_operator_33 {Q : Sg → Int64 → Prop} {X : Sg → String → Prop} {th : Nat} (K : MD l R p s m args c cX12_operator 4 RX12 D cA tys A n0 s0 6 90 []) (hQ : CQJ p l e R s m args below meth c cX12_operator D cA A n0 s0 QM σi Q) (hX : CX p l e R s m args below meth c 4 D cA A n0 s0 QM σi X) (hTh : CT p l e R s m args below meth c cX12_operator 4 D cA A n0 s0 QM σi RX12 X) : ∀ (σ : Sg), w_X12_operator_33 th Q X σ → RG σ → TY σ → Ext σi σ → kO σ th 12 → JJ p l e R s m args below meth c 4 D cA A n0 s0 QM σ 33 [(0, .ref th)] [] := by
  intro σ h hGσ hYσ hE hth H locs ls hH hl hc
  have B := K.1
  have hl9 := K.2.2.2.2.2.2
  unfold w_X12_operator_33 at h
  obtain ⟨q9, h⟩ := h
  exact hTh _ _ _ _ _ _ _ _ _ tw_X12_60_62 dX12_operator_33 dX12_operator_36 dX12_operator_37 dX12_operator_40 hH hl hc q9 h hGσ hYσ hE (by have := K.2.2.2.1; omega) (by have := K.2.2.2.2.1; omega)
set_option maxRecDepth 20000 in
theorem a_X12_operator_84 {Q : Sg → Int64 → Prop} {X : Sg → String → Prop} {th : Nat} (K : MD l R p s m args c cX12_operator 4 RX12 D cA tys A n0 s0 6 90 []) (hQ : CQJ p l e R s m args below meth c cX12_operator D cA A n0 s0 QM σi Q) (hX : CX p l e R s m args below meth c 4 D cA A n0 s0 QM σi X) (hTh : CT p l e R s m args below meth c cX12_operator 4 D cA A n0 s0 QM σi RX12 X) : ∀ (σ : Sg) (v3 : Option Nat) (g3 : tyV σ 5 v3), w_X12_operator_84 th Q X σ v3 → RG σ → TY σ → Ext σi σ → kO σ th 12 → JJ p l e R s m args below meth c 4 D cA A n0 s0 QM σ 84 [(0, .ref th), (3, va_rf v3)] [] := by
  intro σ v3 g3 h hGσ hYσ hE hth H locs ls hH hl hc
  have B := K.1
  have hl9 := K.2.2.2.2.2.2
  unfold w_X12_operator_84 at h
  refine lv_aload_nQ B.1 B.2.1 dX12_operator_84 rfl (lv_at hl 1 rfl) ?_
  obtain ⟨a21, ea21, h⟩ := h
  have ka21 : kO σ a21 5 := g3 a21 ea21
  have h := h ka21
  refine W.eq (g2 := F0 m 85 ls [.ref a21]) (by rw [ea21]; rfl) ?_
  refine f_geti B hH ka21 (by decide) rfl wu_X5 6 (by decide) wf_X12_99 rfl rfl dX12_operator_85 ?_
  refine lv_i2l B.1 B.2.1 dX12_operator_88 (i32_i64 (hGσ _ _)) ?_
  exact hQ _ _ _ _ _ _ dX12_operator_89 hH hc h hGσ hYσ hE
set_option maxRecDepth 20000 in
theorem a_X12_operator_90 {Q : Sg → Int64 → Prop} {X : Sg → String → Prop} {th : Nat} (K : MD l R p s m args c cX12_operator 4 RX12 D cA tys A n0 s0 6 90 []) (hQ : CQJ p l e R s m args below meth c cX12_operator D cA A n0 s0 QM σi Q) (hX : CX p l e R s m args below meth c 4 D cA A n0 s0 QM σi X) (hTh : CT p l e R s m args below meth c cX12_operator 4 D cA A n0 s0 QM σi RX12 X) : ∀ (σ : Sg) (v3 : Option Nat) (g3 : tyV σ 5 v3), w_X12_operator_90 th Q X σ v3 → RG σ → TY σ → Ext σi σ → kO σ th 12 → JJ p l e R s m args below meth c 4 D cA A n0 s0 QM σ 90 [(0, .ref th), (3, va_rf v3)] [] := by
  intro σ v3 g3 h hGσ hYσ hE hth H locs ls hH hl hc
  have B := K.1
  have hl9 := K.2.2.2.2.2.2
  unfold w_X12_operator_90 at h
  refine lv_aload_nQ B.1 B.2.1 dX12_operator_90 rfl (lv_at hl 1 rfl) ?_
  obtain ⟨a22, ea22, h⟩ := h
  have ka22 : kO σ a22 5 := g3 a22 ea22
  have h := h ka22
  refine W.eq (g2 := F0 m 91 ls [.ref a22]) (by rw [ea22]; rfl) ?_
  refine f_geti B hH ka22 (by decide) rfl wu_X5 7 (by decide) wf_X12_104 rfl rfl dX12_operator_91 ?_
  refine lv_i2l B.1 B.2.1 dX12_operator_94 (i32_i64 (hGσ _ _)) ?_
  exact hQ _ _ _ _ _ _ dX12_operator_95 hH hc h hGσ hYσ hE
set_option maxRecDepth 20000 in
theorem a_X12_operator_96 {Q : Sg → Int64 → Prop} {X : Sg → String → Prop} {th : Nat} (K : MD l R p s m args c cX12_operator 4 RX12 D cA tys A n0 s0 6 90 []) (hQ : CQJ p l e R s m args below meth c cX12_operator D cA A n0 s0 QM σi Q) (hX : CX p l e R s m args below meth c 4 D cA A n0 s0 QM σi X) (hTh : CT p l e R s m args below meth c cX12_operator 4 D cA A n0 s0 QM σi RX12 X) : ∀ (σ : Sg) (v3 : Option Nat) (g3 : tyV σ 5 v3), w_X12_operator_96 th Q X σ v3 → RG σ → TY σ → Ext σi σ → kO σ th 12 → JJ p l e R s m args below meth c 4 D cA A n0 s0 QM σ 96 [(0, .ref th), (3, va_rf v3)] [] := by
  intro σ v3 g3 h hGσ hYσ hE hth H locs ls hH hl hc
  have B := K.1
  have hl9 := K.2.2.2.2.2.2
  unfold w_X12_operator_96 at h
  refine lv_aload_nQ B.1 B.2.1 dX12_operator_96 rfl (lv_at hl 1 rfl) ?_
  obtain ⟨a23, ea23, h⟩ := h
  have ka23 : kO σ a23 5 := g3 a23 ea23
  have h := h ka23
  refine W.eq (g2 := F0 m 97 ls [.ref a23]) (by rw [ea23]; rfl) ?_
  refine f_geti B hH ka23 (by decide) rfl wu_X5 8 (by decide) wf_X12_107 rfl rfl dX12_operator_97 ?_
  refine lv_i2l B.1 B.2.1 dX12_operator_100 (i32_i64 (hGσ _ _)) ?_
  exact hQ _ _ _ _ _ _ dX12_operator_101 hH hc h hGσ hYσ hE
set_option maxRecDepth 20000 in
theorem a_X12_operator_102 {Q : Sg → Int64 → Prop} {X : Sg → String → Prop} {th : Nat} (K : MD l R p s m args c cX12_operator 4 RX12 D cA tys A n0 s0 6 90 []) (hQ : CQJ p l e R s m args below meth c cX12_operator D cA A n0 s0 QM σi Q) (hX : CX p l e R s m args below meth c 4 D cA A n0 s0 QM σi X) (hTh : CT p l e R s m args below meth c cX12_operator 4 D cA A n0 s0 QM σi RX12 X) : ∀ (σ : Sg) (v3 : Option Nat) (g3 : tyV σ 5 v3), w_X12_operator_102 th Q X σ v3 → RG σ → TY σ → Ext σi σ → kO σ th 12 → JJ p l e R s m args below meth c 4 D cA A n0 s0 QM σ 102 [(0, .ref th), (3, va_rf v3)] [] := by
  intro σ v3 g3 h hGσ hYσ hE hth H locs ls hH hl hc
  have B := K.1
  have hl9 := K.2.2.2.2.2.2
  unfold w_X12_operator_102 at h
  refine lv_aload_nQ B.1 B.2.1 dX12_operator_102 rfl (lv_at hl 1 rfl) ?_
  obtain ⟨a24, ea24, h⟩ := h
  have ka24 : kO σ a24 5 := g3 a24 ea24
  have h := h ka24
  refine W.eq (g2 := F0 m 103 ls [.ref a24]) (by rw [ea24]; rfl) ?_
  refine f_geti B hH ka24 (by decide) rfl wu_X5 3 (by decide) wf_X12_110 rfl rfl dX12_operator_103 ?_
  refine lv_i2l B.1 B.2.1 dX12_operator_106 (i32_i64 (hGσ _ _)) ?_
  exact hQ _ _ _ _ _ _ dX12_operator_107 hH hc h hGσ hYσ hE
set_option maxRecDepth 20000 in
theorem a_X12_operator_130 {Q : Sg → Int64 → Prop} {X : Sg → String → Prop} {th : Nat} (K : MD l R p s m args c cX12_operator 4 RX12 D cA tys A n0 s0 6 90 []) (hQ : CQJ p l e R s m args below meth c cX12_operator D cA A n0 s0 QM σi Q) (hX : CX p l e R s m args below meth c 4 D cA A n0 s0 QM σi X) (hTh : CT p l e R s m args below meth c cX12_operator 4 D cA A n0 s0 QM σi RX12 X) : ∀ (σ : Sg) (u0 : Int64), w_X12_operator_130 th Q X σ u0 → RG σ → TY σ → Ext σi σ → kO σ th 12 → JJ p l e R s m args below meth c 4 D cA A n0 s0 QM σ 130 [(0, .ref th)] [.long u0] := by
  intro σ u0 h hGσ hYσ hE hth H locs ls hH hl hc
  have B := K.1
  have hl9 := K.2.2.2.2.2.2
  unfold w_X12_operator_130 at h
  exact hQ _ _ _ _ _ _ dX12_operator_130 hH hc h hGσ hYσ hE
set_option maxRecDepth 20000 in
theorem a_X12_operator_129 {Q : Sg → Int64 → Prop} {X : Sg → String → Prop} {th : Nat} (K : MD l R p s m args c cX12_operator 4 RX12 D cA tys A n0 s0 6 90 []) (hQ : CQJ p l e R s m args below meth c cX12_operator D cA A n0 s0 QM σi Q) (hX : CX p l e R s m args below meth c 4 D cA A n0 s0 QM σi X) (hTh : CT p l e R s m args below meth c cX12_operator 4 D cA A n0 s0 QM σi RX12 X) : ∀ (σ : Sg), w_X12_operator_129 th Q X σ → RG σ → TY σ → Ext σi σ → kO σ th 12 → JJ p l e R s m args below meth c 4 D cA A n0 s0 QM σ 129 [(0, .ref th)] [] := by
  intro σ h hGσ hYσ hE hth H locs ls hH hl hc
  have B := K.1
  have hl9 := K.2.2.2.2.2.2
  unfold w_X12_operator_129 at h
  refine lv_lconst (v := 0) B.1 B.2.1 dX12_operator_129 (by decide) ?_
  exact a_X12_operator_130 K hQ hX hTh _ _ h hGσ hYσ hE hth _ _ _ hH (lv_sub (l' := [(0, .ref th)]) hl [0] rfl) hc
set_option maxRecDepth 20000 in
theorem a_X12_operator_118 {Q : Sg → Int64 → Prop} {X : Sg → String → Prop} {th : Nat} (K : MD l R p s m args c cX12_operator 4 RX12 D cA tys A n0 s0 6 90 []) (hQ : CQJ p l e R s m args below meth c cX12_operator D cA A n0 s0 QM σi Q) (hX : CX p l e R s m args below meth c 4 D cA A n0 s0 QM σi X) (hTh : CT p l e R s m args below meth c cX12_operator 4 D cA A n0 s0 QM σi RX12 X) : ∀ (σ : Sg) (v2 : Int) (v3 : Option Nat) (g2 : rng v2) (g3 : tyV σ 5 v3), w_X12_operator_118 th Q X σ v2 v3 → RG σ → TY σ → Ext σi σ → kO σ th 12 → JJ p l e R s m args below meth c 4 D cA A n0 s0 QM σ 118 [(0, .ref th), (2, .int (i32 v2)), (3, va_rf v3)] [] := by
  intro σ v2 v3 g2 g3 h hGσ hYσ hE hth H locs ls hH hl hc
  have B := K.1
  have hl9 := K.2.2.2.2.2.2
  unfold w_X12_operator_118 at h
  refine lv_aload_nQ B.1 B.2.1 dX12_operator_118 rfl (lv_at hl 2 rfl) ?_
  obtain ⟨a25, ea25, h⟩ := h
  have ka25 : kO σ a25 5 := g3 a25 ea25
  have h := h ka25
  refine W.eq (g2 := F0 m 119 ls [.ref a25]) (by rw [ea25]; rfl) ?_
  refine f_getp B hH ka25 (by decide) rfl wu_X5 0 (by decide) wf_X12_113 rfl rfl dX12_operator_119 ?_
  refine lv_iload_n B.1 B.2.1 dX12_operator_122 rfl (lv_at hl 1 rfl) ?_
  refine lv_iconst (v := i32 4) B.1 B.2.1 dX12_operator_123 (by decide) ?_
  obtain ⟨q1, h⟩ := h
  refine lv_isub B.1 B.2.1 dX12_operator_124 ?_
  rw [i32_sub]
  obtain ⟨a26, ea26, h⟩ := h
  have ka26 : kO σ a26 101 := (hYσ.get ka25 (by decide)) a26 ea26
  have h := h ka26
  obtain ⟨q2, h⟩ := h
  refine W.eq (g2 := F0 m 125 ls [.int (i32 (v2 - 4)), .ref a26]) (by rw [ea26]; rfl) ?_
  refine y_lald B K.2.1 hH ka26 q2 dX12_operator_125 (hYσ.2 _) ?_
  refine lv_goto (tgt := 130) B.1 B.2.1 dX12_operator_126 (by decide) ?_
  exact a_X12_operator_130 K hQ hX hTh _ _ h hGσ hYσ hE hth _ _ _ hH (lv_sub (l' := [(0, .ref th)]) hl [0] rfl) hc
set_option maxRecDepth 20000 in
theorem a_X12_operator_108 {Q : Sg → Int64 → Prop} {X : Sg → String → Prop} {th : Nat} (K : MD l R p s m args c cX12_operator 4 RX12 D cA tys A n0 s0 6 90 []) (hQ : CQJ p l e R s m args below meth c cX12_operator D cA A n0 s0 QM σi Q) (hX : CX p l e R s m args below meth c 4 D cA A n0 s0 QM σi X) (hTh : CT p l e R s m args below meth c cX12_operator 4 D cA A n0 s0 QM σi RX12 X) : ∀ (σ : Sg) (v2 : Int) (v3 : Option Nat) (g2 : rng v2) (g3 : tyV σ 5 v3), w_X12_operator_108 th Q X σ v2 v3 → RG σ → TY σ → Ext σi σ → kO σ th 12 → JJ p l e R s m args below meth c 4 D cA A n0 s0 QM σ 108 [(0, .ref th), (2, .int (i32 v2)), (3, va_rf v3)] [] := by
  intro σ v2 v3 g2 g3 h hGσ hYσ hE hth H locs ls hH hl hc
  have B := K.1
  have hl9 := K.2.2.2.2.2.2
  unfold w_X12_operator_108 at h
  refine lv_iload_n B.1 B.2.1 dX12_operator_108 rfl (lv_at hl 1 rfl) ?_
  refine lv_iconst (v := i32 4) B.1 B.2.1 dX12_operator_109 (by decide) ?_
  obtain ⟨q1, h⟩ := h
  refine lv_isub B.1 B.2.1 dX12_operator_110 ?_
  rw [i32_sub]
  refine lv_aload_nQ B.1 B.2.1 dX12_operator_111 rfl (lv_at hl 2 rfl) ?_
  obtain ⟨a27, ea27, h⟩ := h
  have ka27 : kO σ a27 5 := g3 a27 ea27
  have h := h ka27
  refine W.eq (g2 := F0 m 112 ls [.ref a27, .int (i32 (v2 - 4))]) (by rw [ea27]; rfl) ?_
  refine f_geti B hH ka27 (by decide) rfl wu_X5 3 (by decide) wf_X12_110 rfl rfl dX12_operator_112 ?_
  refine lv_icmp_ge (tgt := 129) B.1 B.2.1 dX12_operator_115 (by decide) (fun h9 => ?_) (fun h9 => ?_)
  · rw [if_pos ((i32_le (hGσ _ _) q1).mp h9)] at h
    exact a_X12_operator_129 K hQ hX hTh _ h hGσ hYσ hE hth _ _ _ hH (lv_sub (l' := [(0, .ref th)]) hl [0] rfl) hc
  · rw [if_neg (fun q => h9 ((i32_le (hGσ _ _) q1).mpr q))] at h
    exact a_X12_operator_118 K hQ hX hTh _ _ _ g2 g3 h hGσ hYσ hE hth _ _ _ hH (lv_sub (l' := [(0, .ref th), (2, .int (i32 v2)), (3, va_rf v3)]) hl [0, 1, 2] rfl) hc
set_option maxRecDepth 20000 in
theorem a_X12_operator_41 {Q : Sg → Int64 → Prop} {X : Sg → String → Prop} {th : Nat} (K : MD l R p s m args c cX12_operator 4 RX12 D cA tys A n0 s0 6 90 []) (hQ : CQJ p l e R s m args below meth c cX12_operator D cA A n0 s0 QM σi Q) (hX : CX p l e R s m args below meth c 4 D cA A n0 s0 QM σi X) (hTh : CT p l e R s m args below meth c cX12_operator 4 D cA A n0 s0 QM σi RX12 X) : ∀ (σ : Sg) (v1 : Int) (v2 : Int) (g1 : rng v1) (g2 : rng v2), w_X12_operator_41 th Q X σ v1 v2 → RG σ → TY σ → Ext σi σ → kO σ th 12 → JJ p l e R s m args below meth c 4 D cA A n0 s0 QM σ 41 [(0, .ref th), (1, .int (i32 v1)), (2, .int (i32 v2))] [] := by
  intro σ v1 v2 g1 g2 h hGσ hYσ hE hth H locs ls hH hl hc
  have B := K.1
  have hl9 := K.2.2.2.2.2.2
  unfold w_X12_operator_41 at h
  refine lv_aload_n B.1 B.2.1 dX12_operator_41 rfl (lv_at hl 0 rfl) ?_
  refine f_getp B hH hth (by decide) rfl wu_X12 4 (by decide) wf_X12_30 rfl rfl dX12_operator_42 ?_
  obtain ⟨a28, ea28, h⟩ := h
  have ka28 : kO σ a28 4 := (hYσ.get hth (by decide)) a28 ea28
  have h := h ka28
  refine W.eq (g2 := F0 m 45 ls [.ref a28]) (by rw [ea28]; rfl) ?_
  refine f_getp B hH ka28 (by decide) rfl wu_X4 0 (by decide) wf_X12_95 rfl rfl dX12_operator_45 ?_
  refine lv_iload_n B.1 B.2.1 dX12_operator_48 rfl (lv_at hl 1 rfl) ?_
  obtain ⟨a29, ea29, h⟩ := h
  have ka29 : kO σ a29 115 := (hYσ.get ka28 (by decide)) a29 ea29
  have h := h ka29
  obtain ⟨q1, h⟩ := h
  refine W.eq (g2 := F0 m 49 ls [.int (i32 v1), .ref a29]) (by rw [ea29]; rfl) ?_
  refine y_aald B hH (t0 := 6) ka29 (by decide) K.2.1.2.2.2.1 q1 (hYσ.2 _) dX12_operator_49 ?_
  refine lv_astore_nQ (lv' := [(3, va_rf (gP σ a29 v1.toNat)), (0, .ref th), (1, .int (i32 v1)), (2, .int (i32 v2))]) B.1 B.2.1 dX12_operator_50 rfl hl (by decide) rfl (fun ls hl => ?_)
  refine lv_iload_n B.1 B.2.1 dX12_operator_51 rfl (lv_at hl 3 rfl) ?_
  rcases Classical.em (v2 = 0) with e9 | e9
  · rw [if_pos e9] at h
    refine lv_tableIn (off := 32) (tgt := 84) B.1 B.2.1 dX12_operator_52 (by rw [i32_toInt g2, e9]; decide) (by rw [i32_toInt g2, e9]; decide) (by rw [i32_toInt g2, e9]; rfl) (by decide) ?_
    exact a_X12_operator_84 K hQ hX hTh _ _ (hYσ.get ka29 rfl) h hGσ hYσ hE hth _ _ _ hH (lv_sub (l' := [(0, .ref th), (3, va_rf (gP σ a29 v1.toNat))]) hl [1, 0] rfl) hc
  rw [if_neg e9] at h
  have k2 := e9
  rcases Classical.em (v2 = 1) with e9 | e9
  · rw [if_pos e9] at h
    refine lv_tableIn (off := 38) (tgt := 90) B.1 B.2.1 dX12_operator_52 (by rw [i32_toInt g2, e9]; decide) (by rw [i32_toInt g2, e9]; decide) (by rw [i32_toInt g2, e9]; rfl) (by decide) ?_
    exact a_X12_operator_90 K hQ hX hTh _ _ (hYσ.get ka29 rfl) h hGσ hYσ hE hth _ _ _ hH (lv_sub (l' := [(0, .ref th), (3, va_rf (gP σ a29 v1.toNat))]) hl [1, 0] rfl) hc
  rw [if_neg e9] at h
  have k3 := e9
  rcases Classical.em (v2 = 2) with e9 | e9
  · rw [if_pos e9] at h
    refine lv_tableIn (off := 44) (tgt := 96) B.1 B.2.1 dX12_operator_52 (by rw [i32_toInt g2, e9]; decide) (by rw [i32_toInt g2, e9]; decide) (by rw [i32_toInt g2, e9]; rfl) (by decide) ?_
    exact a_X12_operator_96 K hQ hX hTh _ _ (hYσ.get ka29 rfl) h hGσ hYσ hE hth _ _ _ hH (lv_sub (l' := [(0, .ref th), (3, va_rf (gP σ a29 v1.toNat))]) hl [1, 0] rfl) hc
  rw [if_neg e9] at h
  have k4 := e9
  rcases Classical.em (v2 = 3) with e9 | e9
  · rw [if_pos e9] at h
    refine lv_tableIn (off := 50) (tgt := 102) B.1 B.2.1 dX12_operator_52 (by rw [i32_toInt g2, e9]; decide) (by rw [i32_toInt g2, e9]; decide) (by rw [i32_toInt g2, e9]; rfl) (by decide) ?_
    exact a_X12_operator_102 K hQ hX hTh _ _ (hYσ.get ka29 rfl) h hGσ hYσ hE hth _ _ _ hH (lv_sub (l' := [(0, .ref th), (3, va_rf (gP σ a29 v1.toNat))]) hl [1, 0] rfl) hc
  rw [if_neg e9] at h
  have k5 := e9
  rcases (show (v2 < 0 ∨ 3 < v2) ∨ False by omega) with e9 | e9
  · refine lv_tableOut (tgt := 108) B.1 B.2.1 dX12_operator_52 (by rw [i32_toInt g2]; exact e9) (by decide) ?_
    exact a_X12_operator_108 K hQ hX hTh _ _ _ g2 (hYσ.get ka29 rfl) h hGσ hYσ hE hth _ _ _ hH (lv_sub (l' := [(0, .ref th), (2, .int (i32 v2)), (3, va_rf (gP σ a29 v1.toNat))]) hl [1, 3, 0] rfl) hc
  exact e9.elim
set_option maxRecDepth 20000 in
theorem a_X12_operator_27 {Q : Sg → Int64 → Prop} {X : Sg → String → Prop} {th : Nat} (K : MD l R p s m args c cX12_operator 4 RX12 D cA tys A n0 s0 6 90 []) (hQ : CQJ p l e R s m args below meth c cX12_operator D cA A n0 s0 QM σi Q) (hX : CX p l e R s m args below meth c 4 D cA A n0 s0 QM σi X) (hTh : CT p l e R s m args below meth c cX12_operator 4 D cA A n0 s0 QM σi RX12 X) : ∀ (σ : Sg) (v1 : Int) (v2 : Int) (g1 : rng v1) (g2 : rng v2), w_X12_operator_27 th Q X σ v1 v2 → RG σ → TY σ → Ext σi σ → kO σ th 12 → JJ p l e R s m args below meth c 4 D cA A n0 s0 QM σ 27 [(0, .ref th), (1, .int (i32 v1)), (2, .int (i32 v2))] [] := by
  intro σ v1 v2 g1 g2 h hGσ hYσ hE hth H locs ls hH hl hc
  have B := K.1
  have hl9 := K.2.2.2.2.2.2
  unfold w_X12_operator_27 at h
  refine lv_iload_n B.1 B.2.1 dX12_operator_27 rfl (lv_at hl 2 rfl) ?_
  refine lv_bipush (v := i32 11) B.1 B.2.1 dX12_operator_28 (by decide) ?_
  refine lv_icmp_le (tgt := 41) B.1 B.2.1 dX12_operator_30 (by decide) (fun h9 => ?_) (fun h9 => ?_)
  · rw [if_pos ((i32_le g2 (by unfold rng; omega)).mp h9)] at h
    exact a_X12_operator_41 K hQ hX hTh _ _ _ g1 g2 h hGσ hYσ hE hth _ _ _ hH (lv_sub (l' := [(0, .ref th), (1, .int (i32 v1)), (2, .int (i32 v2))]) hl [0, 1, 2] rfl) hc
  · rw [if_neg (fun q => h9 ((i32_le g2 (by unfold rng; omega)).mpr q))] at h
    exact a_X12_operator_33 K hQ hX hTh _ h hGσ hYσ hE hth _ _ _ hH (lv_sub (l' := [(0, .ref th)]) hl [0] rfl) hc
set_option maxRecDepth 20000 in
theorem a_X12_operator_23 {Q : Sg → Int64 → Prop} {X : Sg → String → Prop} {th : Nat} (K : MD l R p s m args c cX12_operator 4 RX12 D cA tys A n0 s0 6 90 []) (hQ : CQJ p l e R s m args below meth c cX12_operator D cA A n0 s0 QM σi Q) (hX : CX p l e R s m args below meth c 4 D cA A n0 s0 QM σi X) (hTh : CT p l e R s m args below meth c cX12_operator 4 D cA A n0 s0 QM σi RX12 X) : ∀ (σ : Sg) (v1 : Int) (v2 : Int) (g1 : rng v1) (g2 : rng v2), w_X12_operator_23 th Q X σ v1 v2 → RG σ → TY σ → Ext σi σ → kO σ th 12 → JJ p l e R s m args below meth c 4 D cA A n0 s0 QM σ 23 [(0, .ref th), (1, .int (i32 v1)), (2, .int (i32 v2))] [] := by
  intro σ v1 v2 g1 g2 h hGσ hYσ hE hth H locs ls hH hl hc
  have B := K.1
  have hl9 := K.2.2.2.2.2.2
  unfold w_X12_operator_23 at h
  refine lv_iload_n B.1 B.2.1 dX12_operator_23 rfl (lv_at hl 2 rfl) ?_
  refine lv_if_lt (tgt := 33) B.1 B.2.1 dX12_operator_24 (by decide) (fun h9 => ?_) (fun h9 => ?_)
  · rw [if_pos ((z_lt g2).mp h9)] at h
    exact a_X12_operator_33 K hQ hX hTh _ h hGσ hYσ hE hth _ _ _ hH (lv_sub (l' := [(0, .ref th)]) hl [0] rfl) hc
  · rw [if_neg (fun q => h9 ((z_lt g2).mpr q))] at h
    exact a_X12_operator_27 K hQ hX hTh _ _ _ g1 g2 h hGσ hYσ hE hth _ _ _ hH (lv_sub (l' := [(0, .ref th), (1, .int (i32 v1)), (2, .int (i32 v2))]) hl [0, 1, 2] rfl) hc
set_option maxRecDepth 20000 in
theorem a_X12_operator_4 {Q : Sg → Int64 → Prop} {X : Sg → String → Prop} {th : Nat} (K : MD l R p s m args c cX12_operator 4 RX12 D cA tys A n0 s0 6 90 []) (hQ : CQJ p l e R s m args below meth c cX12_operator D cA A n0 s0 QM σi Q) (hX : CX p l e R s m args below meth c 4 D cA A n0 s0 QM σi X) (hTh : CT p l e R s m args below meth c cX12_operator 4 D cA A n0 s0 QM σi RX12 X) : ∀ (σ : Sg) (v1 : Int) (v2 : Int) (g1 : rng v1) (g2 : rng v2), w_X12_operator_4 th Q X σ v1 v2 → RG σ → TY σ → Ext σi σ → kO σ th 12 → JJ p l e R s m args below meth c 4 D cA A n0 s0 QM σ 4 [(0, .ref th), (1, .int (i32 v1)), (2, .int (i32 v2))] [] := by
  intro σ v1 v2 g1 g2 h hGσ hYσ hE hth H locs ls hH hl hc
  have B := K.1
  have hl9 := K.2.2.2.2.2.2
  unfold w_X12_operator_4 at h
  refine lv_iload_n B.1 B.2.1 dX12_operator_4 rfl (lv_at hl 1 rfl) ?_
  refine lv_aload_n B.1 B.2.1 dX12_operator_5 rfl (lv_at hl 0 rfl) ?_
  refine f_getp B hH hth (by decide) rfl wu_X12 4 (by decide) wf_X12_30 rfl rfl dX12_operator_6 ?_
  obtain ⟨a30, ea30, h⟩ := h
  have ka30 : kO σ a30 4 := (hYσ.get hth (by decide)) a30 ea30
  have h := h ka30
  refine W.eq (g2 := F0 m 9 ls [.ref a30, .int (i32 v1)]) (by rw [ea30]; rfl) ?_
  refine f_geti B hH ka30 (by decide) rfl wu_X4 1 (by decide) wf_X12_89 rfl rfl dX12_operator_9 ?_
  refine lv_icmp_lt (tgt := 23) B.1 B.2.1 dX12_operator_12 (by decide) (fun h9 => ?_) (fun h9 => ?_)
  · rw [if_pos ((i32_lt g1 (hGσ _ _)).mp h9)] at h
    exact a_X12_operator_23 K hQ hX hTh _ _ _ g1 g2 h hGσ hYσ hE hth _ _ _ hH (lv_sub (l' := [(0, .ref th), (1, .int (i32 v1)), (2, .int (i32 v2))]) hl [0, 1, 2] rfl) hc
  · rw [if_neg (fun q => h9 ((i32_lt g1 (hGσ _ _)).mpr q))] at h
    exact a_X12_operator_15 K hQ hX hTh _ h hGσ hYσ hE hth _ _ _ hH (lv_sub (l' := [(0, .ref th)]) hl [0] rfl) hc
set_option maxRecDepth 20000 in
theorem a_X12_operator_0 {Q : Sg → Int64 → Prop} {X : Sg → String → Prop} {th : Nat} (K : MD l R p s m args c cX12_operator 4 RX12 D cA tys A n0 s0 6 90 []) (hQ : CQJ p l e R s m args below meth c cX12_operator D cA A n0 s0 QM σi Q) (hX : CX p l e R s m args below meth c 4 D cA A n0 s0 QM σi X) (hTh : CT p l e R s m args below meth c cX12_operator 4 D cA A n0 s0 QM σi RX12 X) : ∀ (σ : Sg) (v1 : Int) (v2 : Int) (g1 : rng v1) (g2 : rng v2), w_X12_operator_0 th Q X σ v1 v2 → RG σ → TY σ → Ext σi σ → kO σ th 12 → JJ p l e R s m args below meth c 4 D cA A n0 s0 QM σ 0 [(0, .ref th), (1, .int (i32 v1)), (2, .int (i32 v2))] [] := by
  intro σ v1 v2 g1 g2 h hGσ hYσ hE hth H locs ls hH hl hc
  have B := K.1
  have hl9 := K.2.2.2.2.2.2
  unfold w_X12_operator_0 at h
  refine lv_iload_n B.1 B.2.1 dX12_operator_0 rfl (lv_at hl 1 rfl) ?_
  refine lv_if_lt (tgt := 15) B.1 B.2.1 dX12_operator_1 (by decide) (fun h9 => ?_) (fun h9 => ?_)
  · rw [if_pos ((z_lt g1).mp h9)] at h
    exact a_X12_operator_15 K hQ hX hTh _ h hGσ hYσ hE hth _ _ _ hH (lv_sub (l' := [(0, .ref th)]) hl [0] rfl) hc
  · rw [if_neg (fun q => h9 ((z_lt g1).mpr q))] at h
    exact a_X12_operator_4 K hQ hX hTh _ _ _ g1 g2 h hGσ hYσ hE hth _ _ _ hH (lv_sub (l' := [(0, .ref th), (1, .int (i32 v1)), (2, .int (i32 v2))]) hl [0, 1, 2] rfl) hc
theorem ok_X12_operator (hl0 : l.stackTraces = false) (hT : TyC cA tys) {Q : Sg → Int64 → Prop} {X : Sg → String → Prop} (σ : Sg) (th : Nat) (v1 : Int) (v2 : Int) (g1 : rng v1) (g2 : rng v2) (hth : kO σ th 12) (hG : RG σ) (hY : TY σ) (h : wp_X12_operator th v1 v2 σ Q X) : Ok l D cA tys A yX12_operator (.code yX12_operator cX12_operator 4 (some .long)) 6 90 [.ref th, .int (i32 v1), .int (i32 v2)] σ (QcJ σ Q) (QxC σ X) := by
  unfold wp_X12_operator at h
  exact oc_J hl0 (by decide) (by exact Nat.le_of_ble_eq_true rfl) hT (fun p e R s m args below meth c K hQ hX hTh H locs ls hH hl hc => a_X12_operator_0 K hQ hX hTh σ v1 v2 g1 g2 h hG hY (Ext.rfl' σ) hth H locs ls hH (lv_sub (l' := [(0, .ref th), (1, .int (i32 v1)), (2, .int (i32 v2))]) hl [0, 1, 2] rfl) hc)
theorem dX3_count_0 : decode cX3_count 0 = .ok (.iconst 0, 1) := by decide +kernel
theorem dX3_count_1 : decode cX3_count 1 = .ok (.istore_n 3, 1) := by decide +kernel
theorem dX3_count_2 : decode cX3_count 2 = .ok (.aload_n 0, 1) := by decide +kernel
theorem dX3_count_3 : decode cX3_count 3 = .ok (.getfield 99, 3) := by decide +kernel
theorem dX3_count_6 : decode cX3_count 6 = .ok (.astore 4, 2) := by decide +kernel
theorem dX3_count_8 : decode cX3_count 8 = .ok (.aload 4, 2) := by decide +kernel
theorem dX3_count_10 : decode cX3_count 10 = .ok (.ifnull 31, 3) := by decide +kernel
theorem dX3_count_13 : decode cX3_count 13 = .ok (.iload_n 3, 1) := by decide +kernel
theorem dX3_count_14 : decode cX3_count 14 = .ok (.aload 4, 2) := by decide +kernel
theorem dX3_count_16 : decode cX3_count 16 = .ok (.getfield 105, 3) := by decide +kernel
theorem dX3_count_19 : decode cX3_count 19 = .ok (.lload_n 1, 1) := by decide +kernel
theorem dX3_count_20 : decode cX3_count 20 = .ok (.lcmp, 1) := by decide +kernel
theorem dX3_count_21 : decode cX3_count 21 = .ok (.ifCond .ne 7, 3) := by decide +kernel
theorem dX3_count_24 : decode cX3_count 24 = .ok (.iconst 1, 1) := by decide +kernel
theorem dX3_count_25 : decode cX3_count 25 = .ok (.goto 4, 3) := by decide +kernel
theorem dX3_count_28 : decode cX3_count 28 = .ok (.iconst 0, 1) := by decide +kernel
theorem dX3_count_29 : decode cX3_count 29 = .ok (.iadd, 1) := by decide +kernel
theorem dX3_count_30 : decode cX3_count 30 = .ok (.istore_n 3, 1) := by decide +kernel
theorem dX3_count_31 : decode cX3_count 31 = .ok (.aload 4, 2) := by decide +kernel
theorem dX3_count_33 : decode cX3_count 33 = .ok (.getfield 110, 3) := by decide +kernel
theorem dX3_count_36 : decode cX3_count 36 = .ok (.astore 4, 2) := by decide +kernel
theorem dX3_count_38 : decode cX3_count 38 = .ok (.goto (-30), 3) := by decide +kernel
theorem dX3_count_41 : decode cX3_count 41 = .ok (.iload_n 3, 1) := by decide +kernel
theorem dX3_count_42 : decode cX3_count 42 = .ok (.ireturn, 1) := by decide +kernel
set_option maxRecDepth 20000 in
theorem a_X3_count_41 {Q : Sg → Int → Prop} {X : Sg → String → Prop} (K : MD l R p s m args c cX3_count 5 RX3 D cA tys A n0 s0 0 0 []) (hQ : CQI p l e R s m args below meth c cX3_count D cA A n0 s0 QM σi Q) (hX : CX p l e R s m args below meth c 5 D cA A n0 s0 QM σi X) (hTh : CT p l e R s m args below meth c cX3_count 5 D cA A n0 s0 QM σi RX3 X) : ∀ (σ : Sg) (v3 : Int) (g3 : rng v3), w_X3_count_41 Q X σ v3 → RG σ → TY σ → Ext σi σ → JJ p l e R s m args below meth c 5 D cA A n0 s0 QM σ 41 [(3, .int (i32 v3))] [] := by
  intro σ v3 g3 h hGσ hYσ hE H locs ls hH hl hc
  have B := K.1
  have hl9 := K.2.2.2.2.2.2
  unfold w_X3_count_41 at h
  refine lv_iload_n B.1 B.2.1 dX3_count_41 rfl (lv_at hl 0 rfl) ?_
  exact hQ _ _ _ _ _ _ g3 dX3_count_42 hH hc h hGσ hYσ hE
set_option maxRecDepth 20000 in
theorem a_X3_count_29 {Q : Sg → Int → Prop} {X : Sg → String → Prop} (K : MD l R p s m args c cX3_count 5 RX3 D cA tys A n0 s0 0 0 []) (hQ : CQI p l e R s m args below meth c cX3_count D cA A n0 s0 QM σi Q) (hX : CX p l e R s m args below meth c 5 D cA A n0 s0 QM σi X) (hTh : CT p l e R s m args below meth c cX3_count 5 D cA A n0 s0 QM σi RX3 X) {K8 : Sg → Int64 → Int → Option Nat → Prop} (hK8 : ∀ (σ : Sg) (v1 : Int64) (v3 : Int) (v4 : Option Nat) (g3 : rng v3) (g4 : tyV σ 0 v4), K8 σ v1 v3 v4 → RG σ → TY σ → Ext σi σ → JJ p l e R s m args below meth c 5 D cA A n0 s0 QM σ 8 [(1, .long v1), (3, .int (i32 v3)), (4, va_rf v4)] []) : ∀ (σ : Sg) (v1 : Int64) (v4 : Option Nat) (u0 : Int) (u1 : Int) (g4 : tyV σ 0 v4) (gu0 : rng u0) (gu1 : rng u1), w_X3_count_29 K8 Q X σ v1 v4 u0 u1 → RG σ → TY σ → Ext σi σ → JJ p l e R s m args below meth c 5 D cA A n0 s0 QM σ 29 [(1, .long v1), (4, va_rf v4)] [.int (i32 u0), .int (i32 u1)] := by
  intro σ v1 v4 u0 u1 g4 gu0 gu1 h hGσ hYσ hE H locs ls hH hl hc
  have B := K.1
  have hl9 := K.2.2.2.2.2.2
  unfold w_X3_count_29 at h
  obtain ⟨q1, h⟩ := h
  refine lv_iadd B.1 B.2.1 dX3_count_29 ?_
  rw [i32_add]
  refine lv_istore_n (lv' := [(3, .int (i32 (u1 + u0))), (1, .long v1), (4, va_rf v4)]) B.1 B.2.1 dX3_count_30 rfl hl (by decide) rfl (fun ls hl => ?_)
  refine lv_aloadQ B.1 B.2.1 dX3_count_31 (lv_at hl 2 rfl) ?_
  obtain ⟨a7, ea7, h⟩ := h
  have ka7 : kO σ a7 0 := g4 a7 ea7
  have h := h ka7
  refine W.eq (g2 := F0 m 33 ls [.ref a7]) (by rw [ea7]; rfl) ?_
  refine f_getp B hH ka7 (by decide) rfl wu_X0 1 (by decide) wf_X3_110 rfl rfl dX3_count_33 ?_
  refine lv_astoreQ (lv' := [(4, va_rf (gP σ a7 1)), (3, .int (i32 (u1 + u0))), (1, .long v1)]) B.1 B.2.1 dX3_count_36 hl (by decide) rfl (fun ls hl => ?_)
  refine lv_goto (tgt := 8) B.1 B.2.1 dX3_count_38 (by decide) ?_
  exact hK8 _ _ _ _ q1 (hYσ.get ka7 (by decide)) h hGσ hYσ hE _ _ _ hH (lv_sub (l' := [(1, .long v1), (3, .int (i32 (u1 + u0))), (4, va_rf (gP σ a7 1))]) hl [2, 1, 0] rfl) hc
set_option maxRecDepth 20000 in
theorem a_X3_count_28 {Q : Sg → Int → Prop} {X : Sg → String → Prop} (K : MD l R p s m args c cX3_count 5 RX3 D cA tys A n0 s0 0 0 []) (hQ : CQI p l e R s m args below meth c cX3_count D cA A n0 s0 QM σi Q) (hX : CX p l e R s m args below meth c 5 D cA A n0 s0 QM σi X) (hTh : CT p l e R s m args below meth c cX3_count 5 D cA A n0 s0 QM σi RX3 X) {K8 : Sg → Int64 → Int → Option Nat → Prop} (hK8 : ∀ (σ : Sg) (v1 : Int64) (v3 : Int) (v4 : Option Nat) (g3 : rng v3) (g4 : tyV σ 0 v4), K8 σ v1 v3 v4 → RG σ → TY σ → Ext σi σ → JJ p l e R s m args below meth c 5 D cA A n0 s0 QM σ 8 [(1, .long v1), (3, .int (i32 v3)), (4, va_rf v4)] []) : ∀ (σ : Sg) (v1 : Int64) (v4 : Option Nat) (u0 : Int) (g4 : tyV σ 0 v4) (gu0 : rng u0), w_X3_count_28 K8 Q X σ v1 v4 u0 → RG σ → TY σ → Ext σi σ → JJ p l e R s m args below meth c 5 D cA A n0 s0 QM σ 28 [(1, .long v1), (4, va_rf v4)] [.int (i32 u0)] := by
  intro σ v1 v4 u0 g4 gu0 h hGσ hYσ hE H locs ls hH hl hc
  have B := K.1
  have hl9 := K.2.2.2.2.2.2
  unfold w_X3_count_28 at h
  refine lv_iconst (v := i32 0) B.1 B.2.1 dX3_count_28 (by decide) ?_
  exact a_X3_count_29 K hQ hX hTh hK8 _ _ _ _ _ g4 (by unfold rng; omega) gu0 h hGσ hYσ hE _ _ _ hH (lv_sub (l' := [(1, .long v1), (4, va_rf v4)]) hl [0, 1] rfl) hc
set_option maxRecDepth 20000 in
theorem a_X3_count_24 {Q : Sg → Int → Prop} {X : Sg → String → Prop} (K : MD l R p s m args c cX3_count 5 RX3 D cA tys A n0 s0 0 0 []) (hQ : CQI p l e R s m args below meth c cX3_count D cA A n0 s0 QM σi Q) (hX : CX p l e R s m args below meth c 5 D cA A n0 s0 QM σi X) (hTh : CT p l e R s m args below meth c cX3_count 5 D cA A n0 s0 QM σi RX3 X) {K8 : Sg → Int64 → Int → Option Nat → Prop} (hK8 : ∀ (σ : Sg) (v1 : Int64) (v3 : Int) (v4 : Option Nat) (g3 : rng v3) (g4 : tyV σ 0 v4), K8 σ v1 v3 v4 → RG σ → TY σ → Ext σi σ → JJ p l e R s m args below meth c 5 D cA A n0 s0 QM σ 8 [(1, .long v1), (3, .int (i32 v3)), (4, va_rf v4)] []) : ∀ (σ : Sg) (v1 : Int64) (v4 : Option Nat) (u0 : Int) (g4 : tyV σ 0 v4) (gu0 : rng u0), w_X3_count_24 K8 Q X σ v1 v4 u0 → RG σ → TY σ → Ext σi σ → JJ p l e R s m args below meth c 5 D cA A n0 s0 QM σ 24 [(1, .long v1), (4, va_rf v4)] [.int (i32 u0)] := by
  intro σ v1 v4 u0 g4 gu0 h hGσ hYσ hE H locs ls hH hl hc
  have B := K.1
  have hl9 := K.2.2.2.2.2.2
  unfold w_X3_count_24 at h
  refine lv_iconst (v := i32 1) B.1 B.2.1 dX3_count_24 (by decide) ?_
  refine lv_goto (tgt := 29) B.1 B.2.1 dX3_count_25 (by decide) ?_
  exact a_X3_count_29 K hQ hX hTh hK8 _ _ _ _ _ g4 (by unfold rng; omega) gu0 h hGσ hYσ hE _ _ _ hH (lv_sub (l' := [(1, .long v1), (4, va_rf v4)]) hl [0, 1] rfl) hc
set_option maxRecDepth 20000 in
theorem a_X3_count_13 {Q : Sg → Int → Prop} {X : Sg → String → Prop} (K : MD l R p s m args c cX3_count 5 RX3 D cA tys A n0 s0 0 0 []) (hQ : CQI p l e R s m args below meth c cX3_count D cA A n0 s0 QM σi Q) (hX : CX p l e R s m args below meth c 5 D cA A n0 s0 QM σi X) (hTh : CT p l e R s m args below meth c cX3_count 5 D cA A n0 s0 QM σi RX3 X) {K8 : Sg → Int64 → Int → Option Nat → Prop} (hK8 : ∀ (σ : Sg) (v1 : Int64) (v3 : Int) (v4 : Option Nat) (g3 : rng v3) (g4 : tyV σ 0 v4), K8 σ v1 v3 v4 → RG σ → TY σ → Ext σi σ → JJ p l e R s m args below meth c 5 D cA A n0 s0 QM σ 8 [(1, .long v1), (3, .int (i32 v3)), (4, va_rf v4)] []) : ∀ (σ : Sg) (v1 : Int64) (v3 : Int) (v4 : Option Nat) (g3 : rng v3) (g4 : tyV σ 0 v4), w_X3_count_13 K8 Q X σ v1 v3 v4 → RG σ → TY σ → Ext σi σ → JJ p l e R s m args below meth c 5 D cA A n0 s0 QM σ 13 [(1, .long v1), (3, .int (i32 v3)), (4, va_rf v4)] [] := by
  intro σ v1 v3 v4 g3 g4 h hGσ hYσ hE H locs ls hH hl hc
  have B := K.1
  have hl9 := K.2.2.2.2.2.2
  unfold w_X3_count_13 at h
  refine lv_iload_n B.1 B.2.1 dX3_count_13 rfl (lv_at hl 1 rfl) ?_
  refine lv_aloadQ B.1 B.2.1 dX3_count_14 (lv_at hl 2 rfl) ?_
  obtain ⟨a8, ea8, h⟩ := h
  have ka8 : kO σ a8 0 := g4 a8 ea8
  have h := h ka8
  refine W.eq (g2 := F0 m 16 ls [.ref a8, .int (i32 v3)]) (by rw [ea8]; rfl) ?_
  refine f_getl B hH ka8 (by decide) rfl wu_X0 7 (by decide) wf_X3_105 rfl rfl dX3_count_16 ?_
  refine lv_lload_n B.1 B.2.1 dX3_count_19 rfl (lv_at hl 0 rfl) ?_
  refine W.lcmp B.1 B.2.1 dX3_count_20 ?_
  refine lv_if_ne (tgt := 28) B.1 B.2.1 dX3_count_21 (by decide) (fun h9 => ?_) (fun h9 => ?_)
  · rw [if_pos (fun q => h9 ((lg_cmp_eq _ _).mpr q))] at h
    exact a_X3_count_28 K hQ hX hTh hK8 _ _ _ _ g4 g3 h hGσ hYσ hE _ _ _ hH (lv_sub (l' := [(1, .long v1), (4, va_rf v4)]) hl [0, 2] rfl) hc
  · rw [if_neg (fun q => q ((lg_cmp_eq _ _).mp h9))] at h
    exact a_X3_count_24 K hQ hX hTh hK8 _ _ _ _ g4 g3 h hGσ hYσ hE _ _ _ hH (lv_sub (l' := [(1, .long v1), (4, va_rf v4)]) hl [0, 2] rfl) hc
set_option maxRecDepth 20000 in
theorem a_X3_count_8 {Q : Sg → Int → Prop} {X : Sg → String → Prop} (K : MD l R p s m args c cX3_count 5 RX3 D cA tys A n0 s0 0 0 []) (hQ : CQI p l e R s m args below meth c cX3_count D cA A n0 s0 QM σi Q) (hX : CX p l e R s m args below meth c 5 D cA A n0 s0 QM σi X) (hTh : CT p l e R s m args below meth c cX3_count 5 D cA A n0 s0 QM σi RX3 X) {K8 : Sg → Int64 → Int → Option Nat → Prop} (hK8 : ∀ (σ : Sg) (v1 : Int64) (v3 : Int) (v4 : Option Nat) (g3 : rng v3) (g4 : tyV σ 0 v4), K8 σ v1 v3 v4 → RG σ → TY σ → Ext σi σ → JJ p l e R s m args below meth c 5 D cA A n0 s0 QM σ 8 [(1, .long v1), (3, .int (i32 v3)), (4, va_rf v4)] []) : ∀ (σ : Sg) (v1 : Int64) (v3 : Int) (v4 : Option Nat) (g3 : rng v3) (g4 : tyV σ 0 v4), w_X3_count_8 K8 Q X σ v1 v3 v4 → RG σ → TY σ → Ext σi σ → JJ p l e R s m args below meth c 5 D cA A n0 s0 QM σ 8 [(1, .long v1), (3, .int (i32 v3)), (4, va_rf v4)] [] := by
  intro σ v1 v3 v4 g3 g4 h hGσ hYσ hE H locs ls hH hl hc
  have B := K.1
  have hl9 := K.2.2.2.2.2.2
  unfold w_X3_count_8 at h
  refine lv_aloadQ B.1 B.2.1 dX3_count_8 (lv_at hl 2 rfl) ?_
  refine lv_ifnullQ (tgt := 41) B.1 B.2.1 dX3_count_10 (by decide) (fun h9 => ?_) (fun h9 => ?_)
  · rw [if_pos (h9)] at h
    exact a_X3_count_41 K hQ hX hTh _ _ g3 h hGσ hYσ hE _ _ _ hH (lv_sub (l' := [(3, .int (i32 v3))]) hl [1] rfl) hc
  · rw [if_neg (h9)] at h
    exact a_X3_count_13 K hQ hX hTh hK8 _ _ _ _ g3 g4 h hGσ hYσ hE _ _ _ hH (lv_sub (l' := [(1, .long v1), (3, .int (i32 v3)), (4, va_rf v4)]) hl [0, 1, 2] rfl) hc
theorem al_X3_count_8 {Q : Sg → Int → Prop} {X : Sg → String → Prop} (K : MD l R p s m args c cX3_count 5 RX3 D cA tys A n0 s0 0 0 []) (hQ : CQI p l e R s m args below meth c cX3_count D cA A n0 s0 QM σi Q) (hX : CX p l e R s m args below meth c 5 D cA A n0 s0 QM σi X) (hTh : CT p l e R s m args below meth c cX3_count 5 D cA A n0 s0 QM σi RX3 X) : ∀ (n : Nat), ∀ (σ : Sg) (v1 : Int64) (v3 : Int) (v4 : Option Nat) (g3 : rng v3) (g4 : tyV σ 0 v4), wl_X3_count_8 Q X n σ v1 v3 v4 → RG σ → TY σ → Ext σi σ → JJ p l e R s m args below meth c 5 D cA A n0 s0 QM σ 8 [(1, .long v1), (3, .int (i32 v3)), (4, va_rf v4)] [] := by
  intro n
  induction n with
  | zero => intro σ v1 v3 v4 g3 g4 h; exact h.elim
  | succ n ih => exact fun σ v1 v3 v4 g3 g4 h => a_X3_count_8 K hQ hX hTh ih σ v1 v3 v4 g3 g4 h
set_option maxRecDepth 20000 in
theorem a_X3_count_0 {Q : Sg → Int → Prop} {X : Sg → String → Prop} (K : MD l R p s m args c cX3_count 5 RX3 D cA tys A n0 s0 0 0 []) (hQ : CQI p l e R s m args below meth c cX3_count D cA A n0 s0 QM σi Q) (hX : CX p l e R s m args below meth c 5 D cA A n0 s0 QM σi X) (hTh : CT p l e R s m args below meth c cX3_count 5 D cA A n0 s0 QM σi RX3 X) : ∀ (σ : Sg) (v0 : Option Nat) (v1 : Int64) (g0 : tyV σ 1 v0), w_X3_count_0 Q X σ v0 v1 → RG σ → TY σ → Ext σi σ → JJ p l e R s m args below meth c 5 D cA A n0 s0 QM σ 0 [(0, va_rf v0), (1, .long v1)] [] := by
  intro σ v0 v1 g0 h hGσ hYσ hE H locs ls hH hl hc
  have B := K.1
  have hl9 := K.2.2.2.2.2.2
  unfold w_X3_count_0 at h
  refine lv_iconst (v := i32 0) B.1 B.2.1 dX3_count_0 (by decide) ?_
  refine lv_istore_n (lv' := [(3, .int (i32 0)), (0, va_rf v0), (1, .long v1)]) B.1 B.2.1 dX3_count_1 rfl hl (by decide) rfl (fun ls hl => ?_)
  refine lv_aload_nQ B.1 B.2.1 dX3_count_2 rfl (lv_at hl 1 rfl) ?_
  obtain ⟨a9, ea9, h⟩ := h
  have ka9 : kO σ a9 1 := g0 a9 ea9
  have h := h ka9
  refine W.eq (g2 := F0 m 3 ls [.ref a9]) (by rw [ea9]; rfl) ?_
  refine f_getp B hH ka9 (by decide) rfl wu_X1 0 (by decide) wf_X3_99 rfl rfl dX3_count_3 ?_
  refine lv_astoreQ (lv' := [(4, va_rf (gP σ a9 0)), (3, .int (i32 0)), (0, va_rf v0), (1, .long v1)]) B.1 B.2.1 dX3_count_6 hl (by decide) rfl (fun ls hl => ?_)
  obtain ⟨n9, h⟩ := h
  exact al_X3_count_8 K hQ hX hTh n9 _ _ _ _ (by unfold rng; omega) (hYσ.get ka9 (by decide)) h hGσ hYσ hE _ _ _ hH (lv_sub (l' := [(1, .long v1), (3, .int (i32 0)), (4, va_rf (gP σ a9 0))]) hl [3, 1, 0] rfl) hc
theorem ok_X3_count (hl0 : l.stackTraces = false) (hT : TyC cA tys) {Q : Sg → Int → Prop} {X : Sg → String → Prop} (σ : Sg) (v0 : Option Nat) (v1 : Int64) (g0 : tyV σ 1 v0) (hG : RG σ) (hY : TY σ) (h : wp_X3_count v0 v1 σ Q X) : Ok l D cA tys A yX3_count (.code yX3_count cX3_count 5 (some .int)) 0 0 [va_rf v0, .long v1] σ (QcI σ Q) (QxC σ X) := by
  unfold wp_X3_count at h
  exact oc_I hl0 (by decide) (by cases v0 <;> exact Nat.le_of_ble_eq_true rfl) hT (fun p e R s m args below meth c K hQ hX hTh H locs ls hH hl hc => a_X3_count_0 K hQ hX hTh σ v0 v1 g0 h hG hY (Ext.rfl' σ) H locs ls hH (lv_sub (l' := [(0, va_rf v0), (1, .long v1)]) hl [0, 1] (by cases v0 <;> rfl)) hc)
theorem dX3_recordsOf_0 : decode cX3_recordsOf 0 = .ok (.iconst 0, 1) := by decide +kernel
theorem dX3_recordsOf_1 : decode cX3_recordsOf 1 = .ok (.istore 4, 2) := by decide +kernel
theorem dX3_recordsOf_3 : decode cX3_recordsOf 3 = .ok (.iconst 0, 1) := by decide +kernel
theorem dX3_recordsOf_4 : decode cX3_recordsOf 4 = .ok (.istore 5, 2) := by decide +kernel
theorem dX3_recordsOf_6 : decode cX3_recordsOf 6 = .ok (.iload 5, 2) := by decide +kernel
theorem dX3_recordsOf_8 : decode cX3_recordsOf 8 = .ok (.iconst 4, 1) := by decide +kernel
theorem dX3_recordsOf_9 : decode cX3_recordsOf 9 = .ok (.if_icmp .ge 56, 3) := by decide +kernel
theorem dX3_recordsOf_12 : decode cX3_recordsOf 12 = .ok (.iload 5, 2) := by decide +kernel
theorem dX3_recordsOf_14 : decode cX3_recordsOf 14 = .ok (.aload_n 0, 1) := by decide +kernel
theorem dX3_recordsOf_15 : decode cX3_recordsOf 15 = .ok (.getfield 67, 3) := by decide +kernel
theorem dX3_recordsOf_18 : decode cX3_recordsOf 18 = .ok (.if_icmp .ge 47, 3) := by decide +kernel
theorem dX3_recordsOf_21 : decode cX3_recordsOf 21 = .ok (.aload_n 0, 1) := by decide +kernel
theorem dX3_recordsOf_22 : decode cX3_recordsOf 22 = .ok (.iload_n 1, 1) := by decide +kernel
theorem dX3_recordsOf_23 : decode cX3_recordsOf 23 = .ok (.iload 5, 2) := by decide +kernel
theorem dX3_recordsOf_25 : decode cX3_recordsOf 25 = .ok (.invokevirtual 91, 3) := by decide +kernel
theorem dX3_recordsOf_28 : decode cX3_recordsOf 28 = .ok (.astore 6, 2) := by decide +kernel
theorem dX3_recordsOf_30 : decode cX3_recordsOf 30 = .ok (.aload 6, 2) := by decide +kernel
theorem dX3_recordsOf_32 : decode cX3_recordsOf 32 = .ok (.ifnull 27, 3) := by decide +kernel
theorem dX3_recordsOf_35 : decode cX3_recordsOf 35 = .ok (.iload 4, 2) := by decide +kernel
theorem dX3_recordsOf_37 : decode cX3_recordsOf 37 = .ok (.aload 6, 2) := by decide +kernel
theorem dX3_recordsOf_39 : decode cX3_recordsOf 39 = .ok (.getfield 78, 3) := by decide +kernel
theorem dX3_recordsOf_42 : decode cX3_recordsOf 42 = .ok (.lload_n 2, 1) := by decide +kernel
theorem dX3_recordsOf_43 : decode cX3_recordsOf 43 = .ok (.invokestatic 95, 3) := by decide +kernel
theorem dX3_recordsOf_46 : decode cX3_recordsOf 46 = .ok (.aload 6, 2) := by decide +kernel
theorem dX3_recordsOf_48 : decode cX3_recordsOf 48 = .ok (.getfield 88, 3) := by decide +kernel
theorem dX3_recordsOf_51 : decode cX3_recordsOf 51 = .ok (.lload_n 2, 1) := by decide +kernel
theorem dX3_recordsOf_52 : decode cX3_recordsOf 52 = .ok (.invokestatic 95, 3) := by decide +kernel
theorem dX3_recordsOf_55 : decode cX3_recordsOf 55 = .ok (.iadd, 1) := by decide +kernel
theorem dX3_recordsOf_56 : decode cX3_recordsOf 56 = .ok (.iadd, 1) := by decide +kernel
theorem dX3_recordsOf_57 : decode cX3_recordsOf 57 = .ok (.istore 4, 2) := by decide +kernel
theorem dX3_recordsOf_59 : decode cX3_recordsOf 59 = .ok (.iinc 5 1, 3) := by decide +kernel
theorem dX3_recordsOf_62 : decode cX3_recordsOf 62 = .ok (.goto (-56), 3) := by decide +kernel
theorem dX3_recordsOf_65 : decode cX3_recordsOf 65 = .ok (.iload 4, 2) := by decide +kernel
theorem dX3_recordsOf_67 : decode cX3_recordsOf 67 = .ok (.ireturn, 1) := by decide +kernel
set_option maxRecDepth 20000 in
theorem a_X3_recordsOf_65 {Q : Sg → Int → Prop} {X : Sg → String → Prop} {th : Nat} (K : MD l R p s m args c cX3_recordsOf 7 RX3 D cA tys A n0 s0 1 24 []) (hQ : CQI p l e R s m args below meth c cX3_recordsOf D cA A n0 s0 QM σi Q) (hX : CX p l e R s m args below meth c 7 D cA A n0 s0 QM σi X) (hTh : CT p l e R s m args below meth c cX3_recordsOf 7 D cA A n0 s0 QM σi RX3 X) : ∀ (σ : Sg) (v4 : Int) (g4 : rng v4), w_X3_recordsOf_65 th Q X σ v4 → RG σ → TY σ → Ext σi σ → kO σ th 3 → JJ p l e R s m args below meth c 7 D cA A n0 s0 QM σ 65 [(0, .ref th), (4, .int (i32 v4))] [] := by
  intro σ v4 g4 h hGσ hYσ hE hth H locs ls hH hl hc
  have B := K.1
  have hl9 := K.2.2.2.2.2.2
  unfold w_X3_recordsOf_65 at h
  refine lv_iload B.1 B.2.1 dX3_recordsOf_65 (lv_at hl 1 rfl) ?_
  exact hQ _ _ _ _ _ _ g4 dX3_recordsOf_67 hH hc h hGσ hYσ hE
set_option maxRecDepth 20000 in
theorem a_X3_recordsOf_59 {Q : Sg → Int → Prop} {X : Sg → String → Prop} {th : Nat} (K : MD l R p s m args c cX3_recordsOf 7 RX3 D cA tys A n0 s0 1 24 []) (hQ : CQI p l e R s m args below meth c cX3_recordsOf D cA A n0 s0 QM σi Q) (hX : CX p l e R s m args below meth c 7 D cA A n0 s0 QM σi X) (hTh : CT p l e R s m args below meth c cX3_recordsOf 7 D cA A n0 s0 QM σi RX3 X) {K6 : Sg → Int → Int64 → Int → Int → Prop} (hK6 : ∀ (σ : Sg) (v1 : Int) (v2 : Int64) (v4 : Int) (v5 : Int) (g1 : rng v1) (g4 : rng v4) (g5 : rng v5), K6 σ v1 v2 v4 v5 → RG σ → TY σ → Ext σi σ → kO σ th 3 → JJ p l e R s m args below meth c 7 D cA A n0 s0 QM σ 6 [(0, .ref th), (1, .int (i32 v1)), (2, .long v2), (4, .int (i32 v4)), (5, .int (i32 v5))] []) : ∀ (σ : Sg) (v1 : Int) (v2 : Int64) (v4 : Int) (v5 : Int) (g1 : rng v1) (g4 : rng v4) (g5 : rng v5), w_X3_recordsOf_59 th K6 Q X σ v1 v2 v4 v5 → RG σ → TY σ → Ext σi σ → kO σ th 3 → JJ p l e R s m args below meth c 7 D cA A n0 s0 QM σ 59 [(0, .ref th), (1, .int (i32 v1)), (2, .long v2), (4, .int (i32 v4)), (5, .int (i32 v5))] [] := by
  intro σ v1 v2 v4 v5 g1 g4 g5 h hGσ hYσ hE hth H locs ls hH hl hc
  have B := K.1
  have hl9 := K.2.2.2.2.2.2
  unfold w_X3_recordsOf_59 at h
  obtain ⟨q1, h⟩ := h
  refine lv_iinc (k := 4) (v := i32 (v5 + 1)) (lv' := [(5, .int (i32 (v5 + 1))), (0, .ref th), (1, .int (i32 v1)), (2, .long v2), (4, .int (i32 v4))]) B.1 B.2.1 dX3_recordsOf_59 hl rfl (i32_add _ _) (by decide) rfl (fun ls hl => ?_)
  refine lv_goto (tgt := 6) B.1 B.2.1 dX3_recordsOf_62 (by decide) ?_
  exact hK6 _ _ _ _ _ g1 g4 q1 h hGσ hYσ hE hth _ _ _ hH (lv_sub (l' := [(0, .ref th), (1, .int (i32 v1)), (2, .long v2), (4, .int (i32 v4)), (5, .int (i32 (v5 + 1)))]) hl [1, 2, 3, 4, 0] rfl) hc
set_option maxRecDepth 20000 in
theorem a_X3_recordsOf_35 {Q : Sg → Int → Prop} {X : Sg → String → Prop} {th : Nat} (K : MD l R p s m args c cX3_recordsOf 7 RX3 D cA tys A n0 s0 1 24 []) (hQ : CQI p l e R s m args below meth c cX3_recordsOf D cA A n0 s0 QM σi Q) (hX : CX p l e R s m args below meth c 7 D cA A n0 s0 QM σi X) (hTh : CT p l e R s m args below meth c cX3_recordsOf 7 D cA A n0 s0 QM σi RX3 X) {K6 : Sg → Int → Int64 → Int → Int → Prop} (hK6 : ∀ (σ : Sg) (v1 : Int) (v2 : Int64) (v4 : Int) (v5 : Int) (g1 : rng v1) (g4 : rng v4) (g5 : rng v5), K6 σ v1 v2 v4 v5 → RG σ → TY σ → Ext σi σ → kO σ th 3 → JJ p l e R s m args below meth c 7 D cA A n0 s0 QM σ 6 [(0, .ref th), (1, .int (i32 v1)), (2, .long v2), (4, .int (i32 v4)), (5, .int (i32 v5))] []) : ∀ (σ : Sg) (v1 : Int) (v2 : Int64) (v4 : Int) (v5 : Int) (v6 : Option Nat) (g1 : rng v1) (g4 : rng v4) (g5 : rng v5) (g6 : tyV σ 10 v6), w_X3_recordsOf_35 th K6 Q X σ v1 v2 v4 v5 v6 → RG σ → TY σ → Ext σi σ → kO σ th 3 → JJ p l e R s m args below meth c 7 D cA A n0 s0 QM σ 35 [(0, .ref th), (1, .int (i32 v1)), (2, .long v2), (4, .int (i32 v4)), (5, .int (i32 v5)), (6, va_rf v6)] [] := by
  intro σ v1 v2 v4 v5 v6 g1 g4 g5 g6 h hGσ hYσ hE hth H locs ls hH hl hc
  have B := K.1
  have hl9 := K.2.2.2.2.2.2
  unfold w_X3_recordsOf_35 at h
  refine lv_iload B.1 B.2.1 dX3_recordsOf_35 (lv_at hl 3 rfl) ?_
  refine lv_aloadQ B.1 B.2.1 dX3_recordsOf_37 (lv_at hl 5 rfl) ?_
  obtain ⟨a15, ea15, h⟩ := h
  have ka15 : kO σ a15 10 := g6 a15 ea15
  have h := h ka15
  refine W.eq (g2 := F0 m 39 ls [.ref a15, .int (i32 v4)]) (by rw [ea15]; rfl) ?_
  refine f_getp B hH ka15 (by decide) rfl wu_X10 2 (by decide) wf_X3_78 rfl rfl dX3_recordsOf_39 ?_
  refine lv_lload_n B.1 B.2.1 dX3_recordsOf_42 rfl (lv_at hl 2 rfl) ?_
  refine W.eq (g2 := F0 m 43 ls [.long v2, va_rf (gP σ a15 2), .int (i32 v4)]) (rfl) ?_
  refine c_S B hH hl hc K.2.2.1 (As := [va_rf (gP σ a15 2), .long v2]) (ok_X3_count hl9 K.2.1 σ (gP σ a15 2) v2 (hYσ.get ka15 (by decide)) hGσ hYσ h) wc_X3_95 2 hd_X3_count ⟨Nat.le_trans (Nat.le_of_ble_eq_true rfl) K.2.2.2.1, Nat.le_trans (Nat.le_of_ble_eq_true rfl) K.2.2.2.2.1⟩ rfl (rest := [.int (i32 v4)]) rfl (Nat.le_of_ble_eq_true rfl) dX3_recordsOf_43 (fun σ16 w hq => ?_) (fun σ9 E9 hx9 => hX σ9 E9 _ _ _ (tb_out K.2.2.2.2.2.1 rfl) hx9.1 hx9.2.1 hx9.2.2.1 (hE.trans hx9.2.2.2))
  obtain ⟨r17, rfl, gr17, h, hGσ16, hYσ16, xσ16⟩ := hq
  have h := h xσ16
  intro H locs ls hH hl hc
  refine W.eq (g2 := F0 m 46 ls [.int (i32 r17), .int (i32 v4)]) (rfl) ?_
  try dsimp only at h
  refine lv_aloadQ B.1 B.2.1 dX3_recordsOf_46 (lv_at hl 5 rfl) ?_
  refine W.eq (g2 := F0 m 48 ls [.ref a15, .int (i32 r17), .int (i32 v4)]) (by rw [ea15]; rfl) ?_
  refine f_getp B hH (ka15.up xσ16) (by decide) rfl wu_X10 3 (by decide) wf_X3_88 rfl rfl dX3_recordsOf_48 ?_
  refine lv_lload_n B.1 B.2.1 dX3_recordsOf_51 rfl (lv_at hl 2 rfl) ?_
  refine W.eq (g2 := F0 m 52 ls [.long v2, va_rf (gP σ16 a15 3), .int (i32 r17), .int (i32 v4)]) (rfl) ?_
  refine c_S B hH hl hc K.2.2.1 (As := [va_rf (gP σ16 a15 3), .long v2]) (ok_X3_count hl9 K.2.1 σ16 (gP σ16 a15 3) v2 (hYσ16.get (ka15.up xσ16) (by decide)) hGσ16 hYσ16 h) wc_X3_95 2 hd_X3_count ⟨Nat.le_trans (Nat.le_of_ble_eq_true rfl) K.2.2.2.1, Nat.le_trans (Nat.le_of_ble_eq_true rfl) K.2.2.2.2.1⟩ rfl (rest := [.int (i32 r17), .int (i32 v4)]) rfl (Nat.le_of_ble_eq_true rfl) dX3_recordsOf_52 (fun σ18 w hq => ?_) (fun σ9 E9 hx9 => hX σ9 E9 _ _ _ (tb_out K.2.2.2.2.2.1 rfl) hx9.1 hx9.2.1 hx9.2.2.1 ((hE.trans xσ16).trans hx9.2.2.2))
  obtain ⟨r19, rfl, gr19, h, hGσ18, hYσ18, xσ18⟩ := hq
  have h := h xσ18
  intro H locs ls hH hl hc
  refine W.eq (g2 := F0 m 55 ls [.int (i32 r19), .int (i32 r17), .int (i32 v4)]) (rfl) ?_
  try dsimp only at h
  refine lv_iadd B.1 B.2.1 dX3_recordsOf_55 ?_
  rw [i32_add]
  refine W.eq (g2 := F0 m 56 ls [.int (i32 (wr (r17 + r19))), .int (i32 v4)]) (by rw [i32_wr]) ?_
  refine lv_iadd B.1 B.2.1 dX3_recordsOf_56 ?_
  rw [i32_add]
  refine W.eq (g2 := F0 m 57 ls [.int (i32 (wr (v4 + (wr (r17 + r19)))))]) (by rw [i32_wr]) ?_
  refine lv_istore (lv' := [(4, .int (i32 (wr (v4 + (wr (r17 + r19)))))), (0, .ref th), (1, .int (i32 v1)), (2, .long v2), (5, .int (i32 v5)), (6, va_rf v6)]) B.1 B.2.1 dX3_recordsOf_57 hl (by decide) rfl (fun ls hl => ?_)
  exact a_X3_recordsOf_59 K hQ hX hTh hK6 _ _ _ _ _ g1 (rng_wr _) g5 h hGσ18 hYσ18 ((hE.trans xσ16).trans xσ18) (hth.up (xσ16.trans xσ18)) _ _ _ hH (lv_sub (l' := [(0, .ref th), (1, .int (i32 v1)), (2, .long v2), (4, .int (i32 (wr (v4 + (wr (r17 + r19)))))), (5, .int (i32 v5))]) hl [1, 2, 3, 0, 4] rfl) hc
set_option maxRecDepth 20000 in
theorem a_X3_recordsOf_21 {Q : Sg → Int → Prop} {X : Sg → String → Prop} {th : Nat} (K : MD l R p s m args c cX3_recordsOf 7 RX3 D cA tys A n0 s0 1 24 []) (hQ : CQI p l e R s m args below meth c cX3_recordsOf D cA A n0 s0 QM σi Q) (hX : CX p l e R s m args below meth c 7 D cA A n0 s0 QM σi X) (hTh : CT p l e R s m args below meth c cX3_recordsOf 7 D cA A n0 s0 QM σi RX3 X) {K6 : Sg → Int → Int64 → Int → Int → Prop} (hK6 : ∀ (σ : Sg) (v1 : Int) (v2 : Int64) (v4 : Int) (v5 : Int) (g1 : rng v1) (g4 : rng v4) (g5 : rng v5), K6 σ v1 v2 v4 v5 → RG σ → TY σ → Ext σi σ → kO σ th 3 → JJ p l e R s m args below meth c 7 D cA A n0 s0 QM σ 6 [(0, .ref th), (1, .int (i32 v1)), (2, .long v2), (4, .int (i32 v4)), (5, .int (i32 v5))] []) : ∀ (σ : Sg) (v1 : Int) (v2 : Int64) (v4 : Int) (v5 : Int) (g1 : rng v1) (g4 : rng v4) (g5 : rng v5), w_X3_recordsOf_21 th K6 Q X σ v1 v2 v4 v5 → RG σ → TY σ → Ext σi σ → kO σ th 3 → JJ p l e R s m args below meth c 7 D cA A n0 s0 QM σ 21 [(0, .ref th), (1, .int (i32 v1)), (2, .long v2), (4, .int (i32 v4)), (5, .int (i32 v5))] [] := by
  intro σ v1 v2 v4 v5 g1 g4 g5 h hGσ hYσ hE hth H locs ls hH hl hc
  have B := K.1
  have hl9 := K.2.2.2.2.2.2
  unfold w_X3_recordsOf_21 at h
  refine lv_aload_n B.1 B.2.1 dX3_recordsOf_21 rfl (lv_at hl 0 rfl) ?_
  refine lv_iload_n B.1 B.2.1 dX3_recordsOf_22 rfl (lv_at hl 1 rfl) ?_
  refine lv_iload B.1 B.2.1 dX3_recordsOf_23 (lv_at hl 4 rfl) ?_
  refine W.eq (g2 := F0 m 25 ls [.int (i32 v5), .int (i32 v1), .ref th]) (rfl) ?_
  refine c_V B hH hl hc K.2.2.1 (C := RX3) (T := TX3) (N := 10) (ci := 3) (As := [.int (i32 v1), .int (i32 v5)]) (ok_X3_partOfLatest hl9 K.2.1 σ th v1 v5 g1 g5 hth hGσ hYσ h) wc_X3_91 2 hd_X3_partOfLatest ⟨Nat.le_trans (Nat.le_of_ble_eq_true rfl) K.2.2.2.1, Nat.le_trans (Nat.le_of_ble_eq_true rfl) K.2.2.2.2.1⟩ hth.1 hth.2 (by decide) rfl rfl (rest := []) rfl (Nat.le_of_ble_eq_true rfl) dX3_recordsOf_25 (fun σ20 w hq => ?_) (fun σ9 E9 hx9 => hX σ9 E9 _ _ _ (tb_out K.2.2.2.2.2.1 rfl) hx9.1 hx9.2.1 hx9.2.2.1 (hE.trans hx9.2.2.2))
  obtain ⟨r21, rfl, tr21, h, hGσ20, hYσ20, xσ20⟩ := hq
  have h := h xσ20 tr21
  intro H locs ls hH hl hc
  refine W.eq (g2 := F0 m 28 ls [va_rf r21]) (rfl) ?_
  try dsimp only at h
  refine lv_astoreQ (lv' := [(6, va_rf r21), (0, .ref th), (1, .int (i32 v1)), (2, .long v2), (4, .int (i32 v4)), (5, .int (i32 v5))]) B.1 B.2.1 dX3_recordsOf_28 hl (by decide) rfl (fun ls hl => ?_)
  refine lv_aloadQ B.1 B.2.1 dX3_recordsOf_30 (lv_at hl 0 rfl) ?_
  refine lv_ifnullQ (tgt := 59) B.1 B.2.1 dX3_recordsOf_32 (by decide) (fun h9 => ?_) (fun h9 => ?_)
  · rw [if_pos (h9)] at h
    exact a_X3_recordsOf_59 K hQ hX hTh hK6 _ _ _ _ _ g1 g4 g5 h hGσ20 hYσ20 (hE.trans xσ20) (hth.up xσ20) _ _ _ hH (lv_sub (l' := [(0, .ref th), (1, .int (i32 v1)), (2, .long v2), (4, .int (i32 v4)), (5, .int (i32 v5))]) hl [1, 2, 3, 4, 5] rfl) hc
  · rw [if_neg (h9)] at h
    exact a_X3_recordsOf_35 K hQ hX hTh hK6 _ _ _ _ _ _ g1 g4 g5 tr21 h hGσ20 hYσ20 (hE.trans xσ20) (hth.up xσ20) _ _ _ hH (lv_sub (l' := [(0, .ref th), (1, .int (i32 v1)), (2, .long v2), (4, .int (i32 v4)), (5, .int (i32 v5)), (6, va_rf r21)]) hl [1, 2, 3, 4, 5, 0] rfl) hc
set_option maxRecDepth 20000 in
theorem a_X3_recordsOf_12 {Q : Sg → Int → Prop} {X : Sg → String → Prop} {th : Nat} (K : MD l R p s m args c cX3_recordsOf 7 RX3 D cA tys A n0 s0 1 24 []) (hQ : CQI p l e R s m args below meth c cX3_recordsOf D cA A n0 s0 QM σi Q) (hX : CX p l e R s m args below meth c 7 D cA A n0 s0 QM σi X) (hTh : CT p l e R s m args below meth c cX3_recordsOf 7 D cA A n0 s0 QM σi RX3 X) {K6 : Sg → Int → Int64 → Int → Int → Prop} (hK6 : ∀ (σ : Sg) (v1 : Int) (v2 : Int64) (v4 : Int) (v5 : Int) (g1 : rng v1) (g4 : rng v4) (g5 : rng v5), K6 σ v1 v2 v4 v5 → RG σ → TY σ → Ext σi σ → kO σ th 3 → JJ p l e R s m args below meth c 7 D cA A n0 s0 QM σ 6 [(0, .ref th), (1, .int (i32 v1)), (2, .long v2), (4, .int (i32 v4)), (5, .int (i32 v5))] []) : ∀ (σ : Sg) (v1 : Int) (v2 : Int64) (v4 : Int) (v5 : Int) (g1 : rng v1) (g4 : rng v4) (g5 : rng v5), w_X3_recordsOf_12 th K6 Q X σ v1 v2 v4 v5 → RG σ → TY σ → Ext σi σ → kO σ th 3 → JJ p l e R s m args below meth c 7 D cA A n0 s0 QM σ 12 [(0, .ref th), (1, .int (i32 v1)), (2, .long v2), (4, .int (i32 v4)), (5, .int (i32 v5))] [] := by
  intro σ v1 v2 v4 v5 g1 g4 g5 h hGσ hYσ hE hth H locs ls hH hl hc
  have B := K.1
  have hl9 := K.2.2.2.2.2.2
  unfold w_X3_recordsOf_12 at h
  refine lv_iload B.1 B.2.1 dX3_recordsOf_12 (lv_at hl 4 rfl) ?_
  refine lv_aload_n B.1 B.2.1 dX3_recordsOf_14 rfl (lv_at hl 0 rfl) ?_
  refine f_geti B hH hth (by decide) rfl wu_X3 5 (by decide) wf_X3_67 rfl rfl dX3_recordsOf_15 ?_
  refine lv_icmp_ge (tgt := 65) B.1 B.2.1 dX3_recordsOf_18 (by decide) (fun h9 => ?_) (fun h9 => ?_)
  · rw [if_pos ((i32_le (hGσ _ _) g5).mp h9)] at h
    exact a_X3_recordsOf_65 K hQ hX hTh _ _ g4 h hGσ hYσ hE hth _ _ _ hH (lv_sub (l' := [(0, .ref th), (4, .int (i32 v4))]) hl [0, 3] rfl) hc
  · rw [if_neg (fun q => h9 ((i32_le (hGσ _ _) g5).mpr q))] at h
    exact a_X3_recordsOf_21 K hQ hX hTh hK6 _ _ _ _ _ g1 g4 g5 h hGσ hYσ hE hth _ _ _ hH (lv_sub (l' := [(0, .ref th), (1, .int (i32 v1)), (2, .long v2), (4, .int (i32 v4)), (5, .int (i32 v5))]) hl [0, 1, 2, 3, 4] rfl) hc
set_option maxRecDepth 20000 in
theorem a_X3_recordsOf_6 {Q : Sg → Int → Prop} {X : Sg → String → Prop} {th : Nat} (K : MD l R p s m args c cX3_recordsOf 7 RX3 D cA tys A n0 s0 1 24 []) (hQ : CQI p l e R s m args below meth c cX3_recordsOf D cA A n0 s0 QM σi Q) (hX : CX p l e R s m args below meth c 7 D cA A n0 s0 QM σi X) (hTh : CT p l e R s m args below meth c cX3_recordsOf 7 D cA A n0 s0 QM σi RX3 X) {K6 : Sg → Int → Int64 → Int → Int → Prop} (hK6 : ∀ (σ : Sg) (v1 : Int) (v2 : Int64) (v4 : Int) (v5 : Int) (g1 : rng v1) (g4 : rng v4) (g5 : rng v5), K6 σ v1 v2 v4 v5 → RG σ → TY σ → Ext σi σ → kO σ th 3 → JJ p l e R s m args below meth c 7 D cA A n0 s0 QM σ 6 [(0, .ref th), (1, .int (i32 v1)), (2, .long v2), (4, .int (i32 v4)), (5, .int (i32 v5))] []) : ∀ (σ : Sg) (v1 : Int) (v2 : Int64) (v4 : Int) (v5 : Int) (g1 : rng v1) (g4 : rng v4) (g5 : rng v5), w_X3_recordsOf_6 th K6 Q X σ v1 v2 v4 v5 → RG σ → TY σ → Ext σi σ → kO σ th 3 → JJ p l e R s m args below meth c 7 D cA A n0 s0 QM σ 6 [(0, .ref th), (1, .int (i32 v1)), (2, .long v2), (4, .int (i32 v4)), (5, .int (i32 v5))] [] := by
  intro σ v1 v2 v4 v5 g1 g4 g5 h hGσ hYσ hE hth H locs ls hH hl hc
  have B := K.1
  have hl9 := K.2.2.2.2.2.2
  unfold w_X3_recordsOf_6 at h
  refine lv_iload B.1 B.2.1 dX3_recordsOf_6 (lv_at hl 4 rfl) ?_
  refine lv_iconst (v := i32 4) B.1 B.2.1 dX3_recordsOf_8 (by decide) ?_
  refine lv_icmp_ge (tgt := 65) B.1 B.2.1 dX3_recordsOf_9 (by decide) (fun h9 => ?_) (fun h9 => ?_)
  · rw [if_pos ((i32_le (by unfold rng; omega) g5).mp h9)] at h
    exact a_X3_recordsOf_65 K hQ hX hTh _ _ g4 h hGσ hYσ hE hth _ _ _ hH (lv_sub (l' := [(0, .ref th), (4, .int (i32 v4))]) hl [0, 3] rfl) hc
  · rw [if_neg (fun q => h9 ((i32_le (by unfold rng; omega) g5).mpr q))] at h
    exact a_X3_recordsOf_12 K hQ hX hTh hK6 _ _ _ _ _ g1 g4 g5 h hGσ hYσ hE hth _ _ _ hH (lv_sub (l' := [(0, .ref th), (1, .int (i32 v1)), (2, .long v2), (4, .int (i32 v4)), (5, .int (i32 v5))]) hl [0, 1, 2, 3, 4] rfl) hc
theorem al_X3_recordsOf_6 {Q : Sg → Int → Prop} {X : Sg → String → Prop} {th : Nat} (K : MD l R p s m args c cX3_recordsOf 7 RX3 D cA tys A n0 s0 1 24 []) (hQ : CQI p l e R s m args below meth c cX3_recordsOf D cA A n0 s0 QM σi Q) (hX : CX p l e R s m args below meth c 7 D cA A n0 s0 QM σi X) (hTh : CT p l e R s m args below meth c cX3_recordsOf 7 D cA A n0 s0 QM σi RX3 X) : ∀ (n : Nat), ∀ (σ : Sg) (v1 : Int) (v2 : Int64) (v4 : Int) (v5 : Int) (g1 : rng v1) (g4 : rng v4) (g5 : rng v5), wl_X3_recordsOf_6 th Q X n σ v1 v2 v4 v5 → RG σ → TY σ → Ext σi σ → kO σ th 3 → JJ p l e R s m args below meth c 7 D cA A n0 s0 QM σ 6 [(0, .ref th), (1, .int (i32 v1)), (2, .long v2), (4, .int (i32 v4)), (5, .int (i32 v5))] [] := by
  intro n
  induction n with
  | zero => intro σ v1 v2 v4 v5 g1 g4 g5 h; exact h.elim
  | succ n ih => exact fun σ v1 v2 v4 v5 g1 g4 g5 h => a_X3_recordsOf_6 K hQ hX hTh ih σ v1 v2 v4 v5 g1 g4 g5 h
set_option maxRecDepth 20000 in
theorem a_X3_recordsOf_0 {Q : Sg → Int → Prop} {X : Sg → String → Prop} {th : Nat} (K : MD l R p s m args c cX3_recordsOf 7 RX3 D cA tys A n0 s0 1 24 []) (hQ : CQI p l e R s m args below meth c cX3_recordsOf D cA A n0 s0 QM σi Q) (hX : CX p l e R s m args below meth c 7 D cA A n0 s0 QM σi X) (hTh : CT p l e R s m args below meth c cX3_recordsOf 7 D cA A n0 s0 QM σi RX3 X) : ∀ (σ : Sg) (v1 : Int) (v2 : Int64) (g1 : rng v1), w_X3_recordsOf_0 th Q X σ v1 v2 → RG σ → TY σ → Ext σi σ → kO σ th 3 → JJ p l e R s m args below meth c 7 D cA A n0 s0 QM σ 0 [(0, .ref th), (1, .int (i32 v1)), (2, .long v2)] [] := by
  intro σ v1 v2 g1 h hGσ hYσ hE hth H locs ls hH hl hc
  have B := K.1
  have hl9 := K.2.2.2.2.2.2
  unfold w_X3_recordsOf_0 at h
  refine lv_iconst (v := i32 0) B.1 B.2.1 dX3_recordsOf_0 (by decide) ?_
  refine lv_istore (lv' := [(4, .int (i32 0)), (0, .ref th), (1, .int (i32 v1)), (2, .long v2)]) B.1 B.2.1 dX3_recordsOf_1 hl (by decide) rfl (fun ls hl => ?_)
  refine lv_iconst (v := i32 0) B.1 B.2.1 dX3_recordsOf_3 (by decide) ?_
  refine lv_istore (lv' := [(5, .int (i32 0)), (4, .int (i32 0)), (0, .ref th), (1, .int (i32 v1)), (2, .long v2)]) B.1 B.2.1 dX3_recordsOf_4 hl (by decide) rfl (fun ls hl => ?_)
  obtain ⟨n9, h⟩ := h
  exact al_X3_recordsOf_6 K hQ hX hTh n9 _ _ _ _ _ g1 (by unfold rng; omega) (by unfold rng; omega) h hGσ hYσ hE hth _ _ _ hH (lv_sub (l' := [(0, .ref th), (1, .int (i32 v1)), (2, .long v2), (4, .int (i32 0)), (5, .int (i32 0))]) hl [2, 3, 4, 1, 0] rfl) hc
theorem ok_X3_recordsOf (hl0 : l.stackTraces = false) (hT : TyC cA tys) {Q : Sg → Int → Prop} {X : Sg → String → Prop} (σ : Sg) (th : Nat) (v1 : Int) (v2 : Int64) (g1 : rng v1) (hth : kO σ th 3) (hG : RG σ) (hY : TY σ) (h : wp_X3_recordsOf th v1 v2 σ Q X) : Ok l D cA tys A yX3_recordsOf (.code yX3_recordsOf cX3_recordsOf 7 (some .int)) 1 24 [.ref th, .int (i32 v1), .long v2] σ (QcI σ Q) (QxC σ X) := by
  unfold wp_X3_recordsOf at h
  exact oc_I hl0 (by decide) (by exact Nat.le_of_ble_eq_true rfl) hT (fun p e R s m args below meth c K hQ hX hTh H locs ls hH hl hc => a_X3_recordsOf_0 K hQ hX hTh σ v1 v2 g1 h hG hY (Ext.rfl' σ) hth H locs ls hH (lv_sub (l' := [(0, .ref th), (1, .int (i32 v1)), (2, .long v2)]) hl [0, 1, 2] rfl) hc)
theorem dX12_records_0 : decode cX12_records 0 = .ok (.iload_n 1, 1) := by decide +kernel
theorem dX12_records_1 : decode cX12_records 1 = .ok (.ifCond .lt 14, 3) := by decide +kernel
theorem dX12_records_4 : decode cX12_records 4 = .ok (.iload_n 1, 1) := by decide +kernel
theorem dX12_records_5 : decode cX12_records 5 = .ok (.aload_n 0, 1) := by decide +kernel
theorem dX12_records_6 : decode cX12_records 6 = .ok (.getfield 30, 3) := by decide +kernel
theorem dX12_records_9 : decode cX12_records 9 = .ok (.getfield 89, 3) := by decide +kernel
theorem dX12_records_12 : decode cX12_records 12 = .ok (.if_icmp .lt 11, 3) := by decide +kernel
theorem dX12_records_15 : decode cX12_records 15 = .ok (.new 92, 3) := by decide +kernel
theorem dX12_records_18 : decode cX12_records 18 = .ok (.dup, 1) := by decide +kernel
theorem dX12_records_19 : decode cX12_records 19 = .ok (.invokespecial 94, 3) := by decide +kernel
theorem dX12_records_22 : decode cX12_records 22 = .ok (.athrow, 1) := by decide +kernel
theorem dX12_records_23 : decode cX12_records 23 = .ok (.aload_n 0, 1) := by decide +kernel
theorem dX12_records_24 : decode cX12_records 24 = .ok (.invokevirtual 140, 3) := by decide +kernel
theorem dX12_records_27 : decode cX12_records 27 = .ok (.aload_n 0, 1) := by decide +kernel
theorem dX12_records_28 : decode cX12_records 28 = .ok (.getfield 30, 3) := by decide +kernel
theorem dX12_records_31 : decode cX12_records 31 = .ok (.getfield 95, 3) := by decide +kernel
theorem dX12_records_34 : decode cX12_records 34 = .ok (.iload_n 1, 1) := by decide +kernel
theorem dX12_records_35 : decode cX12_records 35 = .ok (.aaload, 1) := by decide +kernel
theorem dX12_records_36 : decode cX12_records 36 = .ok (.getfield 99, 3) := by decide +kernel
theorem dX12_records_39 : decode cX12_records 39 = .ok (.invokestatic 243, 3) := by decide +kernel
theorem dX12_records_42 : decode cX12_records 42 = .ok (.ifCond .ne 11, 3) := by decide +kernel
theorem dX12_records_45 : decode cX12_records 45 = .ok (.new 60, 3) := by decide +kernel
theorem dX12_records_48 : decode cX12_records 48 = .ok (.dup, 1) := by decide +kernel
theorem dX12_records_49 : decode cX12_records 49 = .ok (.invokespecial 62, 3) := by decide +kernel
theorem dX12_records_52 : decode cX12_records 52 = .ok (.athrow, 1) := by decide +kernel
theorem dX12_records_53 : decode cX12_records 53 = .ok (.aload_n 0, 1) := by decide +kernel
theorem dX12_records_54 : decode cX12_records 54 = .ok (.getfield 49, 3) := by decide +kernel
theorem dX12_records_57 : decode cX12_records 57 = .ok (.getfield 66, 3) := by decide +kernel
theorem dX12_records_60 : decode cX12_records 60 = .ok (.iload_n 1, 1) := by decide +kernel
theorem dX12_records_61 : decode cX12_records 61 = .ok (.lload_n 2, 1) := by decide +kernel
theorem dX12_records_62 : decode cX12_records 62 = .ok (.invokevirtual 247, 3) := by decide +kernel
theorem dX12_records_65 : decode cX12_records 65 = .ok (.ireturn, 1) := by decide +kernel
set_option maxRecDepth 20000 in
theorem a_X12_records_15 {Q : Sg → Int → Prop} {X : Sg → String → Prop} {th : Nat} (K : MD l R p s m args c cX12_records 4 RX12 D cA tys A n0 s0 7 110 []) (hQ : CQI p l e R s m args below meth c cX12_records D cA A n0 s0 QM σi Q) (hX : CX p l e R s m args below meth c 4 D cA A n0 s0 QM σi X) (hTh : CT p l e R s m args below meth c cX12_records 4 D cA A n0 s0 QM σi RX12 X) : ∀ (σ : Sg), w_X12_records_15 th Q X σ → RG σ → TY σ → Ext σi σ → kO σ th 12 → JJ p l e R s m args below meth c 4 D cA A n0 s0 QM σ 15 [(0, .ref th)] [] := by
  intro σ h hGσ hYσ hE hth H locs ls hH hl hc
  have B := K.1
  have hl9 := K.2.2.2.2.2.2
  unfold w_X12_records_15 at h
  obtain ⟨q9, h⟩ := h
  exact hTh _ _ _ _ _ _ _ _ _ tw_X12_92_94 dX12_records_15 dX12_records_18 dX12_records_19 dX12_records_22 hH hl hc q9 h hGσ hYσ hE (by have := K.2.2.2.1; omega) (by have := K.2.2.2.2.1; omega)
set_option maxRecDepth 20000 in
theorem a_X12_records_53 {Q : Sg → Int → Prop} {X : Sg → String → Prop} {th : Nat} (K : MD l R p s m args c cX12_records 4 RX12 D cA tys A n0 s0 7 110 []) (hQ : CQI p l e R s m args below meth c cX12_records D cA A n0 s0 QM σi Q) (hX : CX p l e R s m args below meth c 4 D cA A n0 s0 QM σi X) (hTh : CT p l e R s m args below meth c cX12_records 4 D cA A n0 s0 QM σi RX12 X) : ∀ (σ : Sg) (v1 : Int) (v2 : Int64) (g1 : rng v1), w_X12_records_53 th Q X σ v1 v2 → RG σ → TY σ → Ext σi σ → kO σ th 12 → JJ p l e R s m args below meth c 4 D cA A n0 s0 QM σ 53 [(0, .ref th), (1, .int (i32 v1)), (2, .long v2)] [] := by
  intro σ v1 v2 g1 h hGσ hYσ hE hth H locs ls hH hl hc
  have B := K.1
  have hl9 := K.2.2.2.2.2.2
  unfold w_X12_records_53 at h
  refine lv_aload_n B.1 B.2.1 dX12_records_53 rfl (lv_at hl 0 rfl) ?_
  refine f_getp B hH hth (by decide) rfl wu_X12 7 (by decide) wf_X12_49 rfl rfl dX12_records_54 ?_
  obtain ⟨a23, ea23, h⟩ := h
  have ka23 : kO σ a23 9 := (hYσ.get hth (by decide)) a23 ea23
  have h := h ka23
  refine W.eq (g2 := F0 m 57 ls [.ref a23]) (by rw [ea23]; rfl) ?_
  refine f_getp B hH ka23 (by decide) rfl wu_X9 2 (by decide) wf_X12_66 rfl rfl dX12_records_57 ?_
  refine lv_iload_n B.1 B.2.1 dX12_records_60 rfl (lv_at hl 1 rfl) ?_
  refine lv_lload_n B.1 B.2.1 dX12_records_61 rfl (lv_at hl 2 rfl) ?_
  obtain ⟨a26, ea26, h⟩ := h
  have ka26 : kO σ a26 3 := (hYσ.get ka23 (by decide)) a26 ea26
  have h := h ka26
  refine W.eq (g2 := F0 m 62 ls [.long v2, .int (i32 v1), .ref a26]) (by rw [ea26]; rfl) ?_
  refine c_V B hH hl hc K.2.2.1 (C := RX3) (T := TX3) (N := 10) (ci := 3) (As := [.int (i32 v1), .long v2]) (ok_X3_recordsOf hl9 K.2.1 σ a26 v1 v2 g1 ka26 hGσ hYσ h) wc_X12_247 2 hd_X3_recordsOf ⟨Nat.le_trans (Nat.le_of_ble_eq_true rfl) K.2.2.2.1, Nat.le_trans (Nat.le_of_ble_eq_true rfl) K.2.2.2.2.1⟩ ka26.1 ka26.2 (by decide) rfl rfl (rest := []) rfl (Nat.le_of_ble_eq_true rfl) dX12_records_62 (fun σ24 w hq => ?_) (fun σ9 E9 hx9 => hX σ9 E9 _ _ _ (tb_out K.2.2.2.2.2.1 rfl) hx9.1 hx9.2.1 hx9.2.2.1 (hE.trans hx9.2.2.2))
  obtain ⟨r25, rfl, gr25, h, hGσ24, hYσ24, xσ24⟩ := hq
  have h := h xσ24
  intro H locs ls hH hl hc
  refine W.eq (g2 := F0 m 65 ls [.int (i32 r25)]) (rfl) ?_
  try dsimp only at h
  exact hQ _ _ _ _ _ _ gr25 dX12_records_65 hH hc h hGσ24 hYσ24 (hE.trans xσ24)
set_option maxRecDepth 20000 in
theorem a_X12_records_45 {Q : Sg → Int → Prop} {X : Sg → String → Prop} {th : Nat} (K : MD l R p s m args c cX12_records 4 RX12 D cA tys A n0 s0 7 110 []) (hQ : CQI p l e R s m args below meth c cX12_records D cA A n0 s0 QM σi Q) (hX : CX p l e R s m args below meth c 4 D cA A n0 s0 QM σi X) (hTh : CT p l e R s m args below meth c cX12_records 4 D cA A n0 s0 QM σi RX12 X) : ∀ (σ : Sg), w_X12_records_45 th Q X σ → RG σ → TY σ → Ext σi σ → kO σ th 12 → JJ p l e R s m args below meth c 4 D cA A n0 s0 QM σ 45 [(0, .ref th)] [] := by
  intro σ h hGσ hYσ hE hth H locs ls hH hl hc
  have B := K.1
  have hl9 := K.2.2.2.2.2.2
  unfold w_X12_records_45 at h
  obtain ⟨q9, h⟩ := h
  exact hTh _ _ _ _ _ _ _ _ _ tw_X12_60_62 dX12_records_45 dX12_records_48 dX12_records_49 dX12_records_52 hH hl hc q9 h hGσ hYσ hE (by have := K.2.2.2.1; omega) (by have := K.2.2.2.2.1; omega)
set_option maxRecDepth 20000 in
theorem a_X12_records_23 {Q : Sg → Int → Prop} {X : Sg → String → Prop} {th : Nat} (K : MD l R p s m args c cX12_records 4 RX12 D cA tys A n0 s0 7 110 []) (hQ : CQI p l e R s m args below meth c cX12_records D cA A n0 s0 QM σi Q) (hX : CX p l e R s m args below meth c 4 D cA A n0 s0 QM σi X) (hTh : CT p l e R s m args below meth c cX12_records 4 D cA A n0 s0 QM σi RX12 X) : ∀ (σ : Sg) (v1 : Int) (v2 : Int64) (g1 : rng v1), w_X12_records_23 th Q X σ v1 v2 → RG σ → TY σ → Ext σi σ → kO σ th 12 → JJ p l e R s m args below meth c 4 D cA A n0 s0 QM σ 23 [(0, .ref th), (1, .int (i32 v1)), (2, .long v2)] [] := by
  intro σ v1 v2 g1 h hGσ hYσ hE hth H locs ls hH hl hc
  have B := K.1
  have hl9 := K.2.2.2.2.2.2
  unfold w_X12_records_23 at h
  refine lv_aload_n B.1 B.2.1 dX12_records_23 rfl (lv_at hl 0 rfl) ?_
  refine W.eq (g2 := F0 m 24 ls [.ref th]) (rfl) ?_
  refine c_V B hH hl hc K.2.2.1 (C := RX12) (T := TX12) (N := 9) (ci := 12) (As := []) (ok_X12_needRun hl9 K.2.1 σ th hth hGσ hYσ h) wc_X12_140 0 hd_X12_needRun ⟨Nat.le_trans (Nat.le_of_ble_eq_true rfl) K.2.2.2.1, Nat.le_trans (Nat.le_of_ble_eq_true rfl) K.2.2.2.2.1⟩ hth.1 hth.2 (by decide) rfl rfl (rest := []) rfl (Nat.le_of_ble_eq_true rfl) dX12_records_24 (fun σ27 w hq => ?_) (fun σ9 E9 hx9 => hX σ9 E9 _ _ _ (tb_out K.2.2.2.2.2.1 rfl) hx9.1 hx9.2.1 hx9.2.2.1 (hE.trans hx9.2.2.2))
  obtain ⟨rfl, h, hGσ27, hYσ27, xσ27⟩ := hq
  have h := h xσ27
  intro H locs ls hH hl hc
  refine W.eq (g2 := F0 m 27 ls []) (rfl) ?_
  try dsimp only at h
  refine lv_aload_n B.1 B.2.1 dX12_records_27 rfl (lv_at hl 0 rfl) ?_
  refine f_getp B hH (hth.up xσ27) (by decide) rfl wu_X12 4 (by decide) wf_X12_30 rfl rfl dX12_records_28 ?_
  obtain ⟨a28, ea28, h⟩ := h
  have ka28 : kO σ27 a28 4 := (hYσ27.get (hth.up xσ27) (by decide)) a28 ea28
  have h := h ka28
  refine W.eq (g2 := F0 m 31 ls [.ref a28]) (by rw [ea28]; rfl) ?_
  refine f_getp B hH ka28 (by decide) rfl wu_X4 0 (by decide) wf_X12_95 rfl rfl dX12_records_31 ?_
  refine lv_iload_n B.1 B.2.1 dX12_records_34 rfl (lv_at hl 1 rfl) ?_
  obtain ⟨a29, ea29, h⟩ := h
  have ka29 : kO σ27 a29 115 := (hYσ27.get ka28 (by decide)) a29 ea29
  have h := h ka29
  obtain ⟨q1, h⟩ := h
  refine W.eq (g2 := F0 m 35 ls [.int (i32 v1), .ref a29]) (by rw [ea29]; rfl) ?_
  refine y_aald B hH (t0 := 6) ka29 (by decide) K.2.1.2.2.2.1 q1 (hYσ27.2 _) dX12_records_35 ?_
  obtain ⟨a30, ea30, h⟩ := h
  have ka30 : kO σ27 a30 5 := (hYσ27.get ka29 rfl) a30 ea30
  have h := h ka30
  refine W.eq (g2 := F0 m 36 ls [.ref a30]) (by rw [ea30]; rfl) ?_
  refine f_geti B hH ka30 (by decide) rfl wu_X5 6 (by decide) wf_X12_99 rfl rfl dX12_records_36 ?_
  refine c_S B hH hl hc K.2.2.1 (As := [.int (i32 (gI σ27 a30 6))]) (ok_X12_isKeyed hl9 K.2.1 σ27 (gI σ27 a30 6) (hGσ27 _ _) hGσ27 hYσ27 h) wc_X12_243 1 hd_X12_isKeyed ⟨Nat.le_trans (Nat.le_of_ble_eq_true rfl) K.2.2.2.1, Nat.le_trans (Nat.le_of_ble_eq_true rfl) K.2.2.2.2.1⟩ rfl (rest := []) rfl (Nat.le_of_ble_eq_true rfl) dX12_records_39 (fun σ31 w hq => ?_) (fun σ9 E9 hx9 => hX σ9 E9 _ _ _ (tb_out K.2.2.2.2.2.1 rfl) hx9.1 hx9.2.1 hx9.2.2.1 ((hE.trans xσ27).trans hx9.2.2.2))
  obtain ⟨r32, rfl, ⟨gr32, gzr32⟩, h, hGσ31, hYσ31, xσ31⟩ := hq
  have h := h xσ31
  intro H locs ls hH hl hc
  refine W.eq (g2 := F0 m 42 ls [.int (i32 r32)]) (rfl) ?_
  try dsimp only at h
  refine lv_if_ne (tgt := 53) B.1 B.2.1 dX12_records_42 (by decide) (fun h9 => ?_) (fun h9 => ?_)
  · rw [if_pos (fun q => h9 ((z_eq gr32).mpr q))] at h
    exact a_X12_records_53 K hQ hX hTh _ _ _ g1 h hGσ31 hYσ31 ((hE.trans xσ27).trans xσ31) (hth.up (xσ27.trans xσ31)) _ _ _ hH (lv_sub (l' := [(0, .ref th), (1, .int (i32 v1)), (2, .long v2)]) hl [0, 1, 2] rfl) hc
  · rw [if_neg (fun q => q ((z_eq gr32).mp h9))] at h
    exact a_X12_records_45 K hQ hX hTh _ h hGσ31 hYσ31 ((hE.trans xσ27).trans xσ31) (hth.up (xσ27.trans xσ31)) _ _ _ hH (lv_sub (l' := [(0, .ref th)]) hl [0] rfl) hc
set_option maxRecDepth 20000 in
theorem a_X12_records_4 {Q : Sg → Int → Prop} {X : Sg → String → Prop} {th : Nat} (K : MD l R p s m args c cX12_records 4 RX12 D cA tys A n0 s0 7 110 []) (hQ : CQI p l e R s m args below meth c cX12_records D cA A n0 s0 QM σi Q) (hX : CX p l e R s m args below meth c 4 D cA A n0 s0 QM σi X) (hTh : CT p l e R s m args below meth c cX12_records 4 D cA A n0 s0 QM σi RX12 X) : ∀ (σ : Sg) (v1 : Int) (v2 : Int64) (g1 : rng v1), w_X12_records_4 th Q X σ v1 v2 → RG σ → TY σ → Ext σi σ → kO σ th 12 → JJ p l e R s m args below meth c 4 D cA A n0 s0 QM σ 4 [(0, .ref th), (1, .int (i32 v1)), (2, .long v2)] [] := by
  intro σ v1 v2 g1 h hGσ hYσ hE hth H locs ls hH hl hc
  have B := K.1
  have hl9 := K.2.2.2.2.2.2
  unfold w_X12_records_4 at h
  refine lv_iload_n B.1 B.2.1 dX12_records_4 rfl (lv_at hl 1 rfl) ?_
  refine lv_aload_n B.1 B.2.1 dX12_records_5 rfl (lv_at hl 0 rfl) ?_
  refine f_getp B hH hth (by decide) rfl wu_X12 4 (by decide) wf_X12_30 rfl rfl dX12_records_6 ?_
  obtain ⟨a33, ea33, h⟩ := h
  have ka33 : kO σ a33 4 := (hYσ.get hth (by decide)) a33 ea33
  have h := h ka33
  refine W.eq (g2 := F0 m 9 ls [.ref a33, .int (i32 v1)]) (by rw [ea33]; rfl) ?_
  refine f_geti B hH ka33 (by decide) rfl wu_X4 1 (by decide) wf_X12_89 rfl rfl dX12_records_9 ?_
  refine lv_icmp_lt (tgt := 23) B.1 B.2.1 dX12_records_12 (by decide) (fun h9 => ?_) (fun h9 => ?_)
  · rw [if_pos ((i32_lt g1 (hGσ _ _)).mp h9)] at h
    exact a_X12_records_23 K hQ hX hTh _ _ _ g1 h hGσ hYσ hE hth _ _ _ hH (lv_sub (l' := [(0, .ref th), (1, .int (i32 v1)), (2, .long v2)]) hl [0, 1, 2] rfl) hc
  · rw [if_neg (fun q => h9 ((i32_lt g1 (hGσ _ _)).mpr q))] at h
    exact a_X12_records_15 K hQ hX hTh _ h hGσ hYσ hE hth _ _ _ hH (lv_sub (l' := [(0, .ref th)]) hl [0] rfl) hc
set_option maxRecDepth 20000 in
theorem a_X12_records_0 {Q : Sg → Int → Prop} {X : Sg → String → Prop} {th : Nat} (K : MD l R p s m args c cX12_records 4 RX12 D cA tys A n0 s0 7 110 []) (hQ : CQI p l e R s m args below meth c cX12_records D cA A n0 s0 QM σi Q) (hX : CX p l e R s m args below meth c 4 D cA A n0 s0 QM σi X) (hTh : CT p l e R s m args below meth c cX12_records 4 D cA A n0 s0 QM σi RX12 X) : ∀ (σ : Sg) (v1 : Int) (v2 : Int64) (g1 : rng v1), w_X12_records_0 th Q X σ v1 v2 → RG σ → TY σ → Ext σi σ → kO σ th 12 → JJ p l e R s m args below meth c 4 D cA A n0 s0 QM σ 0 [(0, .ref th), (1, .int (i32 v1)), (2, .long v2)] [] := by
  intro σ v1 v2 g1 h hGσ hYσ hE hth H locs ls hH hl hc
  have B := K.1
  have hl9 := K.2.2.2.2.2.2
  unfold w_X12_records_0 at h
  refine lv_iload_n B.1 B.2.1 dX12_records_0 rfl (lv_at hl 1 rfl) ?_
  refine lv_if_lt (tgt := 15) B.1 B.2.1 dX12_records_1 (by decide) (fun h9 => ?_) (fun h9 => ?_)
  · rw [if_pos ((z_lt g1).mp h9)] at h
    exact a_X12_records_15 K hQ hX hTh _ h hGσ hYσ hE hth _ _ _ hH (lv_sub (l' := [(0, .ref th)]) hl [0] rfl) hc
  · rw [if_neg (fun q => h9 ((z_lt g1).mpr q))] at h
    exact a_X12_records_4 K hQ hX hTh _ _ _ g1 h hGσ hYσ hE hth _ _ _ hH (lv_sub (l' := [(0, .ref th), (1, .int (i32 v1)), (2, .long v2)]) hl [0, 1, 2] rfl) hc
theorem ok_X12_records (hl0 : l.stackTraces = false) (hT : TyC cA tys) {Q : Sg → Int → Prop} {X : Sg → String → Prop} (σ : Sg) (th : Nat) (v1 : Int) (v2 : Int64) (g1 : rng v1) (hth : kO σ th 12) (hG : RG σ) (hY : TY σ) (h : wp_X12_records th v1 v2 σ Q X) : Ok l D cA tys A yX12_records (.code yX12_records cX12_records 4 (some .int)) 7 110 [.ref th, .int (i32 v1), .long v2] σ (QcI σ Q) (QxC σ X) := by
  unfold wp_X12_records at h
  exact oc_I hl0 (by decide) (by exact Nat.le_of_ble_eq_true rfl) hT (fun p e R s m args below meth c K hQ hX hTh H locs ls hH hl hc => a_X12_records_0 K hQ hX hTh σ v1 v2 g1 h hG hY (Ext.rfl' σ) hth H locs ls hH (lv_sub (l' := [(0, .ref th), (1, .int (i32 v1)), (2, .long v2)]) hl [0, 1, 2] rfl) hc)
theorem dX12_reopen_0 : decode cX12_reopen 0 = .ok (.aload_n 0, 1) := by decide +kernel
theorem dX12_reopen_1 : decode cX12_reopen 1 = .ok (.getfield 49, 3) := by decide +kernel
theorem dX12_reopen_4 : decode cX12_reopen 4 = .ok (.getfield 66, 3) := by decide +kernel
theorem dX12_reopen_7 : decode cX12_reopen 7 = .ok (.getfield 70, 3) := by decide +kernel
theorem dX12_reopen_10 : decode cX12_reopen 10 = .ok (.ifCond .ne 11, 3) := by decide +kernel
theorem dX12_reopen_13 : decode cX12_reopen 13 = .ok (.new 76, 3) := by decide +kernel
theorem dX12_reopen_16 : decode cX12_reopen 16 = .ok (.dup, 1) := by decide +kernel
theorem dX12_reopen_17 : decode cX12_reopen 17 = .ok (.invokespecial 78, 3) := by decide +kernel
theorem dX12_reopen_20 : decode cX12_reopen 20 = .ok (.athrow, 1) := by decide +kernel
theorem dX12_reopen_21 : decode cX12_reopen 21 = .ok (.aload_n 0, 1) := by decide +kernel
theorem dX12_reopen_22 : decode cX12_reopen 22 = .ok (.getfield 49, 3) := by decide +kernel
theorem dX12_reopen_25 : decode cX12_reopen 25 = .ok (.getfield 66, 3) := by decide +kernel
theorem dX12_reopen_28 : decode cX12_reopen 28 = .ok (.invokevirtual 169, 3) := by decide +kernel
theorem dX12_reopen_31 : decode cX12_reopen 31 = .ok (.aload_n 0, 1) := by decide +kernel
theorem dX12_reopen_32 : decode cX12_reopen 32 = .ok (.getfield 49, 3) := by decide +kernel
theorem dX12_reopen_35 : decode cX12_reopen 35 = .ok (.aload_n 0, 1) := by decide +kernel
theorem dX12_reopen_36 : decode cX12_reopen 36 = .ok (.getfield 49, 3) := by decide +kernel
theorem dX12_reopen_39 : decode cX12_reopen 39 = .ok (.getfield 156, 3) := by decide +kernel
theorem dX12_reopen_42 : decode cX12_reopen 42 = .ok (.invokevirtual 159, 3) := by decide +kernel
theorem dX12_reopen_45 : decode cX12_reopen 45 = .ok (.aload_n 0, 1) := by decide +kernel
theorem dX12_reopen_46 : decode cX12_reopen 46 = .ok (.getfield 49, 3) := by decide +kernel
theorem dX12_reopen_49 : decode cX12_reopen 49 = .ok (.getfield 66, 3) := by decide +kernel
theorem dX12_reopen_52 : decode cX12_reopen 52 = .ok (.getfield 163, 3) := by decide +kernel
theorem dX12_reopen_55 : decode cX12_reopen 55 = .ok (.ireturn, 1) := by decide +kernel
set_option maxRecDepth 20000 in
theorem a_X12_reopen_21 {Q : Sg → Int → Prop} {X : Sg → String → Prop} {th : Nat} (K : MD l R p s m args c cX12_reopen 1 RX12 D cA tys A n0 s0 11 208 []) (hQ : CQI p l e R s m args below meth c cX12_reopen D cA A n0 s0 QM σi Q) (hX : CX p l e R s m args below meth c 1 D cA A n0 s0 QM σi X) (hTh : CT p l e R s m args below meth c cX12_reopen 1 D cA A n0 s0 QM σi RX12 X) : ∀ (σ : Sg), w_X12_reopen_21 th Q X σ → RG σ → TY σ → Ext σi σ → kO σ th 12 → JJ p l e R s m args below meth c 1 D cA A n0 s0 QM σ 21 [(0, .ref th)] [] := by
  intro σ h hGσ hYσ hE hth H locs ls hH hl hc
  have B := K.1
  have hl9 := K.2.2.2.2.2.2
  unfold w_X12_reopen_21 at h
  refine lv_aload_n B.1 B.2.1 dX12_reopen_21 rfl (lv_at hl 0 rfl) ?_
  refine f_getp B hH hth (by decide) rfl wu_X12 7 (by decide) wf_X12_49 rfl rfl dX12_reopen_22 ?_
  obtain ⟨a19, ea19, h⟩ := h
  have ka19 : kO σ a19 9 := (hYσ.get hth (by decide)) a19 ea19
  have h := h ka19
  refine W.eq (g2 := F0 m 25 ls [.ref a19]) (by rw [ea19]; rfl) ?_
  refine f_getp B hH ka19 (by decide) rfl wu_X9 2 (by decide) wf_X12_66 rfl rfl dX12_reopen_25 ?_
  obtain ⟨a21, ea21, h⟩ := h
  have ka21 : kO σ a21 3 := (hYσ.get ka19 (by decide)) a21 ea21
  have h := h ka21
  refine W.eq (g2 := F0 m 28 ls [.ref a21]) (by rw [ea21]; rfl) ?_
  refine c_V B hH hl hc K.2.2.1 (C := RX3) (T := TX3) (N := 10) (ci := 3) (As := []) (ok_X3_powerReturns hl9 K.2.1 σ a21 ka21 hGσ hYσ h) wc_X12_169 0 hd_X3_powerReturns ⟨Nat.le_trans (Nat.le_of_ble_eq_true rfl) K.2.2.2.1, Nat.le_trans (Nat.le_of_ble_eq_true rfl) K.2.2.2.2.1⟩ ka21.1 ka21.2 (by decide) rfl rfl (rest := []) rfl (Nat.le_of_ble_eq_true rfl) dX12_reopen_28 (fun σ20 w hq => ?_) (fun σ9 E9 hx9 => hX σ9 E9 _ _ _ (tb_out K.2.2.2.2.2.1 rfl) hx9.1 hx9.2.1 hx9.2.2.1 (hE.trans hx9.2.2.2))
  obtain ⟨rfl, h, hGσ20, hYσ20, xσ20⟩ := hq
  have h := h xσ20
  intro H locs ls hH hl hc
  refine W.eq (g2 := F0 m 31 ls []) (rfl) ?_
  try dsimp only at h
  refine lv_aload_n B.1 B.2.1 dX12_reopen_31 rfl (lv_at hl 0 rfl) ?_
  refine f_getp B hH (hth.up xσ20) (by decide) rfl wu_X12 7 (by decide) wf_X12_49 rfl rfl dX12_reopen_32 ?_
  refine lv_aload_n B.1 B.2.1 dX12_reopen_35 rfl (lv_at hl 0 rfl) ?_
  refine f_getp B hH (hth.up xσ20) (by decide) rfl wu_X12 7 (by decide) wf_X12_49 rfl rfl dX12_reopen_36 ?_
  obtain ⟨a22, ea22, h⟩ := h
  have ka22 : kO σ20 a22 9 := (hYσ20.get (hth.up xσ20) (by decide)) a22 ea22
  have h := h ka22
  refine W.eq (g2 := F0 m 39 ls [.ref a22, va_rf (gP σ20 th 7)]) (by rw [ea22]; rfl) ?_
  refine f_geti B hH ka22 (by decide) rfl wu_X9 12 (by decide) wf_X12_156 rfl rfl dX12_reopen_39 ?_
  refine W.eq (g2 := F0 m 42 ls [.int (i32 (gI σ20 a22 12)), .ref a22]) (by rw [ea22]; rfl) ?_
  refine c_V B hH hl hc K.2.2.1 (C := RX9) (T := TX9) (N := 20) (ci := 9) (As := [.int (i32 (gI σ20 a22 12))]) (ok_X9_beginAgain hl9 K.2.1 σ20 a22 (gI σ20 a22 12) (hGσ20 _ _) ka22 hGσ20 hYσ20 h) wc_X12_159 1 hd_X9_beginAgain ⟨Nat.le_trans (Nat.le_of_ble_eq_true rfl) K.2.2.2.1, Nat.le_trans (Nat.le_of_ble_eq_true rfl) K.2.2.2.2.1⟩ ka22.1 ka22.2 (by decide) rfl rfl (rest := []) rfl (Nat.le_of_ble_eq_true rfl) dX12_reopen_42 (fun σ23 w hq => ?_) (fun σ9 E9 hx9 => hX σ9 E9 _ _ _ (tb_out K.2.2.2.2.2.1 rfl) hx9.1 hx9.2.1 hx9.2.2.1 ((hE.trans xσ20).trans hx9.2.2.2))
  obtain ⟨rfl, h, hGσ23, hYσ23, xσ23⟩ := hq
  have h := h xσ23
  intro H locs ls hH hl hc
  refine W.eq (g2 := F0 m 45 ls []) (rfl) ?_
  try dsimp only at h
  refine lv_aload_n B.1 B.2.1 dX12_reopen_45 rfl (lv_at hl 0 rfl) ?_
  refine f_getp B hH (hth.up (xσ20.trans xσ23)) (by decide) rfl wu_X12 7 (by decide) wf_X12_49 rfl rfl dX12_reopen_46 ?_
  obtain ⟨a24, ea24, h⟩ := h
  have ka24 : kO σ23 a24 9 := (hYσ23.get (hth.up (xσ20.trans xσ23)) (by decide)) a24 ea24
  have h := h ka24
  refine W.eq (g2 := F0 m 49 ls [.ref a24]) (by rw [ea24]; rfl) ?_
  refine f_getp B hH ka24 (by decide) rfl wu_X9 2 (by decide) wf_X12_66 rfl rfl dX12_reopen_49 ?_
  obtain ⟨a25, ea25, h⟩ := h
  have ka25 : kO σ23 a25 3 := (hYσ23.get ka24 (by decide)) a25 ea25
  have h := h ka25
  refine W.eq (g2 := F0 m 52 ls [.ref a25]) (by rw [ea25]; rfl) ?_
  refine f_geti B hH ka25 (by decide) rfl wu_X3 4 (by decide) wf_X12_163 rfl rfl dX12_reopen_52 ?_
  exact hQ _ _ _ _ _ _ (hGσ23 _ _) dX12_reopen_55 hH hc h hGσ23 hYσ23 ((hE.trans xσ20).trans xσ23)
set_option maxRecDepth 20000 in
theorem a_X12_reopen_13 {Q : Sg → Int → Prop} {X : Sg → String → Prop} {th : Nat} (K : MD l R p s m args c cX12_reopen 1 RX12 D cA tys A n0 s0 11 208 []) (hQ : CQI p l e R s m args below meth c cX12_reopen D cA A n0 s0 QM σi Q) (hX : CX p l e R s m args below meth c 1 D cA A n0 s0 QM σi X) (hTh : CT p l e R s m args below meth c cX12_reopen 1 D cA A n0 s0 QM σi RX12 X) : ∀ (σ : Sg), w_X12_reopen_13 th Q X σ → RG σ → TY σ → Ext σi σ → kO σ th 12 → JJ p l e R s m args below meth c 1 D cA A n0 s0 QM σ 13 [(0, .ref th)] [] := by
  intro σ h hGσ hYσ hE hth H locs ls hH hl hc
  have B := K.1
  have hl9 := K.2.2.2.2.2.2
  unfold w_X12_reopen_13 at h
  obtain ⟨q9, h⟩ := h
  exact hTh _ _ _ _ _ _ _ _ _ tw_X12_76_78 dX12_reopen_13 dX12_reopen_16 dX12_reopen_17 dX12_reopen_20 hH hl hc q9 h hGσ hYσ hE (by have := K.2.2.2.1; omega) (by have := K.2.2.2.2.1; omega)
set_option maxRecDepth 20000 in
theorem a_X12_reopen_0 {Q : Sg → Int → Prop} {X : Sg → String → Prop} {th : Nat} (K : MD l R p s m args c cX12_reopen 1 RX12 D cA tys A n0 s0 11 208 []) (hQ : CQI p l e R s m args below meth c cX12_reopen D cA A n0 s0 QM σi Q) (hX : CX p l e R s m args below meth c 1 D cA A n0 s0 QM σi X) (hTh : CT p l e R s m args below meth c cX12_reopen 1 D cA A n0 s0 QM σi RX12 X) : ∀ (σ : Sg), w_X12_reopen_0 th Q X σ → RG σ → TY σ → Ext σi σ → kO σ th 12 → JJ p l e R s m args below meth c 1 D cA A n0 s0 QM σ 0 [(0, .ref th)] [] := by
  intro σ h hGσ hYσ hE hth H locs ls hH hl hc
  have B := K.1
  have hl9 := K.2.2.2.2.2.2
  unfold w_X12_reopen_0 at h
  refine lv_aload_n B.1 B.2.1 dX12_reopen_0 rfl (lv_at hl 0 rfl) ?_
  refine f_getp B hH hth (by decide) rfl wu_X12 7 (by decide) wf_X12_49 rfl rfl dX12_reopen_1 ?_
  obtain ⟨a26, ea26, h⟩ := h
  have ka26 : kO σ a26 9 := (hYσ.get hth (by decide)) a26 ea26
  have h := h ka26
  refine W.eq (g2 := F0 m 4 ls [.ref a26]) (by rw [ea26]; rfl) ?_
  refine f_getp B hH ka26 (by decide) rfl wu_X9 2 (by decide) wf_X12_66 rfl rfl dX12_reopen_4 ?_
  obtain ⟨a27, ea27, h⟩ := h
  have ka27 : kO σ a27 3 := (hYσ.get ka26 (by decide)) a27 ea27
  have h := h ka27
  refine W.eq (g2 := F0 m 7 ls [.ref a27]) (by rw [ea27]; rfl) ?_
  refine f_geti B hH ka27 (by decide) rfl wu_X3 9 (by decide) wf_X12_70 rfl rfl dX12_reopen_7 ?_
  refine lv_if_ne (tgt := 21) B.1 B.2.1 dX12_reopen_10 (by decide) (fun h9 => ?_) (fun h9 => ?_)
  · rw [if_pos (fun q => h9 ((z_eq (hGσ _ _)).mpr q))] at h
    exact a_X12_reopen_21 K hQ hX hTh _ h hGσ hYσ hE hth _ _ _ hH (lv_sub (l' := [(0, .ref th)]) hl [0] rfl) hc
  · rw [if_neg (fun q => q ((z_eq (hGσ _ _)).mp h9))] at h
    exact a_X12_reopen_13 K hQ hX hTh _ h hGσ hYσ hE hth _ _ _ hH (lv_sub (l' := [(0, .ref th)]) hl [0] rfl) hc
theorem ok_X12_reopen (hl0 : l.stackTraces = false) (hT : TyC cA tys) {Q : Sg → Int → Prop} {X : Sg → String → Prop} (σ : Sg) (th : Nat) (hth : kO σ th 12) (hG : RG σ) (hY : TY σ) (h : wp_X12_reopen th σ Q X) : Ok l D cA tys A yX12_reopen (.code yX12_reopen cX12_reopen 1 (some .int)) 11 208 [.ref th] σ (QcI σ Q) (QxC σ X) := by
  unfold wp_X12_reopen at h
  exact oc_I hl0 (by decide) (by exact Nat.le_of_ble_eq_true rfl) hT (fun p e R s m args below meth c K hQ hX hTh H locs ls hH hl hc => a_X12_reopen_0 K hQ hX hTh σ h hG hY (Ext.rfl' σ) hth H locs ls hH (lv_sub (l' := [(0, .ref th)]) hl [0] rfl) hc)
theorem dX12_rescale_0 : decode cX12_rescale 0 = .ok (.aload_n 0, 1) := by decide +kernel
theorem dX12_rescale_1 : decode cX12_rescale 1 = .ok (.invokevirtual 140, 3) := by decide +kernel
theorem dX12_rescale_4 : decode cX12_rescale 4 = .ok (.iload_n 1, 1) := by decide +kernel
theorem dX12_rescale_5 : decode cX12_rescale 5 = .ok (.iconst 1, 1) := by decide +kernel
theorem dX12_rescale_6 : decode cX12_rescale 6 = .ok (.if_icmp .lt 8, 3) := by decide +kernel
theorem dX12_rescale_9 : decode cX12_rescale 9 = .ok (.iload_n 1, 1) := by decide +kernel
theorem dX12_rescale_10 : decode cX12_rescale 10 = .ok (.iconst 4, 1) := by decide +kernel
theorem dX12_rescale_11 : decode cX12_rescale 11 = .ok (.if_icmp .le 11, 3) := by decide +kernel
theorem dX12_rescale_14 : decode cX12_rescale 14 = .ok (.new 60, 3) := by decide +kernel
theorem dX12_rescale_17 : decode cX12_rescale 17 = .ok (.dup, 1) := by decide +kernel
theorem dX12_rescale_18 : decode cX12_rescale 18 = .ok (.invokespecial 62, 3) := by decide +kernel
theorem dX12_rescale_21 : decode cX12_rescale 21 = .ok (.athrow, 1) := by decide +kernel
theorem dX12_rescale_22 : decode cX12_rescale 22 = .ok (.aload_n 0, 1) := by decide +kernel
theorem dX12_rescale_23 : decode cX12_rescale 23 = .ok (.getfield 49, 3) := by decide +kernel
theorem dX12_rescale_26 : decode cX12_rescale 26 = .ok (.iload_n 1, 1) := by decide +kernel
theorem dX12_rescale_27 : decode cX12_rescale 27 = .ok (.invokevirtual 159, 3) := by decide +kernel
theorem dX12_rescale_30 : decode cX12_rescale 30 = .ok (.aload_n 0, 1) := by decide +kernel
theorem dX12_rescale_31 : decode cX12_rescale 31 = .ok (.getfield 49, 3) := by decide +kernel
theorem dX12_rescale_34 : decode cX12_rescale 34 = .ok (.getfield 66, 3) := by decide +kernel
theorem dX12_rescale_37 : decode cX12_rescale 37 = .ok (.getfield 163, 3) := by decide +kernel
theorem dX12_rescale_40 : decode cX12_rescale 40 = .ok (.ireturn, 1) := by decide +kernel
set_option maxRecDepth 20000 in
theorem a_X12_rescale_14 {Q : Sg → Int → Prop} {X : Sg → String → Prop} {th : Nat} (K : MD l R p s m args c cX12_rescale 2 RX12 D cA tys A n0 s0 11 208 []) (hQ : CQI p l e R s m args below meth c cX12_rescale D cA A n0 s0 QM σi Q) (hX : CX p l e R s m args below meth c 2 D cA A n0 s0 QM σi X) (hTh : CT p l e R s m args below meth c cX12_rescale 2 D cA A n0 s0 QM σi RX12 X) : ∀ (σ : Sg), w_X12_rescale_14 th Q X σ → RG σ → TY σ → Ext σi σ → kO σ th 12 → JJ p l e R s m args below meth c 2 D cA A n0 s0 QM σ 14 [(0, .ref th)] [] := by
  intro σ h hGσ hYσ hE hth H locs ls hH hl hc
  have B := K.1
  have hl9 := K.2.2.2.2.2.2
  unfold w_X12_rescale_14 at h
  obtain ⟨q9, h⟩ := h
  exact hTh _ _ _ _ _ _ _ _ _ tw_X12_60_62 dX12_rescale_14 dX12_rescale_17 dX12_rescale_18 dX12_rescale_21 hH hl hc q9 h hGσ hYσ hE (by have := K.2.2.2.1; omega) (by have := K.2.2.2.2.1; omega)
set_option maxRecDepth 20000 in
theorem a_X12_rescale_22 {Q : Sg → Int → Prop} {X : Sg → String → Prop} {th : Nat} (K : MD l R p s m args c cX12_rescale 2 RX12 D cA tys A n0 s0 11 208 []) (hQ : CQI p l e R s m args below meth c cX12_rescale D cA A n0 s0 QM σi Q) (hX : CX p l e R s m args below meth c 2 D cA A n0 s0 QM σi X) (hTh : CT p l e R s m args below meth c cX12_rescale 2 D cA A n0 s0 QM σi RX12 X) : ∀ (σ : Sg) (v1 : Int) (g1 : rng v1), w_X12_rescale_22 th Q X σ v1 → RG σ → TY σ → Ext σi σ → kO σ th 12 → JJ p l e R s m args below meth c 2 D cA A n0 s0 QM σ 22 [(0, .ref th), (1, .int (i32 v1))] [] := by
  intro σ v1 g1 h hGσ hYσ hE hth H locs ls hH hl hc
  have B := K.1
  have hl9 := K.2.2.2.2.2.2
  unfold w_X12_rescale_22 at h
  refine lv_aload_n B.1 B.2.1 dX12_rescale_22 rfl (lv_at hl 0 rfl) ?_
  refine f_getp B hH hth (by decide) rfl wu_X12 7 (by decide) wf_X12_49 rfl rfl dX12_rescale_23 ?_
  refine lv_iload_n B.1 B.2.1 dX12_rescale_26 rfl (lv_at hl 1 rfl) ?_
  obtain ⟨a12, ea12, h⟩ := h
  have ka12 : kO σ a12 9 := (hYσ.get hth (by decide)) a12 ea12
  have h := h ka12
  refine W.eq (g2 := F0 m 27 ls [.int (i32 v1), .ref a12]) (by rw [ea12]; rfl) ?_
  refine c_V B hH hl hc K.2.2.1 (C := RX9) (T := TX9) (N := 20) (ci := 9) (As := [.int (i32 v1)]) (ok_X9_beginAgain hl9 K.2.1 σ a12 v1 g1 ka12 hGσ hYσ h) wc_X12_159 1 hd_X9_beginAgain ⟨Nat.le_trans (Nat.le_of_ble_eq_true rfl) K.2.2.2.1, Nat.le_trans (Nat.le_of_ble_eq_true rfl) K.2.2.2.2.1⟩ ka12.1 ka12.2 (by decide) rfl rfl (rest := []) rfl (Nat.le_of_ble_eq_true rfl) dX12_rescale_27 (fun σ11 w hq => ?_) (fun σ9 E9 hx9 => hX σ9 E9 _ _ _ (tb_out K.2.2.2.2.2.1 rfl) hx9.1 hx9.2.1 hx9.2.2.1 (hE.trans hx9.2.2.2))
  obtain ⟨rfl, h, hGσ11, hYσ11, xσ11⟩ := hq
  have h := h xσ11
  intro H locs ls hH hl hc
  refine W.eq (g2 := F0 m 30 ls []) (rfl) ?_
  try dsimp only at h
  refine lv_aload_n B.1 B.2.1 dX12_rescale_30 rfl (lv_at hl 0 rfl) ?_
  refine f_getp B hH (hth.up xσ11) (by decide) rfl wu_X12 7 (by decide) wf_X12_49 rfl rfl dX12_rescale_31 ?_
  obtain ⟨a13, ea13, h⟩ := h
  have ka13 : kO σ11 a13 9 := (hYσ11.get (hth.up xσ11) (by decide)) a13 ea13
  have h := h ka13
  refine W.eq (g2 := F0 m 34 ls [.ref a13]) (by rw [ea13]; rfl) ?_
  refine f_getp B hH ka13 (by decide) rfl wu_X9 2 (by decide) wf_X12_66 rfl rfl dX12_rescale_34 ?_
  obtain ⟨a14, ea14, h⟩ := h
  have ka14 : kO σ11 a14 3 := (hYσ11.get ka13 (by decide)) a14 ea14
  have h := h ka14
  refine W.eq (g2 := F0 m 37 ls [.ref a14]) (by rw [ea14]; rfl) ?_
  refine f_geti B hH ka14 (by decide) rfl wu_X3 4 (by decide) wf_X12_163 rfl rfl dX12_rescale_37 ?_
  exact hQ _ _ _ _ _ _ (hGσ11 _ _) dX12_rescale_40 hH hc h hGσ11 hYσ11 (hE.trans xσ11)
set_option maxRecDepth 20000 in
theorem a_X12_rescale_9 {Q : Sg → Int → Prop} {X : Sg → String → Prop} {th : Nat} (K : MD l R p s m args c cX12_rescale 2 RX12 D cA tys A n0 s0 11 208 []) (hQ : CQI p l e R s m args below meth c cX12_rescale D cA A n0 s0 QM σi Q) (hX : CX p l e R s m args below meth c 2 D cA A n0 s0 QM σi X) (hTh : CT p l e R s m args below meth c cX12_rescale 2 D cA A n0 s0 QM σi RX12 X) : ∀ (σ : Sg) (v1 : Int) (g1 : rng v1), w_X12_rescale_9 th Q X σ v1 → RG σ → TY σ → Ext σi σ → kO σ th 12 → JJ p l e R s m args below meth c 2 D cA A n0 s0 QM σ 9 [(0, .ref th), (1, .int (i32 v1))] [] := by
  intro σ v1 g1 h hGσ hYσ hE hth H locs ls hH hl hc
  have B := K.1
  have hl9 := K.2.2.2.2.2.2
  unfold w_X12_rescale_9 at h
  refine lv_iload_n B.1 B.2.1 dX12_rescale_9 rfl (lv_at hl 1 rfl) ?_
  refine lv_iconst (v := i32 4) B.1 B.2.1 dX12_rescale_10 (by decide) ?_
  refine lv_icmp_le (tgt := 22) B.1 B.2.1 dX12_rescale_11 (by decide) (fun h9 => ?_) (fun h9 => ?_)
  · rw [if_pos ((i32_le g1 (by unfold rng; omega)).mp h9)] at h
    exact a_X12_rescale_22 K hQ hX hTh _ _ g1 h hGσ hYσ hE hth _ _ _ hH (lv_sub (l' := [(0, .ref th), (1, .int (i32 v1))]) hl [0, 1] rfl) hc
  · rw [if_neg (fun q => h9 ((i32_le g1 (by unfold rng; omega)).mpr q))] at h
    exact a_X12_rescale_14 K hQ hX hTh _ h hGσ hYσ hE hth _ _ _ hH (lv_sub (l' := [(0, .ref th)]) hl [0] rfl) hc
set_option maxRecDepth 20000 in
theorem a_X12_rescale_0 {Q : Sg → Int → Prop} {X : Sg → String → Prop} {th : Nat} (K : MD l R p s m args c cX12_rescale 2 RX12 D cA tys A n0 s0 11 208 []) (hQ : CQI p l e R s m args below meth c cX12_rescale D cA A n0 s0 QM σi Q) (hX : CX p l e R s m args below meth c 2 D cA A n0 s0 QM σi X) (hTh : CT p l e R s m args below meth c cX12_rescale 2 D cA A n0 s0 QM σi RX12 X) : ∀ (σ : Sg) (v1 : Int) (g1 : rng v1), w_X12_rescale_0 th Q X σ v1 → RG σ → TY σ → Ext σi σ → kO σ th 12 → JJ p l e R s m args below meth c 2 D cA A n0 s0 QM σ 0 [(0, .ref th), (1, .int (i32 v1))] [] := by
  intro σ v1 g1 h hGσ hYσ hE hth H locs ls hH hl hc
  have B := K.1
  have hl9 := K.2.2.2.2.2.2
  unfold w_X12_rescale_0 at h
  refine lv_aload_n B.1 B.2.1 dX12_rescale_0 rfl (lv_at hl 0 rfl) ?_
  refine W.eq (g2 := F0 m 1 ls [.ref th]) (rfl) ?_
  refine c_V B hH hl hc K.2.2.1 (C := RX12) (T := TX12) (N := 9) (ci := 12) (As := []) (ok_X12_needRun hl9 K.2.1 σ th hth hGσ hYσ h) wc_X12_140 0 hd_X12_needRun ⟨Nat.le_trans (Nat.le_of_ble_eq_true rfl) K.2.2.2.1, Nat.le_trans (Nat.le_of_ble_eq_true rfl) K.2.2.2.2.1⟩ hth.1 hth.2 (by decide) rfl rfl (rest := []) rfl (Nat.le_of_ble_eq_true rfl) dX12_rescale_1 (fun σ15 w hq => ?_) (fun σ9 E9 hx9 => hX σ9 E9 _ _ _ (tb_out K.2.2.2.2.2.1 rfl) hx9.1 hx9.2.1 hx9.2.2.1 (hE.trans hx9.2.2.2))
  obtain ⟨rfl, h, hGσ15, hYσ15, xσ15⟩ := hq
  have h := h xσ15
  intro H locs ls hH hl hc
  refine W.eq (g2 := F0 m 4 ls []) (rfl) ?_
  try dsimp only at h
  refine lv_iload_n B.1 B.2.1 dX12_rescale_4 rfl (lv_at hl 1 rfl) ?_
  refine lv_iconst (v := i32 1) B.1 B.2.1 dX12_rescale_5 (by decide) ?_
  refine lv_icmp_lt (tgt := 14) B.1 B.2.1 dX12_rescale_6 (by decide) (fun h9 => ?_) (fun h9 => ?_)
  · rw [if_pos ((i32_lt g1 (by unfold rng; omega)).mp h9)] at h
    exact a_X12_rescale_14 K hQ hX hTh _ h hGσ15 hYσ15 (hE.trans xσ15) (hth.up xσ15) _ _ _ hH (lv_sub (l' := [(0, .ref th)]) hl [0] rfl) hc
  · rw [if_neg (fun q => h9 ((i32_lt g1 (by unfold rng; omega)).mpr q))] at h
    exact a_X12_rescale_9 K hQ hX hTh _ _ g1 h hGσ15 hYσ15 (hE.trans xσ15) (hth.up xσ15) _ _ _ hH (lv_sub (l' := [(0, .ref th), (1, .int (i32 v1))]) hl [0, 1] rfl) hc
theorem ok_X12_rescale (hl0 : l.stackTraces = false) (hT : TyC cA tys) {Q : Sg → Int → Prop} {X : Sg → String → Prop} (σ : Sg) (th : Nat) (v1 : Int) (g1 : rng v1) (hth : kO σ th 12) (hG : RG σ) (hY : TY σ) (h : wp_X12_rescale th v1 σ Q X) : Ok l D cA tys A yX12_rescale (.code yX12_rescale cX12_rescale 2 (some .int)) 11 208 [.ref th, .int (i32 v1)] σ (QcI σ Q) (QxC σ X) := by
  unfold wp_X12_rescale at h
  exact oc_I hl0 (by decide) (by exact Nat.le_of_ble_eq_true rfl) hT (fun p e R s m args below meth c K hQ hX hTh H locs ls hH hl hc => a_X12_rescale_0 K hQ hX hTh σ v1 g1 h hG hY (Ext.rfl' σ) hth H locs ls hH (lv_sub (l' := [(0, .ref th), (1, .int (i32 v1))]) hl [0, 1] rfl) hc)
theorem dX12_row_0 : decode cX12_row 0 = .ok (.aload_n 0, 1) := by decide +kernel
theorem dX12_row_1 : decode cX12_row 1 = .ok (.iload_n 1, 1) := by decide +kernel
theorem dX12_row_2 : decode cX12_row 2 = .ok (.iload_n 2, 1) := by decide +kernel
theorem dX12_row_3 : decode cX12_row 3 = .ok (.invokevirtual 184, 3) := by decide +kernel
theorem dX12_row_6 : decode cX12_row 6 = .ok (.astore 4, 2) := by decide +kernel
theorem dX12_row_8 : decode cX12_row 8 = .ok (.iload_n 3, 1) := by decide +kernel
theorem dX12_row_9 : decode cX12_row 9 = .ok (.iconst (-1), 1) := by decide +kernel
theorem dX12_row_10 : decode cX12_row 10 = .ok (.if_icmp .lt 18, 3) := by decide +kernel
theorem dX12_row_13 : decode cX12_row 13 = .ok (.iload_n 3, 1) := by decide +kernel
theorem dX12_row_14 : decode cX12_row 14 = .ok (.aload_n 0, 1) := by decide +kernel
theorem dX12_row_15 : decode cX12_row 15 = .ok (.getfield 30, 3) := by decide +kernel
theorem dX12_row_18 : decode cX12_row 18 = .ok (.iload_n 1, 1) := by decide +kernel
theorem dX12_row_19 : decode cX12_row 19 = .ok (.invokevirtual 188, 3) := by decide +kernel
theorem dX12_row_22 : decode cX12_row 22 = .ok (.getfield 110, 3) := by decide +kernel
theorem dX12_row_25 : decode cX12_row 25 = .ok (.if_icmp .lt 11, 3) := by decide +kernel
theorem dX12_row_28 : decode cX12_row 28 = .ok (.new 92, 3) := by decide +kernel
theorem dX12_row_31 : decode cX12_row 31 = .ok (.dup, 1) := by decide +kernel
theorem dX12_row_32 : decode cX12_row 32 = .ok (.invokespecial 94, 3) := by decide +kernel
theorem dX12_row_35 : decode cX12_row 35 = .ok (.athrow, 1) := by decide +kernel
theorem dX12_row_36 : decode cX12_row 36 = .ok (.iload_n 3, 1) := by decide +kernel
theorem dX12_row_37 : decode cX12_row 37 = .ok (.iconst (-1), 1) := by decide +kernel
theorem dX12_row_38 : decode cX12_row 38 = .ok (.if_icmp .ne 11, 3) := by decide +kernel
theorem dX12_row_41 : decode cX12_row 41 = .ok (.aload 4, 2) := by decide +kernel
theorem dX12_row_43 : decode cX12_row 43 = .ok (.getfield 192, 3) := by decide +kernel
theorem dX12_row_46 : decode cX12_row 46 = .ok (.goto 10, 3) := by decide +kernel
theorem dX12_row_49 : decode cX12_row 49 = .ok (.aload 4, 2) := by decide +kernel
theorem dX12_row_51 : decode cX12_row 51 = .ok (.getfield 198, 3) := by decide +kernel
theorem dX12_row_54 : decode cX12_row 54 = .ok (.iload_n 3, 1) := by decide +kernel
theorem dX12_row_55 : decode cX12_row 55 = .ok (.laload, 1) := by decide +kernel
theorem dX12_row_56 : decode cX12_row 56 = .ok (.lreturn, 1) := by decide +kernel
set_option maxRecDepth 20000 in
theorem a_X12_row_28 {Q : Sg → Int64 → Prop} {X : Sg → String → Prop} {th : Nat} (K : MD l R p s m args c cX12_row 5 RX12 D cA tys A n0 s0 8 134 []) (hQ : CQJ p l e R s m args below meth c cX12_row D cA A n0 s0 QM σi Q) (hX : CX p l e R s m args below meth c 5 D cA A n0 s0 QM σi X) (hTh : CT p l e R s m args below meth c cX12_row 5 D cA A n0 s0 QM σi RX12 X) : ∀ (σ : Sg), w_X12_row_28 th Q X σ → RG σ → TY σ → Ext σi σ → kO σ th 12 → JJ p l e R s m args below meth c 5 D cA A n0 s0 QM σ 28 [(0, .ref th)] [] := by
  intro σ h hGσ hYσ hE hth H locs ls hH hl hc
  have B := K.1
  have hl9 := K.2.2.2.2.2.2
  unfold w_X12_row_28 at h
  obtain ⟨q9, h⟩ := h
  exact hTh _ _ _ _ _ _ _ _ _ tw_X12_92_94 dX12_row_28 dX12_row_31 dX12_row_32 dX12_row_35 hH hl hc q9 h hGσ hYσ hE (by have := K.2.2.2.1; omega) (by have := K.2.2.2.2.1; omega)
set_option maxRecDepth 20000 in
theorem a_X12_row_56 {Q : Sg → Int64 → Prop} {X : Sg → String → Prop} {th : Nat} (K : MD l R p s m args c cX12_row 5 RX12 D cA tys A n0 s0 8 134 []) (hQ : CQJ p l e R s m args below meth c cX12_row D cA A n0 s0 QM σi Q) (hX : CX p l e R s m args below meth c 5 D cA A n0 s0 QM σi X) (hTh : CT p l e R s m args below meth c cX12_row 5 D cA A n0 s0 QM σi RX12 X) : ∀ (σ : Sg) (u0 : Int64), w_X12_row_56 th Q X σ u0 → RG σ → TY σ → Ext σi σ → kO σ th 12 → JJ p l e R s m args below meth c 5 D cA A n0 s0 QM σ 56 [(0, .ref th)] [.long u0] := by
  intro σ u0 h hGσ hYσ hE hth H locs ls hH hl hc
  have B := K.1
  have hl9 := K.2.2.2.2.2.2
  unfold w_X12_row_56 at h
  exact hQ _ _ _ _ _ _ dX12_row_56 hH hc h hGσ hYσ hE
set_option maxRecDepth 20000 in
theorem a_X12_row_49 {Q : Sg → Int64 → Prop} {X : Sg → String → Prop} {th : Nat} (K : MD l R p s m args c cX12_row 5 RX12 D cA tys A n0 s0 8 134 []) (hQ : CQJ p l e R s m args below meth c cX12_row D cA A n0 s0 QM σi Q) (hX : CX p l e R s m args below meth c 5 D cA A n0 s0 QM σi X) (hTh : CT p l e R s m args below meth c cX12_row 5 D cA A n0 s0 QM σi RX12 X) : ∀ (σ : Sg) (v3 : Int) (v4 : Option Nat) (g3 : rng v3) (g4 : tyV σ 0 v4), w_X12_row_49 th Q X σ v3 v4 → RG σ → TY σ → Ext σi σ → kO σ th 12 → JJ p l e R s m args below meth c 5 D cA A n0 s0 QM σ 49 [(0, .ref th), (3, .int (i32 v3)), (4, va_rf v4)] [] := by
  intro σ v3 v4 g3 g4 h hGσ hYσ hE hth H locs ls hH hl hc
  have B := K.1
  have hl9 := K.2.2.2.2.2.2
  unfold w_X12_row_49 at h
  refine lv_aloadQ B.1 B.2.1 dX12_row_49 (lv_at hl 2 rfl) ?_
  obtain ⟨a19, ea19, h⟩ := h
  have ka19 : kO σ a19 0 := g4 a19 ea19
  have h := h ka19
  refine W.eq (g2 := F0 m 51 ls [.ref a19]) (by rw [ea19]; rfl) ?_
  refine f_getp B hH ka19 (by decide) rfl wu_X0 0 (by decide) wf_X12_198 rfl rfl dX12_row_51 ?_
  refine lv_iload_n B.1 B.2.1 dX12_row_54 rfl (lv_at hl 1 rfl) ?_
  obtain ⟨a20, ea20, h⟩ := h
  have ka20 : kO σ a20 101 := (hYσ.get ka19 (by decide)) a20 ea20
  have h := h ka20
  obtain ⟨q1, h⟩ := h
  refine W.eq (g2 := F0 m 55 ls [.int (i32 v3), .ref a20]) (by rw [ea20]; rfl) ?_
  refine y_lald B K.2.1 hH ka20 q1 dX12_row_55 (hYσ.2 _) ?_
  exact a_X12_row_56 K hQ hX hTh _ _ h hGσ hYσ hE hth _ _ _ hH (lv_sub (l' := [(0, .ref th)]) hl [0] rfl) hc
set_option maxRecDepth 20000 in
theorem a_X12_row_41 {Q : Sg → Int64 → Prop} {X : Sg → String → Prop} {th : Nat} (K : MD l R p s m args c cX12_row 5 RX12 D cA tys A n0 s0 8 134 []) (hQ : CQJ p l e R s m args below meth c cX12_row D cA A n0 s0 QM σi Q) (hX : CX p l e R s m args below meth c 5 D cA A n0 s0 QM σi X) (hTh : CT p l e R s m args below meth c cX12_row 5 D cA A n0 s0 QM σi RX12 X) : ∀ (σ : Sg) (v4 : Option Nat) (g4 : tyV σ 0 v4), w_X12_row_41 th Q X σ v4 → RG σ → TY σ → Ext σi σ → kO σ th 12 → JJ p l e R s m args below meth c 5 D cA A n0 s0 QM σ 41 [(0, .ref th), (4, va_rf v4)] [] := by
  intro σ v4 g4 h hGσ hYσ hE hth H locs ls hH hl hc
  have B := K.1
  have hl9 := K.2.2.2.2.2.2
  unfold w_X12_row_41 at h
  refine lv_aloadQ B.1 B.2.1 dX12_row_41 (lv_at hl 1 rfl) ?_
  obtain ⟨a21, ea21, h⟩ := h
  have ka21 : kO σ a21 0 := g4 a21 ea21
  have h := h ka21
  refine W.eq (g2 := F0 m 43 ls [.ref a21]) (by rw [ea21]; rfl) ?_
  refine f_getl B hH ka21 (by decide) rfl wu_X0 5 (by decide) wf_X12_192 rfl rfl dX12_row_43 ?_
  refine lv_goto (tgt := 56) B.1 B.2.1 dX12_row_46 (by decide) ?_
  exact a_X12_row_56 K hQ hX hTh _ _ h hGσ hYσ hE hth _ _ _ hH (lv_sub (l' := [(0, .ref th)]) hl [0] rfl) hc
set_option maxRecDepth 20000 in
theorem a_X12_row_36 {Q : Sg → Int64 → Prop} {X : Sg → String → Prop} {th : Nat} (K : MD l R p s m args c cX12_row 5 RX12 D cA tys A n0 s0 8 134 []) (hQ : CQJ p l e R s m args below meth c cX12_row D cA A n0 s0 QM σi Q) (hX : CX p l e R s m args below meth c 5 D cA A n0 s0 QM σi X) (hTh : CT p l e R s m args below meth c cX12_row 5 D cA A n0 s0 QM σi RX12 X) : ∀ (σ : Sg) (v3 : Int) (v4 : Option Nat) (g3 : rng v3) (g4 : tyV σ 0 v4), w_X12_row_36 th Q X σ v3 v4 → RG σ → TY σ → Ext σi σ → kO σ th 12 → JJ p l e R s m args below meth c 5 D cA A n0 s0 QM σ 36 [(0, .ref th), (3, .int (i32 v3)), (4, va_rf v4)] [] := by
  intro σ v3 v4 g3 g4 h hGσ hYσ hE hth H locs ls hH hl hc
  have B := K.1
  have hl9 := K.2.2.2.2.2.2
  unfold w_X12_row_36 at h
  refine lv_iload_n B.1 B.2.1 dX12_row_36 rfl (lv_at hl 1 rfl) ?_
  refine lv_iconst (v := i32 (-1)) B.1 B.2.1 dX12_row_37 (by decide) ?_
  refine lv_icmp_ne (tgt := 49) B.1 B.2.1 dX12_row_38 (by decide) (fun h9 => ?_) (fun h9 => ?_)
  · rw [if_pos (fun q => h9 ((i32_eq g3 (by unfold rng; omega)).mpr q))] at h
    exact a_X12_row_49 K hQ hX hTh _ _ _ g3 g4 h hGσ hYσ hE hth _ _ _ hH (lv_sub (l' := [(0, .ref th), (3, .int (i32 v3)), (4, va_rf v4)]) hl [0, 1, 2] rfl) hc
  · rw [if_neg (fun q => q ((i32_eq g3 (by unfold rng; omega)).mp h9))] at h
    exact a_X12_row_41 K hQ hX hTh _ _ g4 h hGσ hYσ hE hth _ _ _ hH (lv_sub (l' := [(0, .ref th), (4, va_rf v4)]) hl [0, 2] rfl) hc
set_option maxRecDepth 20000 in
theorem a_X12_row_13 {Q : Sg → Int64 → Prop} {X : Sg → String → Prop} {th : Nat} (K : MD l R p s m args c cX12_row 5 RX12 D cA tys A n0 s0 8 134 []) (hQ : CQJ p l e R s m args below meth c cX12_row D cA A n0 s0 QM σi Q) (hX : CX p l e R s m args below meth c 5 D cA A n0 s0 QM σi X) (hTh : CT p l e R s m args below meth c cX12_row 5 D cA A n0 s0 QM σi RX12 X) : ∀ (σ : Sg) (v1 : Int) (v3 : Int) (v4 : Option Nat) (g1 : rng v1) (g3 : rng v3) (g4 : tyV σ 0 v4), w_X12_row_13 th Q X σ v1 v3 v4 → RG σ → TY σ → Ext σi σ → kO σ th 12 → JJ p l e R s m args below meth c 5 D cA A n0 s0 QM σ 13 [(0, .ref th), (1, .int (i32 v1)), (3, .int (i32 v3)), (4, va_rf v4)] [] := by
  intro σ v1 v3 v4 g1 g3 g4 h hGσ hYσ hE hth H locs ls hH hl hc
  have B := K.1
  have hl9 := K.2.2.2.2.2.2
  unfold w_X12_row_13 at h
  refine lv_iload_n B.1 B.2.1 dX12_row_13 rfl (lv_at hl 2 rfl) ?_
  refine lv_aload_n B.1 B.2.1 dX12_row_14 rfl (lv_at hl 0 rfl) ?_
  refine f_getp B hH hth (by decide) rfl wu_X12 4 (by decide) wf_X12_30 rfl rfl dX12_row_15 ?_
  refine lv_iload_n B.1 B.2.1 dX12_row_18 rfl (lv_at hl 1 rfl) ?_
  obtain ⟨a24, ea24, h⟩ := h
  have ka24 : kO σ a24 4 := (hYσ.get hth (by decide)) a24 ea24
  have h := h ka24
  refine W.eq (g2 := F0 m 19 ls [.int (i32 v1), .ref a24, .int (i32 v3)]) (by rw [ea24]; rfl) ?_
  refine c_V B hH hl hc K.2.2.1 (C := RX4) (T := TX4) (N := 14) (ci := 4) (As := [.int (i32 v1)]) (ok_X4_outputOp hl9 K.2.1 σ a24 v1 g1 ka24 hGσ hYσ h) wc_X12_188 1 hd_X4_outputOp ⟨Nat.le_trans (Nat.le_of_ble_eq_true rfl) K.2.2.2.1, Nat.le_trans (Nat.le_of_ble_eq_true rfl) K.2.2.2.2.1⟩ ka24.1 ka24.2 (by decide) rfl rfl (rest := [.int (i32 v3)]) rfl (Nat.le_of_ble_eq_true rfl) dX12_row_19 (fun σ22 w hq => ?_) (fun σ9 E9 hx9 => hX σ9 E9 _ _ _ (tb_out K.2.2.2.2.2.1 rfl) hx9.1 hx9.2.1 hx9.2.2.1 (hE.trans hx9.2.2.2))
  obtain ⟨r23, rfl, tr23, h, hGσ22, hYσ22, xσ22⟩ := hq
  have h := h xσ22 tr23
  intro H locs ls hH hl hc
  refine W.eq (g2 := F0 m 22 ls [va_rf r23, .int (i32 v3)]) (rfl) ?_
  try dsimp only at h
  obtain ⟨a25, ea25, h⟩ := h
  have ka25 : kO σ22 a25 5 := tr23 a25 ea25
  have h := h ka25
  refine W.eq (g2 := F0 m 22 ls [.ref a25, .int (i32 v3)]) (by rw [ea25]; rfl) ?_
  refine f_geti B hH ka25 (by decide) rfl wu_X5 3 (by decide) wf_X12_110 rfl rfl dX12_row_22 ?_
  refine lv_icmp_lt (tgt := 36) B.1 B.2.1 dX12_row_25 (by decide) (fun h9 => ?_) (fun h9 => ?_)
  · rw [if_pos ((i32_lt g3 (hGσ22 _ _)).mp h9)] at h
    exact a_X12_row_36 K hQ hX hTh _ _ _ g3 (g4.up xσ22) h hGσ22 hYσ22 (hE.trans xσ22) (hth.up xσ22) _ _ _ hH (lv_sub (l' := [(0, .ref th), (3, .int (i32 v3)), (4, va_rf v4)]) hl [0, 2, 3] rfl) hc
  · rw [if_neg (fun q => h9 ((i32_lt g3 (hGσ22 _ _)).mpr q))] at h
    exact a_X12_row_28 K hQ hX hTh _ h hGσ22 hYσ22 (hE.trans xσ22) (hth.up xσ22) _ _ _ hH (lv_sub (l' := [(0, .ref th)]) hl [0] rfl) hc
set_option maxRecDepth 20000 in
theorem a_X12_row_0 {Q : Sg → Int64 → Prop} {X : Sg → String → Prop} {th : Nat} (K : MD l R p s m args c cX12_row 5 RX12 D cA tys A n0 s0 8 134 []) (hQ : CQJ p l e R s m args below meth c cX12_row D cA A n0 s0 QM σi Q) (hX : CX p l e R s m args below meth c 5 D cA A n0 s0 QM σi X) (hTh : CT p l e R s m args below meth c cX12_row 5 D cA A n0 s0 QM σi RX12 X) : ∀ (σ : Sg) (v1 : Int) (v2 : Int) (v3 : Int) (g1 : rng v1) (g2 : rng v2) (g3 : rng v3), w_X12_row_0 th Q X σ v1 v2 v3 → RG σ → TY σ → Ext σi σ → kO σ th 12 → JJ p l e R s m args below meth c 5 D cA A n0 s0 QM σ 0 [(0, .ref th), (1, .int (i32 v1)), (2, .int (i32 v2)), (3, .int (i32 v3))] [] := by
  intro σ v1 v2 v3 g1 g2 g3 h hGσ hYσ hE hth H locs ls hH hl hc
  have B := K.1
  have hl9 := K.2.2.2.2.2.2
  unfold w_X12_row_0 at h
  refine lv_aload_n B.1 B.2.1 dX12_row_0 rfl (lv_at hl 0 rfl) ?_
  refine lv_iload_n B.1 B.2.1 dX12_row_1 rfl (lv_at hl 1 rfl) ?_
  refine lv_iload_n B.1 B.2.1 dX12_row_2 rfl (lv_at hl 2 rfl) ?_
  refine W.eq (g2 := F0 m 3 ls [.int (i32 v2), .int (i32 v1), .ref th]) (rfl) ?_
  refine c_V B hH hl hc K.2.2.1 (C := RX12) (T := TX12) (N := 9) (ci := 12) (As := [.int (i32 v1), .int (i32 v2)]) (ok_X12_visibleRow hl9 K.2.1 σ th v1 v2 g1 g2 hth hGσ hYσ h) wc_X12_184 2 hd_X12_visibleRow ⟨Nat.le_trans (Nat.le_of_ble_eq_true rfl) K.2.2.2.1, Nat.le_trans (Nat.le_of_ble_eq_true rfl) K.2.2.2.2.1⟩ hth.1 hth.2 (by decide) rfl rfl (rest := []) rfl (Nat.le_of_ble_eq_true rfl) dX12_row_3 (fun σ26 w hq => ?_) (fun σ9 E9 hx9 => hX σ9 E9 _ _ _ (tb_out K.2.2.2.2.2.1 rfl) hx9.1 hx9.2.1 hx9.2.2.1 (hE.trans hx9.2.2.2))
  obtain ⟨r27, rfl, tr27, h, hGσ26, hYσ26, xσ26⟩ := hq
  have h := h xσ26 tr27
  intro H locs ls hH hl hc
  refine W.eq (g2 := F0 m 6 ls [va_rf r27]) (rfl) ?_
  try dsimp only at h
  refine lv_astoreQ (lv' := [(4, va_rf r27), (0, .ref th), (1, .int (i32 v1)), (2, .int (i32 v2)), (3, .int (i32 v3))]) B.1 B.2.1 dX12_row_6 hl (by decide) rfl (fun ls hl => ?_)
  refine lv_iload_n B.1 B.2.1 dX12_row_8 rfl (lv_at hl 4 rfl) ?_
  refine lv_iconst (v := i32 (-1)) B.1 B.2.1 dX12_row_9 (by decide) ?_
  refine lv_icmp_lt (tgt := 28) B.1 B.2.1 dX12_row_10 (by decide) (fun h9 => ?_) (fun h9 => ?_)
  · rw [if_pos ((i32_lt g3 (by unfold rng; omega)).mp h9)] at h
    exact a_X12_row_28 K hQ hX hTh _ h hGσ26 hYσ26 (hE.trans xσ26) (hth.up xσ26) _ _ _ hH (lv_sub (l' := [(0, .ref th)]) hl [1] rfl) hc
  · rw [if_neg (fun q => h9 ((i32_lt g3 (by unfold rng; omega)).mpr q))] at h
    exact a_X12_row_13 K hQ hX hTh _ _ _ _ g1 g3 tr27 h hGσ26 hYσ26 (hE.trans xσ26) (hth.up xσ26) _ _ _ hH (lv_sub (l' := [(0, .ref th), (1, .int (i32 v1)), (3, .int (i32 v3)), (4, va_rf r27)]) hl [1, 2, 4, 0] rfl) hc
theorem ok_X12_row (hl0 : l.stackTraces = false) (hT : TyC cA tys) {Q : Sg → Int64 → Prop} {X : Sg → String → Prop} (σ : Sg) (th : Nat) (v1 : Int) (v2 : Int) (v3 : Int) (g1 : rng v1) (g2 : rng v2) (g3 : rng v3) (hth : kO σ th 12) (hG : RG σ) (hY : TY σ) (h : wp_X12_row th v1 v2 v3 σ Q X) : Ok l D cA tys A yX12_row (.code yX12_row cX12_row 5 (some .long)) 8 134 [.ref th, .int (i32 v1), .int (i32 v2), .int (i32 v3)] σ (QcJ σ Q) (QxC σ X) := by
  unfold wp_X12_row at h
  exact oc_J hl0 (by decide) (by exact Nat.le_of_ble_eq_true rfl) hT (fun p e R s m args below meth c K hQ hX hTh H locs ls hH hl hc => a_X12_row_0 K hQ hX hTh σ v1 v2 v3 g1 g2 g3 h hG hY (Ext.rfl' σ) hth H locs ls hH (lv_sub (l' := [(0, .ref th), (1, .int (i32 v1)), (2, .int (i32 v2)), (3, .int (i32 v3))]) hl [0, 1, 2, 3] rfl) hc)
theorem dX9_begin_0 : decode cX9_begin 0 = .ok (.aload_n 0, 1) := by decide +kernel
theorem dX9_begin_1 : decode cX9_begin 1 = .ok (.invokevirtual 97, 3) := by decide +kernel
theorem dX9_begin_4 : decode cX9_begin 4 = .ok (.aload_n 0, 1) := by decide +kernel
theorem dX9_begin_5 : decode cX9_begin 5 = .ok (.aload_n 1, 1) := by decide +kernel
theorem dX9_begin_6 : decode cX9_begin 6 = .ok (.putfield 100, 3) := by decide +kernel
theorem dX9_begin_9 : decode cX9_begin 9 = .ok (.aload_n 0, 1) := by decide +kernel
theorem dX9_begin_10 : decode cX9_begin 10 = .ok (.getfield 57, 3) := by decide +kernel
theorem dX9_begin_13 : decode cX9_begin 13 = .ok (.aload_n 1, 1) := by decide +kernel
theorem dX9_begin_14 : decode cX9_begin 14 = .ok (.putfield 104, 3) := by decide +kernel
theorem dX9_begin_17 : decode cX9_begin 17 = .ok (.aload_n 0, 1) := by decide +kernel
theorem dX9_begin_18 : decode cX9_begin 18 = .ok (.iload_n 3, 1) := by decide +kernel
theorem dX9_begin_19 : decode cX9_begin 19 = .ok (.putfield 105, 3) := by decide +kernel
theorem dX9_begin_22 : decode cX9_begin 22 = .ok (.aload_n 0, 1) := by decide +kernel
theorem dX9_begin_23 : decode cX9_begin 23 = .ok (.lload 4, 2) := by decide +kernel
theorem dX9_begin_25 : decode cX9_begin 25 = .ok (.putfield 108, 3) := by decide +kernel
theorem dX9_begin_28 : decode cX9_begin 28 = .ok (.aload_n 0, 1) := by decide +kernel
theorem dX9_begin_29 : decode cX9_begin 29 = .ok (.iload_n 2, 1) := by decide +kernel
theorem dX9_begin_30 : decode cX9_begin 30 = .ok (.invokevirtual 112, 3) := by decide +kernel
theorem dX9_begin_33 : decode cX9_begin 33 = .ok (.return_, 1) := by decide +kernel
set_option maxRecDepth 20000 in
theorem a_X9_begin_0 {Q : Sg → Unit → Prop} {X : Sg → String → Prop} {th : Nat} (K : MD l R p s m args c cX9_begin 6 RX9 D cA tys A n0 s0 6 126 []) (hQ : CQV p l e R s m args below meth c cX9_begin D cA A n0 s0 QM σi Q) (hX : CX p l e R s m args below meth c 6 D cA A n0 s0 QM σi X) (hTh : CT p l e R s m args below meth c cX9_begin 6 D cA A n0 s0 QM σi RX9 X) : ∀ (σ : Sg) (v1 : Option Nat) (v2 : Int) (v3 : Int) (v4 : Int64) (g1 : tyV σ 4 v1) (g2 : rng v2) (g3 : rng v3), w_X9_begin_0 th Q X σ v1 v2 v3 v4 → RG σ → TY σ → Ext σi σ → kO σ th 9 → JJ p l e R s m args below meth c 6 D cA A n0 s0 QM σ 0 [(0, .ref th), (1, va_rf v1), (2, .int (i32 v2)), (3, .int (i32 v3)), (4, .long v4)] [] := by
  intro σ v1 v2 v3 v4 g1 g2 g3 h hGσ hYσ hE hth H locs ls hH hl hc
  have B := K.1
  have hl9 := K.2.2.2.2.2.2
  unfold w_X9_begin_0 at h
  refine lv_aload_n B.1 B.2.1 dX9_begin_0 rfl (lv_at hl 0 rfl) ?_
  refine W.eq (g2 := F0 m 1 ls [.ref th]) (rfl) ?_
  refine c_V B hH hl hc K.2.2.1 (C := RX9) (T := TX9) (N := 20) (ci := 9) (As := []) (ok_X9_end hl9 K.2.1 σ th hth hGσ hYσ h) wc_X9_97 0 hd_X9_end ⟨Nat.le_trans (Nat.le_of_ble_eq_true rfl) K.2.2.2.1, Nat.le_trans (Nat.le_of_ble_eq_true rfl) K.2.2.2.2.1⟩ hth.1 hth.2 (by decide) rfl rfl (rest := []) rfl (Nat.le_of_ble_eq_true rfl) dX9_begin_1 (fun σ15 w hq => ?_) (fun σ9 E9 hx9 => hX σ9 E9 _ _ _ (tb_out K.2.2.2.2.2.1 rfl) hx9.1 hx9.2.1 hx9.2.2.1 (hE.trans hx9.2.2.2))
  obtain ⟨rfl, h, hGσ15, hYσ15, xσ15⟩ := hq
  have h := h xσ15
  intro H locs ls hH hl hc
  refine W.eq (g2 := F0 m 4 ls []) (rfl) ?_
  try dsimp only at h
  refine lv_aload_n B.1 B.2.1 dX9_begin_4 rfl (lv_at hl 0 rfl) ?_
  refine lv_aload_nQ B.1 B.2.1 dX9_begin_5 rfl (lv_at hl 1 rfl) ?_
  obtain ⟨σ16, eσ16⟩ : ∃ z, z = pP σ15 th 9 v1 := ⟨_, rfl⟩
  have h := h σ16 eσ16
  refine W.eq (g2 := F0 m 6 ls [va_rf v1, .ref th]) (rfl) ?_
  refine f_putp B hH (hth.up xσ15) (by decide) rfl wu_X9 tyX9 tyX9_ok nmX9 9 (by decide) wf_X9_100 rfl (r := v1) (ty := .object "StreamHouse$Job") rfl rfl rfl (nrO _ _) (ftO _ _) dX9_begin_6 (fun H locs hH => ?_)
  have hH : Hd D cA A s (pP σ15 th 9 v1) H locs := hH
  rw [← eσ16] at hH
  have hGσ16 : RG σ16 := by rw [eσ16]; exact hGσ15.pP
  have hYσ16 : TY σ16 := by rw [eσ16]; exact hYσ15.pP (hth.up xσ15) (d := 4) (by decide) (g1.up xσ15)
  have xσ16 : Ext σ15 σ16 := by rw [eσ16]; exact Ext.pP
  have hc : CB n0 s0 σ16 := by rw [eσ16]; exact hc
  rw [show gc σ15 = gc σ16 by rw [eσ16]; try rfl, show gs σ15 = gs σ16 by rw [eσ16]; try rfl]
  refine lv_aload_n B.1 B.2.1 dX9_begin_9 rfl (lv_at hl 0 rfl) ?_
  refine f_getp B hH (hth.up (xσ15.trans xσ16)) (by decide) rfl wu_X9 1 (by decide) wf_X9_57 rfl rfl dX9_begin_10 ?_
  refine lv_aload_nQ B.1 B.2.1 dX9_begin_13 rfl (lv_at hl 1 rfl) ?_
  obtain ⟨a17, ea17, h⟩ := h
  have ka17 : kO σ16 a17 11 := (hYσ16.get (hth.up (xσ15.trans xσ16)) (by decide)) a17 ea17
  have h := h ka17
  obtain ⟨σ18, eσ18⟩ : ∃ z, z = pP σ16 a17 5 v1 := ⟨_, rfl⟩
  have h := h σ18 eσ18
  refine W.eq (g2 := F0 m 14 ls [va_rf v1, .ref a17]) (by rw [ea17]; rfl) ?_
  refine f_putp B hH ka17 (by decide) rfl wu_X11 tyX11 tyX11_ok nmX11 5 (by decide) wf_X9_104 rfl (r := v1) (ty := .object "StreamHouse$Job") rfl rfl rfl (nrO _ _) (ftO _ _) dX9_begin_14 (fun H locs hH => ?_)
  have hH : Hd D cA A s (pP σ16 a17 5 v1) H locs := hH
  rw [← eσ18] at hH
  have hGσ18 : RG σ18 := by rw [eσ18]; exact hGσ16.pP
  have hYσ18 : TY σ18 := by rw [eσ18]; exact hYσ16.pP ka17 (d := 4) (by decide) (g1.up (xσ15.trans xσ16))
  have xσ18 : Ext σ16 σ18 := by rw [eσ18]; exact Ext.pP
  have hc : CB n0 s0 σ18 := by rw [eσ18]; exact hc
  rw [show gc σ16 = gc σ18 by rw [eσ18]; try rfl, show gs σ16 = gs σ18 by rw [eσ18]; try rfl]
  refine lv_aload_n B.1 B.2.1 dX9_begin_17 rfl (lv_at hl 0 rfl) ?_
  refine lv_iload_n B.1 B.2.1 dX9_begin_18 rfl (lv_at hl 3 rfl) ?_
  obtain ⟨σ19, eσ19⟩ : ∃ z, z = pI σ18 th 13 v3 := ⟨_, rfl⟩
  have h := h σ19 eσ19
  refine f_puti B hH (hth.up (xσ15.trans (xσ16.trans xσ18))) (by decide) rfl wu_X9 tyX9 tyX9_ok nmX9 13 (by decide) wf_X9_105 rfl (ty := .int) rfl rfl rfl rfl rfl dX9_begin_19 (fun H locs hH => ?_)
  have hH : Hd D cA A s (pI σ18 th 13 v3) H locs := hH
  rw [← eσ19] at hH
  have hGσ19 : RG σ19 := by rw [eσ19]; exact hGσ18.pI g3
  have hYσ19 : TY σ19 := by rw [eσ19]; exact hYσ18.pI
  have xσ19 : Ext σ18 σ19 := by rw [eσ19]; exact Ext.pI
  have hc : CB n0 s0 σ19 := by rw [eσ19]; exact hc
  rw [show gc σ18 = gc σ19 by rw [eσ19]; try rfl, show gs σ18 = gs σ19 by rw [eσ19]; try rfl]
  refine lv_aload_n B.1 B.2.1 dX9_begin_22 rfl (lv_at hl 0 rfl) ?_
  refine lv_lload B.1 B.2.1 dX9_begin_23 (lv_at hl 4 rfl) ?_
  obtain ⟨σ20, eσ20⟩ : ∃ z, z = pJ σ19 th 15 v4 := ⟨_, rfl⟩
  have h := h σ20 eσ20
  refine f_putl B hH (hth.up (xσ15.trans (xσ16.trans (xσ18.trans xσ19)))) (by decide) rfl wu_X9 tyX9 tyX9_ok nmX9 15 (by decide) wf_X9_108 rfl (ty := .long) rfl rfl rfl rfl rfl dX9_begin_25 (fun H locs hH => ?_)
  have hH : Hd D cA A s (pJ σ19 th 15 v4) H locs := hH
  rw [← eσ20] at hH
  have hGσ20 : RG σ20 := by rw [eσ20]; exact hGσ19.pJ
  have hYσ20 : TY σ20 := by rw [eσ20]; exact hYσ19.pJ
  have xσ20 : Ext σ19 σ20 := by rw [eσ20]; exact Ext.pJ
  have hc : CB n0 s0 σ20 := by rw [eσ20]; exact hc
  rw [show gc σ19 = gc σ20 by rw [eσ20]; try rfl, show gs σ19 = gs σ20 by rw [eσ20]; try rfl]
  refine lv_aload_n B.1 B.2.1 dX9_begin_28 rfl (lv_at hl 0 rfl) ?_
  refine lv_iload_n B.1 B.2.1 dX9_begin_29 rfl (lv_at hl 2 rfl) ?_
  refine W.eq (g2 := F0 m 30 ls [.int (i32 v2), .ref th]) (rfl) ?_
  refine c_V B hH hl hc K.2.2.1 (C := RX9) (T := TX9) (N := 20) (ci := 9) (As := [.int (i32 v2)]) (ok_X9_layOut hl9 K.2.1 σ20 th v2 g2 (hth.up (xσ15.trans (xσ16.trans (xσ18.trans (xσ19.trans xσ20))))) hGσ20 hYσ20 h) wc_X9_112 1 hd_X9_layOut ⟨Nat.le_trans (Nat.le_of_ble_eq_true rfl) K.2.2.2.1, Nat.le_trans (Nat.le_of_ble_eq_true rfl) K.2.2.2.2.1⟩ (hth.up (xσ15.trans (xσ16.trans (xσ18.trans (xσ19.trans xσ20))))).1 (hth.up (xσ15.trans (xσ16.trans (xσ18.trans (xσ19.trans xσ20))))).2 (by decide) rfl rfl (rest := []) rfl (Nat.le_of_ble_eq_true rfl) dX9_begin_30 (fun σ21 w hq => ?_) (fun σ9 E9 hx9 => hX σ9 E9 _ _ _ (tb_out K.2.2.2.2.2.1 rfl) hx9.1 hx9.2.1 hx9.2.2.1 ((((((hE.trans xσ15).trans xσ16).trans xσ18).trans xσ19).trans xσ20).trans hx9.2.2.2))
  obtain ⟨rfl, h, hGσ21, hYσ21, xσ21⟩ := hq
  have h := h xσ21
  intro H locs ls hH hl hc
  refine W.eq (g2 := F0 m 33 ls []) (rfl) ?_
  try dsimp only at h
  exact hQ _ _ _ _ _ dX9_begin_33 hH hc h hGσ21 hYσ21 ((((((hE.trans xσ15).trans xσ16).trans xσ18).trans xσ19).trans xσ20).trans xσ21)
theorem ok_X9_begin (hl0 : l.stackTraces = false) (hT : TyC cA tys) {Q : Sg → Unit → Prop} {X : Sg → String → Prop} (σ : Sg) (th : Nat) (v1 : Option Nat) (v2 : Int) (v3 : Int) (v4 : Int64) (g1 : tyV σ 4 v1) (g2 : rng v2) (g3 : rng v3) (hth : kO σ th 9) (hG : RG σ) (hY : TY σ) (h : wp_X9_begin th v1 v2 v3 v4 σ Q X) : Ok l D cA tys A yX9_begin (.code yX9_begin cX9_begin 6 none) 6 126 [.ref th, va_rf v1, .int (i32 v2), .int (i32 v3), .long v4] σ (QcV σ Q) (QxC σ X) := by
  unfold wp_X9_begin at h
  exact oc_V hl0 (by decide) (by cases v1 <;> exact Nat.le_of_ble_eq_true rfl) hT (fun p e R s m args below meth c K hQ hX hTh hin9 H locs ls hH hl hc => a_X9_begin_0 K hQ hX hTh σ v1 v2 v3 v4 g1 g2 g3 h hG hY (Ext.rfl' σ) hth H locs ls hH (lv_sub (l' := [(0, .ref th), (1, va_rf v1), (2, .int (i32 v2)), (3, .int (i32 v3)), (4, .long v4)]) hl [0, 1, 2, 3, 4] (by cases v1 <;> rfl)) hc)
theorem dX12_start_0 : decode cX12_start 0 = .ok (.aload_n 0, 1) := by decide +kernel
theorem dX12_start_1 : decode cX12_start 1 = .ok (.getfield 30, 3) := by decide +kernel
theorem dX12_start_4 : decode cX12_start 4 = .ok (.getfield 89, 3) := by decide +kernel
theorem dX12_start_7 : decode cX12_start 7 = .ok (.ifCond .eq 16, 3) := by decide +kernel
theorem dX12_start_10 : decode cX12_start 10 = .ok (.aload_n 0, 1) := by decide +kernel
theorem dX12_start_11 : decode cX12_start 11 = .ok (.getfield 49, 3) := by decide +kernel
theorem dX12_start_14 : decode cX12_start 14 = .ok (.getfield 66, 3) := by decide +kernel
theorem dX12_start_17 : decode cX12_start 17 = .ok (.getfield 70, 3) := by decide +kernel
theorem dX12_start_20 : decode cX12_start 20 = .ok (.ifCond .eq 11, 3) := by decide +kernel
theorem dX12_start_23 : decode cX12_start 23 = .ok (.new 76, 3) := by decide +kernel
theorem dX12_start_26 : decode cX12_start 26 = .ok (.dup, 1) := by decide +kernel
theorem dX12_start_27 : decode cX12_start 27 = .ok (.invokespecial 78, 3) := by decide +kernel
theorem dX12_start_30 : decode cX12_start 30 = .ok (.athrow, 1) := by decide +kernel
theorem dX12_start_31 : decode cX12_start 31 = .ok (.iload_n 1, 1) := by decide +kernel
theorem dX12_start_32 : decode cX12_start 32 = .ok (.iconst 1, 1) := by decide +kernel
theorem dX12_start_33 : decode cX12_start 33 = .ok (.if_icmp .lt 19, 3) := by decide +kernel
theorem dX12_start_36 : decode cX12_start 36 = .ok (.iload_n 1, 1) := by decide +kernel
theorem dX12_start_37 : decode cX12_start 37 = .ok (.iconst 4, 1) := by decide +kernel
theorem dX12_start_38 : decode cX12_start 38 = .ok (.if_icmp .gt 14, 3) := by decide +kernel
theorem dX12_start_41 : decode cX12_start 41 = .ok (.iload_n 2, 1) := by decide +kernel
theorem dX12_start_42 : decode cX12_start 42 = .ok (.iconst 1, 1) := by decide +kernel
theorem dX12_start_43 : decode cX12_start 43 = .ok (.if_icmp .lt 9, 3) := by decide +kernel
theorem dX12_start_46 : decode cX12_start 46 = .ok (.iload_n 2, 1) := by decide +kernel
theorem dX12_start_47 : decode cX12_start 47 = .ok (.bipush 8, 2) := by decide +kernel
theorem dX12_start_49 : decode cX12_start 49 = .ok (.if_icmp .le 11, 3) := by decide +kernel
theorem dX12_start_52 : decode cX12_start 52 = .ok (.new 60, 3) := by decide +kernel
theorem dX12_start_55 : decode cX12_start 55 = .ok (.dup, 1) := by decide +kernel
theorem dX12_start_56 : decode cX12_start 56 = .ok (.invokespecial 62, 3) := by decide +kernel
theorem dX12_start_59 : decode cX12_start 59 = .ok (.athrow, 1) := by decide +kernel
theorem dX12_start_60 : decode cX12_start 60 = .ok (.aload_n 0, 1) := by decide +kernel
theorem dX12_start_61 : decode cX12_start 61 = .ok (.getfield 49, 3) := by decide +kernel
theorem dX12_start_64 : decode cX12_start 64 = .ok (.aload_n 0, 1) := by decide +kernel
theorem dX12_start_65 : decode cX12_start 65 = .ok (.getfield 30, 3) := by decide +kernel
theorem dX12_start_68 : decode cX12_start 68 = .ok (.iload_n 1, 1) := by decide +kernel
theorem dX12_start_69 : decode cX12_start 69 = .ok (.iload_n 2, 1) := by decide +kernel
theorem dX12_start_70 : decode cX12_start 70 = .ok (.lload_n 3, 1) := by decide +kernel
theorem dX12_start_71 : decode cX12_start 71 = .ok (.invokevirtual 133, 3) := by decide +kernel
theorem dX12_start_74 : decode cX12_start 74 = .ok (.aload_n 0, 1) := by decide +kernel
theorem dX12_start_75 : decode cX12_start 75 = .ok (.getfield 49, 3) := by decide +kernel
theorem dX12_start_78 : decode cX12_start 78 = .ok (.getfield 137, 3) := by decide +kernel
theorem dX12_start_81 : decode cX12_start 81 = .ok (.ireturn, 1) := by decide +kernel
set_option maxRecDepth 20000 in
theorem a_X12_start_23 {Q : Sg → Int → Prop} {X : Sg → String → Prop} {th : Nat} (K : MD l R p s m args c cX12_start 5 RX12 D cA tys A n0 s0 7 151 []) (hQ : CQI p l e R s m args below meth c cX12_start D cA A n0 s0 QM σi Q) (hX : CX p l e R s m args below meth c 5 D cA A n0 s0 QM σi X) (hTh : CT p l e R s m args below meth c cX12_start 5 D cA A n0 s0 QM σi RX12 X) : ∀ (σ : Sg), w_X12_start_23 th Q X σ → RG σ → TY σ → Ext σi σ → kO σ th 12 → JJ p l e R s m args below meth c 5 D cA A n0 s0 QM σ 23 [(0, .ref th)] [] := by
  intro σ h hGσ hYσ hE hth H locs ls hH hl hc
  have B := K.1
  have hl9 := K.2.2.2.2.2.2
  unfold w_X12_start_23 at h
  obtain ⟨q9, h⟩ := h
  exact hTh _ _ _ _ _ _ _ _ _ tw_X12_76_78 dX12_start_23 dX12_start_26 dX12_start_27 dX12_start_30 hH hl hc q9 h hGσ hYσ hE (by have := K.2.2.2.1; omega) (by have := K.2.2.2.2.1; omega)
set_option maxRecDepth 20000 in
theorem a_X12_start_52 {Q : Sg → Int → Prop} {X : Sg → String → Prop} {th : Nat} (K : MD l R p s m args c cX12_start 5 RX12 D cA tys A n0 s0 7 151 []) (hQ : CQI p l e R s m args below meth c cX12_start D cA A n0 s0 QM σi Q) (hX : CX p l e R s m args below meth c 5 D cA A n0 s0 QM σi X) (hTh : CT p l e R s m args below meth c cX12_start 5 D cA A n0 s0 QM σi RX12 X) : ∀ (σ : Sg), w_X12_start_52 th Q X σ → RG σ → TY σ → Ext σi σ → kO σ th 12 → JJ p l e R s m args below meth c 5 D cA A n0 s0 QM σ 52 [(0, .ref th)] [] := by
  intro σ h hGσ hYσ hE hth H locs ls hH hl hc
  have B := K.1
  have hl9 := K.2.2.2.2.2.2
  unfold w_X12_start_52 at h
  obtain ⟨q9, h⟩ := h
  exact hTh _ _ _ _ _ _ _ _ _ tw_X12_60_62 dX12_start_52 dX12_start_55 dX12_start_56 dX12_start_59 hH hl hc q9 h hGσ hYσ hE (by have := K.2.2.2.1; omega) (by have := K.2.2.2.2.1; omega)
set_option maxRecDepth 20000 in
theorem a_X12_start_60 {Q : Sg → Int → Prop} {X : Sg → String → Prop} {th : Nat} (K : MD l R p s m args c cX12_start 5 RX12 D cA tys A n0 s0 7 151 []) (hQ : CQI p l e R s m args below meth c cX12_start D cA A n0 s0 QM σi Q) (hX : CX p l e R s m args below meth c 5 D cA A n0 s0 QM σi X) (hTh : CT p l e R s m args below meth c cX12_start 5 D cA A n0 s0 QM σi RX12 X) : ∀ (σ : Sg) (v1 : Int) (v2 : Int) (v3 : Int64) (g1 : rng v1) (g2 : rng v2), w_X12_start_60 th Q X σ v1 v2 v3 → RG σ → TY σ → Ext σi σ → kO σ th 12 → JJ p l e R s m args below meth c 5 D cA A n0 s0 QM σ 60 [(0, .ref th), (1, .int (i32 v1)), (2, .int (i32 v2)), (3, .long v3)] [] := by
  intro σ v1 v2 v3 g1 g2 h hGσ hYσ hE hth H locs ls hH hl hc
  have B := K.1
  have hl9 := K.2.2.2.2.2.2
  unfold w_X12_start_60 at h
  refine lv_aload_n B.1 B.2.1 dX12_start_60 rfl (lv_at hl 0 rfl) ?_
  refine f_getp B hH hth (by decide) rfl wu_X12 7 (by decide) wf_X12_49 rfl rfl dX12_start_61 ?_
  refine lv_aload_n B.1 B.2.1 dX12_start_64 rfl (lv_at hl 0 rfl) ?_
  refine f_getp B hH hth (by decide) rfl wu_X12 4 (by decide) wf_X12_30 rfl rfl dX12_start_65 ?_
  refine lv_iload_n B.1 B.2.1 dX12_start_68 rfl (lv_at hl 1 rfl) ?_
  refine lv_iload_n B.1 B.2.1 dX12_start_69 rfl (lv_at hl 2 rfl) ?_
  refine lv_lload_n B.1 B.2.1 dX12_start_70 rfl (lv_at hl 3 rfl) ?_
  obtain ⟨a14, ea14, h⟩ := h
  have ka14 : kO σ a14 9 := (hYσ.get hth (by decide)) a14 ea14
  have h := h ka14
  refine W.eq (g2 := F0 m 71 ls [.long v3, .int (i32 v2), .int (i32 v1), va_rf (gP σ th 4), .ref a14]) (by rw [ea14]; rfl) ?_
  refine c_V B hH hl hc K.2.2.1 (C := RX9) (T := TX9) (N := 20) (ci := 9) (As := [va_rf (gP σ th 4), .int (i32 v1), .int (i32 v2), .long v3]) (ok_X9_begin hl9 K.2.1 σ a14 (gP σ th 4) v1 v2 v3 (hYσ.get hth (by decide)) g1 g2 ka14 hGσ hYσ h) wc_X12_133 4 hd_X9_begin ⟨Nat.le_trans (Nat.le_of_ble_eq_true rfl) K.2.2.2.1, Nat.le_trans (Nat.le_of_ble_eq_true rfl) K.2.2.2.2.1⟩ ka14.1 ka14.2 (by decide) rfl rfl (rest := []) rfl (Nat.le_of_ble_eq_true rfl) dX12_start_71 (fun σ13 w hq => ?_) (fun σ9 E9 hx9 => hX σ9 E9 _ _ _ (tb_out K.2.2.2.2.2.1 rfl) hx9.1 hx9.2.1 hx9.2.2.1 (hE.trans hx9.2.2.2))
  obtain ⟨rfl, h, hGσ13, hYσ13, xσ13⟩ := hq
  have h := h xσ13
  intro H locs ls hH hl hc
  refine W.eq (g2 := F0 m 74 ls []) (rfl) ?_
  try dsimp only at h
  refine lv_aload_n B.1 B.2.1 dX12_start_74 rfl (lv_at hl 0 rfl) ?_
  refine f_getp B hH (hth.up xσ13) (by decide) rfl wu_X12 7 (by decide) wf_X12_49 rfl rfl dX12_start_75 ?_
  obtain ⟨a15, ea15, h⟩ := h
  have ka15 : kO σ13 a15 9 := (hYσ13.get (hth.up xσ13) (by decide)) a15 ea15
  have h := h ka15
  refine W.eq (g2 := F0 m 78 ls [.ref a15]) (by rw [ea15]; rfl) ?_
  refine f_geti B hH ka15 (by decide) rfl wu_X9 10 (by decide) wf_X12_137 rfl rfl dX12_start_78 ?_
  exact hQ _ _ _ _ _ _ (hGσ13 _ _) dX12_start_81 hH hc h hGσ13 hYσ13 (hE.trans xσ13)
set_option maxRecDepth 20000 in
theorem a_X12_start_46 {Q : Sg → Int → Prop} {X : Sg → String → Prop} {th : Nat} (K : MD l R p s m args c cX12_start 5 RX12 D cA tys A n0 s0 7 151 []) (hQ : CQI p l e R s m args below meth c cX12_start D cA A n0 s0 QM σi Q) (hX : CX p l e R s m args below meth c 5 D cA A n0 s0 QM σi X) (hTh : CT p l e R s m args below meth c cX12_start 5 D cA A n0 s0 QM σi RX12 X) : ∀ (σ : Sg) (v1 : Int) (v2 : Int) (v3 : Int64) (g1 : rng v1) (g2 : rng v2), w_X12_start_46 th Q X σ v1 v2 v3 → RG σ → TY σ → Ext σi σ → kO σ th 12 → JJ p l e R s m args below meth c 5 D cA A n0 s0 QM σ 46 [(0, .ref th), (1, .int (i32 v1)), (2, .int (i32 v2)), (3, .long v3)] [] := by
  intro σ v1 v2 v3 g1 g2 h hGσ hYσ hE hth H locs ls hH hl hc
  have B := K.1
  have hl9 := K.2.2.2.2.2.2
  unfold w_X12_start_46 at h
  refine lv_iload_n B.1 B.2.1 dX12_start_46 rfl (lv_at hl 2 rfl) ?_
  refine lv_bipush (v := i32 8) B.1 B.2.1 dX12_start_47 (by decide) ?_
  refine lv_icmp_le (tgt := 60) B.1 B.2.1 dX12_start_49 (by decide) (fun h9 => ?_) (fun h9 => ?_)
  · rw [if_pos ((i32_le g2 (by unfold rng; omega)).mp h9)] at h
    exact a_X12_start_60 K hQ hX hTh _ _ _ _ g1 g2 h hGσ hYσ hE hth _ _ _ hH (lv_sub (l' := [(0, .ref th), (1, .int (i32 v1)), (2, .int (i32 v2)), (3, .long v3)]) hl [0, 1, 2, 3] rfl) hc
  · rw [if_neg (fun q => h9 ((i32_le g2 (by unfold rng; omega)).mpr q))] at h
    exact a_X12_start_52 K hQ hX hTh _ h hGσ hYσ hE hth _ _ _ hH (lv_sub (l' := [(0, .ref th)]) hl [0] rfl) hc
set_option maxRecDepth 20000 in
theorem a_X12_start_41 {Q : Sg → Int → Prop} {X : Sg → String → Prop} {th : Nat} (K : MD l R p s m args c cX12_start 5 RX12 D cA tys A n0 s0 7 151 []) (hQ : CQI p l e R s m args below meth c cX12_start D cA A n0 s0 QM σi Q) (hX : CX p l e R s m args below meth c 5 D cA A n0 s0 QM σi X) (hTh : CT p l e R s m args below meth c cX12_start 5 D cA A n0 s0 QM σi RX12 X) : ∀ (σ : Sg) (v1 : Int) (v2 : Int) (v3 : Int64) (g1 : rng v1) (g2 : rng v2), w_X12_start_41 th Q X σ v1 v2 v3 → RG σ → TY σ → Ext σi σ → kO σ th 12 → JJ p l e R s m args below meth c 5 D cA A n0 s0 QM σ 41 [(0, .ref th), (1, .int (i32 v1)), (2, .int (i32 v2)), (3, .long v3)] [] := by
  intro σ v1 v2 v3 g1 g2 h hGσ hYσ hE hth H locs ls hH hl hc
  have B := K.1
  have hl9 := K.2.2.2.2.2.2
  unfold w_X12_start_41 at h
  refine lv_iload_n B.1 B.2.1 dX12_start_41 rfl (lv_at hl 2 rfl) ?_
  refine lv_iconst (v := i32 1) B.1 B.2.1 dX12_start_42 (by decide) ?_
  refine lv_icmp_lt (tgt := 52) B.1 B.2.1 dX12_start_43 (by decide) (fun h9 => ?_) (fun h9 => ?_)
  · rw [if_pos ((i32_lt g2 (by unfold rng; omega)).mp h9)] at h
    exact a_X12_start_52 K hQ hX hTh _ h hGσ hYσ hE hth _ _ _ hH (lv_sub (l' := [(0, .ref th)]) hl [0] rfl) hc
  · rw [if_neg (fun q => h9 ((i32_lt g2 (by unfold rng; omega)).mpr q))] at h
    exact a_X12_start_46 K hQ hX hTh _ _ _ _ g1 g2 h hGσ hYσ hE hth _ _ _ hH (lv_sub (l' := [(0, .ref th), (1, .int (i32 v1)), (2, .int (i32 v2)), (3, .long v3)]) hl [0, 1, 2, 3] rfl) hc
set_option maxRecDepth 20000 in
theorem a_X12_start_36 {Q : Sg → Int → Prop} {X : Sg → String → Prop} {th : Nat} (K : MD l R p s m args c cX12_start 5 RX12 D cA tys A n0 s0 7 151 []) (hQ : CQI p l e R s m args below meth c cX12_start D cA A n0 s0 QM σi Q) (hX : CX p l e R s m args below meth c 5 D cA A n0 s0 QM σi X) (hTh : CT p l e R s m args below meth c cX12_start 5 D cA A n0 s0 QM σi RX12 X) : ∀ (σ : Sg) (v1 : Int) (v2 : Int) (v3 : Int64) (g1 : rng v1) (g2 : rng v2), w_X12_start_36 th Q X σ v1 v2 v3 → RG σ → TY σ → Ext σi σ → kO σ th 12 → JJ p l e R s m args below meth c 5 D cA A n0 s0 QM σ 36 [(0, .ref th), (1, .int (i32 v1)), (2, .int (i32 v2)), (3, .long v3)] [] := by
  intro σ v1 v2 v3 g1 g2 h hGσ hYσ hE hth H locs ls hH hl hc
  have B := K.1
  have hl9 := K.2.2.2.2.2.2
  unfold w_X12_start_36 at h
  refine lv_iload_n B.1 B.2.1 dX12_start_36 rfl (lv_at hl 1 rfl) ?_
  refine lv_iconst (v := i32 4) B.1 B.2.1 dX12_start_37 (by decide) ?_
  refine lv_icmp_gt (tgt := 52) B.1 B.2.1 dX12_start_38 (by decide) (fun h9 => ?_) (fun h9 => ?_)
  · rw [if_pos ((i32_lt (by unfold rng; omega) g1).mp h9)] at h
    exact a_X12_start_52 K hQ hX hTh _ h hGσ hYσ hE hth _ _ _ hH (lv_sub (l' := [(0, .ref th)]) hl [0] rfl) hc
  · rw [if_neg (fun q => h9 ((i32_lt (by unfold rng; omega) g1).mpr q))] at h
    exact a_X12_start_41 K hQ hX hTh _ _ _ _ g1 g2 h hGσ hYσ hE hth _ _ _ hH (lv_sub (l' := [(0, .ref th), (1, .int (i32 v1)), (2, .int (i32 v2)), (3, .long v3)]) hl [0, 1, 2, 3] rfl) hc
set_option maxRecDepth 20000 in
theorem a_X12_start_31 {Q : Sg → Int → Prop} {X : Sg → String → Prop} {th : Nat} (K : MD l R p s m args c cX12_start 5 RX12 D cA tys A n0 s0 7 151 []) (hQ : CQI p l e R s m args below meth c cX12_start D cA A n0 s0 QM σi Q) (hX : CX p l e R s m args below meth c 5 D cA A n0 s0 QM σi X) (hTh : CT p l e R s m args below meth c cX12_start 5 D cA A n0 s0 QM σi RX12 X) : ∀ (σ : Sg) (v1 : Int) (v2 : Int) (v3 : Int64) (g1 : rng v1) (g2 : rng v2), w_X12_start_31 th Q X σ v1 v2 v3 → RG σ → TY σ → Ext σi σ → kO σ th 12 → JJ p l e R s m args below meth c 5 D cA A n0 s0 QM σ 31 [(0, .ref th), (1, .int (i32 v1)), (2, .int (i32 v2)), (3, .long v3)] [] := by
  intro σ v1 v2 v3 g1 g2 h hGσ hYσ hE hth H locs ls hH hl hc
  have B := K.1
  have hl9 := K.2.2.2.2.2.2
  unfold w_X12_start_31 at h
  refine lv_iload_n B.1 B.2.1 dX12_start_31 rfl (lv_at hl 1 rfl) ?_
  refine lv_iconst (v := i32 1) B.1 B.2.1 dX12_start_32 (by decide) ?_
  refine lv_icmp_lt (tgt := 52) B.1 B.2.1 dX12_start_33 (by decide) (fun h9 => ?_) (fun h9 => ?_)
  · rw [if_pos ((i32_lt g1 (by unfold rng; omega)).mp h9)] at h
    exact a_X12_start_52 K hQ hX hTh _ h hGσ hYσ hE hth _ _ _ hH (lv_sub (l' := [(0, .ref th)]) hl [0] rfl) hc
  · rw [if_neg (fun q => h9 ((i32_lt g1 (by unfold rng; omega)).mpr q))] at h
    exact a_X12_start_36 K hQ hX hTh _ _ _ _ g1 g2 h hGσ hYσ hE hth _ _ _ hH (lv_sub (l' := [(0, .ref th), (1, .int (i32 v1)), (2, .int (i32 v2)), (3, .long v3)]) hl [0, 1, 2, 3] rfl) hc
set_option maxRecDepth 20000 in
theorem a_X12_start_10 {Q : Sg → Int → Prop} {X : Sg → String → Prop} {th : Nat} (K : MD l R p s m args c cX12_start 5 RX12 D cA tys A n0 s0 7 151 []) (hQ : CQI p l e R s m args below meth c cX12_start D cA A n0 s0 QM σi Q) (hX : CX p l e R s m args below meth c 5 D cA A n0 s0 QM σi X) (hTh : CT p l e R s m args below meth c cX12_start 5 D cA A n0 s0 QM σi RX12 X) : ∀ (σ : Sg) (v1 : Int) (v2 : Int) (v3 : Int64) (g1 : rng v1) (g2 : rng v2), w_X12_start_10 th Q X σ v1 v2 v3 → RG σ → TY σ → Ext σi σ → kO σ th 12 → JJ p l e R s m args below meth c 5 D cA A n0 s0 QM σ 10 [(0, .ref th), (1, .int (i32 v1)), (2, .int (i32 v2)), (3, .long v3)] [] := by
  intro σ v1 v2 v3 g1 g2 h hGσ hYσ hE hth H locs ls hH hl hc
  have B := K.1
  have hl9 := K.2.2.2.2.2.2
  unfold w_X12_start_10 at h
  refine lv_aload_n B.1 B.2.1 dX12_start_10 rfl (lv_at hl 0 rfl) ?_
  refine f_getp B hH hth (by decide) rfl wu_X12 7 (by decide) wf_X12_49 rfl rfl dX12_start_11 ?_
  obtain ⟨a16, ea16, h⟩ := h
  have ka16 : kO σ a16 9 := (hYσ.get hth (by decide)) a16 ea16
  have h := h ka16
  refine W.eq (g2 := F0 m 14 ls [.ref a16]) (by rw [ea16]; rfl) ?_
  refine f_getp B hH ka16 (by decide) rfl wu_X9 2 (by decide) wf_X12_66 rfl rfl dX12_start_14 ?_
  obtain ⟨a17, ea17, h⟩ := h
  have ka17 : kO σ a17 3 := (hYσ.get ka16 (by decide)) a17 ea17
  have h := h ka17
  refine W.eq (g2 := F0 m 17 ls [.ref a17]) (by rw [ea17]; rfl) ?_
  refine f_geti B hH ka17 (by decide) rfl wu_X3 9 (by decide) wf_X12_70 rfl rfl dX12_start_17 ?_
  refine lv_if_eq (tgt := 31) B.1 B.2.1 dX12_start_20 (by decide) (fun h9 => ?_) (fun h9 => ?_)
  · rw [if_pos ((z_eq (hGσ _ _)).mp h9)] at h
    exact a_X12_start_31 K hQ hX hTh _ _ _ _ g1 g2 h hGσ hYσ hE hth _ _ _ hH (lv_sub (l' := [(0, .ref th), (1, .int (i32 v1)), (2, .int (i32 v2)), (3, .long v3)]) hl [0, 1, 2, 3] rfl) hc
  · rw [if_neg (fun q => h9 ((z_eq (hGσ _ _)).mpr q))] at h
    exact a_X12_start_23 K hQ hX hTh _ h hGσ hYσ hE hth _ _ _ hH (lv_sub (l' := [(0, .ref th)]) hl [0] rfl) hc
set_option maxRecDepth 20000 in
theorem a_X12_start_0 {Q : Sg → Int → Prop} {X : Sg → String → Prop} {th : Nat} (K : MD l R p s m args c cX12_start 5 RX12 D cA tys A n0 s0 7 151 []) (hQ : CQI p l e R s m args below meth c cX12_start D cA A n0 s0 QM σi Q) (hX : CX p l e R s m args below meth c 5 D cA A n0 s0 QM σi X) (hTh : CT p l e R s m args below meth c cX12_start 5 D cA A n0 s0 QM σi RX12 X) : ∀ (σ : Sg) (v1 : Int) (v2 : Int) (v3 : Int64) (g1 : rng v1) (g2 : rng v2), w_X12_start_0 th Q X σ v1 v2 v3 → RG σ → TY σ → Ext σi σ → kO σ th 12 → JJ p l e R s m args below meth c 5 D cA A n0 s0 QM σ 0 [(0, .ref th), (1, .int (i32 v1)), (2, .int (i32 v2)), (3, .long v3)] [] := by
  intro σ v1 v2 v3 g1 g2 h hGσ hYσ hE hth H locs ls hH hl hc
  have B := K.1
  have hl9 := K.2.2.2.2.2.2
  unfold w_X12_start_0 at h
  refine lv_aload_n B.1 B.2.1 dX12_start_0 rfl (lv_at hl 0 rfl) ?_
  refine f_getp B hH hth (by decide) rfl wu_X12 4 (by decide) wf_X12_30 rfl rfl dX12_start_1 ?_
  obtain ⟨a18, ea18, h⟩ := h
  have ka18 : kO σ a18 4 := (hYσ.get hth (by decide)) a18 ea18
  have h := h ka18
  refine W.eq (g2 := F0 m 4 ls [.ref a18]) (by rw [ea18]; rfl) ?_
  refine f_geti B hH ka18 (by decide) rfl wu_X4 1 (by decide) wf_X12_89 rfl rfl dX12_start_4 ?_
  refine lv_if_eq (tgt := 23) B.1 B.2.1 dX12_start_7 (by decide) (fun h9 => ?_) (fun h9 => ?_)
  · rw [if_pos ((z_eq (hGσ _ _)).mp h9)] at h
    exact a_X12_start_23 K hQ hX hTh _ h hGσ hYσ hE hth _ _ _ hH (lv_sub (l' := [(0, .ref th)]) hl [0] rfl) hc
  · rw [if_neg (fun q => h9 ((z_eq (hGσ _ _)).mpr q))] at h
    exact a_X12_start_10 K hQ hX hTh _ _ _ _ g1 g2 h hGσ hYσ hE hth _ _ _ hH (lv_sub (l' := [(0, .ref th), (1, .int (i32 v1)), (2, .int (i32 v2)), (3, .long v3)]) hl [0, 1, 2, 3] rfl) hc
theorem ok_X12_start (hl0 : l.stackTraces = false) (hT : TyC cA tys) {Q : Sg → Int → Prop} {X : Sg → String → Prop} (σ : Sg) (th : Nat) (v1 : Int) (v2 : Int) (v3 : Int64) (g1 : rng v1) (g2 : rng v2) (hth : kO σ th 12) (hG : RG σ) (hY : TY σ) (h : wp_X12_start th v1 v2 v3 σ Q X) : Ok l D cA tys A yX12_start (.code yX12_start cX12_start 5 (some .int)) 7 151 [.ref th, .int (i32 v1), .int (i32 v2), .long v3] σ (QcI σ Q) (QxC σ X) := by
  unfold wp_X12_start at h
  exact oc_I hl0 (by decide) (by exact Nat.le_of_ble_eq_true rfl) hT (fun p e R s m args below meth c K hQ hX hTh H locs ls hH hl hc => a_X12_start_0 K hQ hX hTh σ v1 v2 v3 g1 g2 h hG hY (Ext.rfl' σ) hth H locs ls hH (lv_sub (l' := [(0, .ref th), (1, .int (i32 v1)), (2, .int (i32 v2)), (3, .long v3)]) hl [0, 1, 2, 3] rfl) hc)
end C84

section M64
variable {p : Program} {l : Launch} {e : Env} {R : Room} {s : State} {m : MethodId} {args : Array Value} {below : List Frame} {meth : Method} {c : Code} {D : va_G} {cA : Nat → ClassId} {tys : List (ClassId × FieldType)} {A : Nat → Prop} {n0 s0 : Nat} {QM : State → Prop} {dm : List Nat × Nat × Nat} {ra : Nat → Nat} {jx : Nat → Nat → Nat} {rm : Nat}
theorem dX16_outputOf_0 : decode cX16_outputOf 0 = .ok (.iconst 0, 1) := by decide +kernel
theorem dX16_outputOf_1 : decode cX16_outputOf 1 = .ok (.istore_n 2, 1) := by decide +kernel
theorem dX16_outputOf_2 : decode cX16_outputOf 2 = .ok (.iconst 0, 1) := by decide +kernel
theorem dX16_outputOf_3 : decode cX16_outputOf 3 = .ok (.istore_n 3, 1) := by decide +kernel
theorem dX16_outputOf_4 : decode cX16_outputOf 4 = .ok (.iload_n 3, 1) := by decide +kernel
theorem dX16_outputOf_5 : decode cX16_outputOf 5 = .ok (.iload_n 1, 1) := by decide +kernel
theorem dX16_outputOf_6 : decode cX16_outputOf 6 = .ok (.if_icmp .ge 31, 3) := by decide +kernel
theorem dX16_outputOf_9 : decode cX16_outputOf 9 = .ok (.iload_n 2, 1) := by decide +kernel
theorem dX16_outputOf_10 : decode cX16_outputOf 10 = .ok (.aload_n 0, 1) := by decide +kernel
theorem dX16_outputOf_11 : decode cX16_outputOf 11 = .ok (.getfield 356, 3) := by decide +kernel
theorem dX16_outputOf_14 : decode cX16_outputOf 14 = .ok (.getfield 246, 3) := by decide +kernel
theorem dX16_outputOf_17 : decode cX16_outputOf 17 = .ok (.iload_n 3, 1) := by decide +kernel
theorem dX16_outputOf_18 : decode cX16_outputOf 18 = .ok (.iaload, 1) := by decide +kernel
theorem dX16_outputOf_19 : decode cX16_outputOf 19 = .ok (.bipush 11, 2) := by decide +kernel
theorem dX16_outputOf_21 : decode cX16_outputOf 21 = .ok (.if_icmp .ne 7, 3) := by decide +kernel
theorem dX16_outputOf_24 : decode cX16_outputOf 24 = .ok (.iconst 1, 1) := by decide +kernel
theorem dX16_outputOf_25 : decode cX16_outputOf 25 = .ok (.goto 4, 3) := by decide +kernel
theorem dX16_outputOf_28 : decode cX16_outputOf 28 = .ok (.iconst 0, 1) := by decide +kernel
theorem dX16_outputOf_29 : decode cX16_outputOf 29 = .ok (.iadd, 1) := by decide +kernel
theorem dX16_outputOf_30 : decode cX16_outputOf 30 = .ok (.istore_n 2, 1) := by decide +kernel
theorem dX16_outputOf_31 : decode cX16_outputOf 31 = .ok (.iinc 3 1, 3) := by decide +kernel
theorem dX16_outputOf_34 : decode cX16_outputOf 34 = .ok (.goto (-30), 3) := by decide +kernel
theorem dX16_outputOf_37 : decode cX16_outputOf 37 = .ok (.iload_n 2, 1) := by decide +kernel
theorem dX16_outputOf_38 : decode cX16_outputOf 38 = .ok (.ireturn, 1) := by decide +kernel
set_option maxRecDepth 20000 in
theorem a_X16_outputOf_37 {Q : Sg → Int → Prop} {X : Sg → String → Prop} (K : MC R p s m args c cX16_outputOf 4 RX16 D cA tys A n0 s0 0 0 []) (hQ : HQI p l e R s m args below meth c cX16_outputOf D cA A n0 s0 QM dm ra jx rm Q) (hX : HX p l e R s m args below meth c 4 D cA A n0 s0 QM dm ra jx rm X) : ∀ (σ : Sg) (v2 : Int) (g2 : rng v2), w_X16_outputOf_37 ra jx rm Q X σ v2 → RG σ → Shp dm ra jx rm σ → JJ p l e R s m args below meth c 4 D cA A n0 s0 QM σ 37 [(0, .ref rm), (2, .int (i32 v2))] [] := by
  intro σ v2 g2 h hGσ hS H locs ls hH hl hc
  have B := K.1
  unfold w_X16_outputOf_37 at h
  refine lv_iload_n B.1 B.2.1 dX16_outputOf_37 rfl (lv_at hl 1 rfl) ?_
  exact hQ _ _ _ _ _ _ g2 dX16_outputOf_38 hH hc h hGσ hS
set_option maxRecDepth 20000 in
theorem a_X16_outputOf_29 {Q : Sg → Int → Prop} {X : Sg → String → Prop} (K : MC R p s m args c cX16_outputOf 4 RX16 D cA tys A n0 s0 0 0 []) (hQ : HQI p l e R s m args below meth c cX16_outputOf D cA A n0 s0 QM dm ra jx rm Q) (hX : HX p l e R s m args below meth c 4 D cA A n0 s0 QM dm ra jx rm X) {K4 : Sg → Int → Int → Int → Prop} (hK4 : ∀ (σ : Sg) (v1 : Int) (v2 : Int) (v3 : Int) (g1 : rng v1) (g2 : rng v2) (g3 : rng v3), K4 σ v1 v2 v3 → RG σ → Shp dm ra jx rm σ → JJ p l e R s m args below meth c 4 D cA A n0 s0 QM σ 4 [(0, .ref rm), (1, .int (i32 v1)), (2, .int (i32 v2)), (3, .int (i32 v3))] []) : ∀ (σ : Sg) (v1 : Int) (v3 : Int) (u0 : Int) (u1 : Int) (g1 : rng v1) (g3 : rng v3) (gu0 : rng u0) (gu1 : rng u1), w_X16_outputOf_29 ra jx rm K4 Q X σ v1 v3 u0 u1 → RG σ → Shp dm ra jx rm σ → JJ p l e R s m args below meth c 4 D cA A n0 s0 QM σ 29 [(0, .ref rm), (1, .int (i32 v1)), (3, .int (i32 v3))] [.int (i32 u0), .int (i32 u1)] := by
  intro σ v1 v3 u0 u1 g1 g3 gu0 gu1 h hGσ hS H locs ls hH hl hc
  have B := K.1
  unfold w_X16_outputOf_29 at h
  obtain ⟨q1, h⟩ := h
  refine lv_iadd B.1 B.2.1 dX16_outputOf_29 ?_
  rw [i32_add]
  refine lv_istore_n (lv' := [(2, .int (i32 (u1 + u0))), (0, .ref rm), (1, .int (i32 v1)), (3, .int (i32 v3))]) B.1 B.2.1 dX16_outputOf_30 rfl hl (by decide) rfl (fun ls hl => ?_)
  obtain ⟨q2, h⟩ := h
  refine lv_iinc (k := 3) (v := i32 (v3 + 1)) (lv' := [(3, .int (i32 (v3 + 1))), (2, .int (i32 (u1 + u0))), (0, .ref rm), (1, .int (i32 v1))]) B.1 B.2.1 dX16_outputOf_31 hl rfl (i32_add _ _) (by decide) rfl (fun ls hl => ?_)
  refine lv_goto (tgt := 4) B.1 B.2.1 dX16_outputOf_34 (by decide) ?_
  exact hK4 _ _ _ _ g1 q1 q2 h hGσ hS _ _ _ hH (lv_sub (l' := [(0, .ref rm), (1, .int (i32 v1)), (2, .int (i32 (u1 + u0))), (3, .int (i32 (v3 + 1)))]) hl [2, 3, 1, 0] rfl) hc
set_option maxRecDepth 20000 in
theorem a_X16_outputOf_28 {Q : Sg → Int → Prop} {X : Sg → String → Prop} (K : MC R p s m args c cX16_outputOf 4 RX16 D cA tys A n0 s0 0 0 []) (hQ : HQI p l e R s m args below meth c cX16_outputOf D cA A n0 s0 QM dm ra jx rm Q) (hX : HX p l e R s m args below meth c 4 D cA A n0 s0 QM dm ra jx rm X) {K4 : Sg → Int → Int → Int → Prop} (hK4 : ∀ (σ : Sg) (v1 : Int) (v2 : Int) (v3 : Int) (g1 : rng v1) (g2 : rng v2) (g3 : rng v3), K4 σ v1 v2 v3 → RG σ → Shp dm ra jx rm σ → JJ p l e R s m args below meth c 4 D cA A n0 s0 QM σ 4 [(0, .ref rm), (1, .int (i32 v1)), (2, .int (i32 v2)), (3, .int (i32 v3))] []) : ∀ (σ : Sg) (v1 : Int) (v3 : Int) (u0 : Int) (g1 : rng v1) (g3 : rng v3) (gu0 : rng u0), w_X16_outputOf_28 ra jx rm K4 Q X σ v1 v3 u0 → RG σ → Shp dm ra jx rm σ → JJ p l e R s m args below meth c 4 D cA A n0 s0 QM σ 28 [(0, .ref rm), (1, .int (i32 v1)), (3, .int (i32 v3))] [.int (i32 u0)] := by
  intro σ v1 v3 u0 g1 g3 gu0 h hGσ hS H locs ls hH hl hc
  have B := K.1
  unfold w_X16_outputOf_28 at h
  refine lv_iconst (v := i32 0) B.1 B.2.1 dX16_outputOf_28 (by decide) ?_
  exact a_X16_outputOf_29 K hQ hX hK4 _ _ _ _ _ g1 g3 (by unfold rng; omega) gu0 h hGσ hS _ _ _ hH (lv_sub (l' := [(0, .ref rm), (1, .int (i32 v1)), (3, .int (i32 v3))]) hl [0, 1, 2] rfl) hc
set_option maxRecDepth 20000 in
theorem a_X16_outputOf_24 {Q : Sg → Int → Prop} {X : Sg → String → Prop} (K : MC R p s m args c cX16_outputOf 4 RX16 D cA tys A n0 s0 0 0 []) (hQ : HQI p l e R s m args below meth c cX16_outputOf D cA A n0 s0 QM dm ra jx rm Q) (hX : HX p l e R s m args below meth c 4 D cA A n0 s0 QM dm ra jx rm X) {K4 : Sg → Int → Int → Int → Prop} (hK4 : ∀ (σ : Sg) (v1 : Int) (v2 : Int) (v3 : Int) (g1 : rng v1) (g2 : rng v2) (g3 : rng v3), K4 σ v1 v2 v3 → RG σ → Shp dm ra jx rm σ → JJ p l e R s m args below meth c 4 D cA A n0 s0 QM σ 4 [(0, .ref rm), (1, .int (i32 v1)), (2, .int (i32 v2)), (3, .int (i32 v3))] []) : ∀ (σ : Sg) (v1 : Int) (v3 : Int) (u0 : Int) (g1 : rng v1) (g3 : rng v3) (gu0 : rng u0), w_X16_outputOf_24 ra jx rm K4 Q X σ v1 v3 u0 → RG σ → Shp dm ra jx rm σ → JJ p l e R s m args below meth c 4 D cA A n0 s0 QM σ 24 [(0, .ref rm), (1, .int (i32 v1)), (3, .int (i32 v3))] [.int (i32 u0)] := by
  intro σ v1 v3 u0 g1 g3 gu0 h hGσ hS H locs ls hH hl hc
  have B := K.1
  unfold w_X16_outputOf_24 at h
  refine lv_iconst (v := i32 1) B.1 B.2.1 dX16_outputOf_24 (by decide) ?_
  refine lv_goto (tgt := 29) B.1 B.2.1 dX16_outputOf_25 (by decide) ?_
  exact a_X16_outputOf_29 K hQ hX hK4 _ _ _ _ _ g1 g3 (by unfold rng; omega) gu0 h hGσ hS _ _ _ hH (lv_sub (l' := [(0, .ref rm), (1, .int (i32 v1)), (3, .int (i32 v3))]) hl [0, 1, 2] rfl) hc
set_option maxRecDepth 20000 in
theorem a_X16_outputOf_9 {Q : Sg → Int → Prop} {X : Sg → String → Prop} (K : MC R p s m args c cX16_outputOf 4 RX16 D cA tys A n0 s0 0 0 []) (hQ : HQI p l e R s m args below meth c cX16_outputOf D cA A n0 s0 QM dm ra jx rm Q) (hX : HX p l e R s m args below meth c 4 D cA A n0 s0 QM dm ra jx rm X) {K4 : Sg → Int → Int → Int → Prop} (hK4 : ∀ (σ : Sg) (v1 : Int) (v2 : Int) (v3 : Int) (g1 : rng v1) (g2 : rng v2) (g3 : rng v3), K4 σ v1 v2 v3 → RG σ → Shp dm ra jx rm σ → JJ p l e R s m args below meth c 4 D cA A n0 s0 QM σ 4 [(0, .ref rm), (1, .int (i32 v1)), (2, .int (i32 v2)), (3, .int (i32 v3))] []) : ∀ (σ : Sg) (v1 : Int) (v2 : Int) (v3 : Int) (g1 : rng v1) (g2 : rng v2) (g3 : rng v3), w_X16_outputOf_9 ra jx rm K4 Q X σ v1 v2 v3 → RG σ → Shp dm ra jx rm σ → JJ p l e R s m args below meth c 4 D cA A n0 s0 QM σ 9 [(0, .ref rm), (1, .int (i32 v1)), (2, .int (i32 v2)), (3, .int (i32 v3))] [] := by
  intro σ v1 v2 v3 g1 g2 g3 h hGσ hS H locs ls hH hl hc
  have B := K.1
  unfold w_X16_outputOf_9 at h
  refine lv_iload_n B.1 B.2.1 dX16_outputOf_9 rfl (lv_at hl 2 rfl) ?_
  refine lv_aload_n B.1 B.2.1 dX16_outputOf_10 rfl (lv_at hl 0 rfl) ?_
  refine r_getp B hH hS 17 (by decide) wf_X16_356 rfl rfl dX16_outputOf_11 ?_
  obtain ⟨a3, ea3, ja3, h⟩ := h
  refine W.eq (g2 := F0 m 14 ls [.ref a3, .int (i32 v2)]) (by rw [ea3]; rfl) ?_
  refine n_arr B hH hS ja3 2 (kd := 100) (n := 16) (by decide) (by decide) (List.mem_of_getElem? (i := 2) rfl) rfl dX16_outputOf_14 ?_
  refine lv_iload_n B.1 B.2.1 dX16_outputOf_17 rfl (lv_at hl 3 rfl) ?_
  obtain ⟨q2, h⟩ := h
  refine x_iald B K.2.1 hH (hS.ja ja3 (k := 2) (kd := 100) (n := 16) (by decide)) (by decide) q2 dX16_outputOf_18 ?_
  refine lv_bipush (v := i32 11) B.1 B.2.1 dX16_outputOf_19 (by decide) ?_
  refine lv_icmp_ne (tgt := 28) B.1 B.2.1 dX16_outputOf_21 (by decide) (fun h9 => ?_) (fun h9 => ?_)
  · rw [if_pos (fun q => h9 ((i32_eq (hGσ _ _) (by unfold rng; omega)).mpr q))] at h
    exact a_X16_outputOf_28 K hQ hX hK4 _ _ _ _ g1 g3 g2 h hGσ hS _ _ _ hH (lv_sub (l' := [(0, .ref rm), (1, .int (i32 v1)), (3, .int (i32 v3))]) hl [0, 1, 3] rfl) hc
  · rw [if_neg (fun q => q ((i32_eq (hGσ _ _) (by unfold rng; omega)).mp h9))] at h
    exact a_X16_outputOf_24 K hQ hX hK4 _ _ _ _ g1 g3 g2 h hGσ hS _ _ _ hH (lv_sub (l' := [(0, .ref rm), (1, .int (i32 v1)), (3, .int (i32 v3))]) hl [0, 1, 3] rfl) hc
set_option maxRecDepth 20000 in
theorem a_X16_outputOf_4 {Q : Sg → Int → Prop} {X : Sg → String → Prop} (K : MC R p s m args c cX16_outputOf 4 RX16 D cA tys A n0 s0 0 0 []) (hQ : HQI p l e R s m args below meth c cX16_outputOf D cA A n0 s0 QM dm ra jx rm Q) (hX : HX p l e R s m args below meth c 4 D cA A n0 s0 QM dm ra jx rm X) {K4 : Sg → Int → Int → Int → Prop} (hK4 : ∀ (σ : Sg) (v1 : Int) (v2 : Int) (v3 : Int) (g1 : rng v1) (g2 : rng v2) (g3 : rng v3), K4 σ v1 v2 v3 → RG σ → Shp dm ra jx rm σ → JJ p l e R s m args below meth c 4 D cA A n0 s0 QM σ 4 [(0, .ref rm), (1, .int (i32 v1)), (2, .int (i32 v2)), (3, .int (i32 v3))] []) : ∀ (σ : Sg) (v1 : Int) (v2 : Int) (v3 : Int) (g1 : rng v1) (g2 : rng v2) (g3 : rng v3), w_X16_outputOf_4 ra jx rm K4 Q X σ v1 v2 v3 → RG σ → Shp dm ra jx rm σ → JJ p l e R s m args below meth c 4 D cA A n0 s0 QM σ 4 [(0, .ref rm), (1, .int (i32 v1)), (2, .int (i32 v2)), (3, .int (i32 v3))] [] := by
  intro σ v1 v2 v3 g1 g2 g3 h hGσ hS H locs ls hH hl hc
  have B := K.1
  unfold w_X16_outputOf_4 at h
  refine lv_iload_n B.1 B.2.1 dX16_outputOf_4 rfl (lv_at hl 3 rfl) ?_
  refine lv_iload_n B.1 B.2.1 dX16_outputOf_5 rfl (lv_at hl 1 rfl) ?_
  refine lv_icmp_ge (tgt := 37) B.1 B.2.1 dX16_outputOf_6 (by decide) (fun h9 => ?_) (fun h9 => ?_)
  · rw [if_pos ((i32_le g1 g3).mp h9)] at h
    exact a_X16_outputOf_37 K hQ hX _ _ g2 h hGσ hS _ _ _ hH (lv_sub (l' := [(0, .ref rm), (2, .int (i32 v2))]) hl [0, 2] rfl) hc
  · rw [if_neg (fun q => h9 ((i32_le g1 g3).mpr q))] at h
    exact a_X16_outputOf_9 K hQ hX hK4 _ _ _ _ g1 g2 g3 h hGσ hS _ _ _ hH (lv_sub (l' := [(0, .ref rm), (1, .int (i32 v1)), (2, .int (i32 v2)), (3, .int (i32 v3))]) hl [0, 1, 2, 3] rfl) hc
theorem al_X16_outputOf_4 {Q : Sg → Int → Prop} {X : Sg → String → Prop} (K : MC R p s m args c cX16_outputOf 4 RX16 D cA tys A n0 s0 0 0 []) (hQ : HQI p l e R s m args below meth c cX16_outputOf D cA A n0 s0 QM dm ra jx rm Q) (hX : HX p l e R s m args below meth c 4 D cA A n0 s0 QM dm ra jx rm X) : ∀ (n : Nat), ∀ (σ : Sg) (v1 : Int) (v2 : Int) (v3 : Int) (g1 : rng v1) (g2 : rng v2) (g3 : rng v3), wl_X16_outputOf_4 ra jx rm Q X n σ v1 v2 v3 → RG σ → Shp dm ra jx rm σ → JJ p l e R s m args below meth c 4 D cA A n0 s0 QM σ 4 [(0, .ref rm), (1, .int (i32 v1)), (2, .int (i32 v2)), (3, .int (i32 v3))] [] := by
  intro n
  induction n with
  | zero => intro σ v1 v2 v3 g1 g2 g3 h; exact h.elim
  | succ n ih => exact fun σ v1 v2 v3 g1 g2 g3 h => a_X16_outputOf_4 K hQ hX ih σ v1 v2 v3 g1 g2 g3 h
set_option maxRecDepth 20000 in
theorem a_X16_outputOf_0 {Q : Sg → Int → Prop} {X : Sg → String → Prop} (K : MC R p s m args c cX16_outputOf 4 RX16 D cA tys A n0 s0 0 0 []) (hQ : HQI p l e R s m args below meth c cX16_outputOf D cA A n0 s0 QM dm ra jx rm Q) (hX : HX p l e R s m args below meth c 4 D cA A n0 s0 QM dm ra jx rm X) : ∀ (σ : Sg) (v1 : Int) (g1 : rng v1), w_X16_outputOf_0 ra jx rm Q X σ v1 → RG σ → Shp dm ra jx rm σ → JJ p l e R s m args below meth c 4 D cA A n0 s0 QM σ 0 [(0, .ref rm), (1, .int (i32 v1))] [] := by
  intro σ v1 g1 h hGσ hS H locs ls hH hl hc
  have B := K.1
  unfold w_X16_outputOf_0 at h
  refine lv_iconst (v := i32 0) B.1 B.2.1 dX16_outputOf_0 (by decide) ?_
  refine lv_istore_n (lv' := [(2, .int (i32 0)), (0, .ref rm), (1, .int (i32 v1))]) B.1 B.2.1 dX16_outputOf_1 rfl hl (by decide) rfl (fun ls hl => ?_)
  refine lv_iconst (v := i32 0) B.1 B.2.1 dX16_outputOf_2 (by decide) ?_
  refine lv_istore_n (lv' := [(3, .int (i32 0)), (2, .int (i32 0)), (0, .ref rm), (1, .int (i32 v1))]) B.1 B.2.1 dX16_outputOf_3 rfl hl (by decide) rfl (fun ls hl => ?_)
  obtain ⟨n9, h⟩ := h
  exact al_X16_outputOf_4 K hQ hX n9 _ _ _ _ g1 (by unfold rng; omega) (by unfold rng; omega) h hGσ hS _ _ _ hH (lv_sub (l' := [(0, .ref rm), (1, .int (i32 v1)), (2, .int (i32 0)), (3, .int (i32 0))]) hl [2, 3, 1, 0] rfl) hc
theorem ok_X16_outputOf (hT : Tys cA tys) {Q : Sg → Int → Prop} {X : Sg → String → Prop} (σ : Sg) (v1 : Int) (g1 : rng v1) (hG : RG σ) (hS : Shp dm ra jx rm σ) (h : wp_X16_outputOf ra jx rm v1 σ Q X) : Ok l D cA tys A yX16_outputOf (.code yX16_outputOf cX16_outputOf 4 (some .int)) 0 0 [.ref rm, .int (i32 v1)] σ (QnI dm ra jx rm Q) (QxR dm ra jx rm X) := by
  unfold wp_X16_outputOf at h
  exact ok_I (plainFor_of_name (by decide)) (by exact Nat.le_of_ble_eq_true rfl) hT (fun p e R s m args below meth c K hQ hX H locs ls hH hl hc => a_X16_outputOf_0 K hQ hX σ v1 g1 h hG hS H locs ls hH (lv_sub (l' := [(0, .ref rm), (1, .int (i32 v1))]) hl [0, 1] rfl) hc)
theorem dX16_passOn_0 : decode cX16_passOn 0 = .ok (.aload_n 0, 1) := by decide +kernel
theorem dX16_passOn_1 : decode cX16_passOn 1 = .ok (.getfield 661, 3) := by decide +kernel
theorem dX16_passOn_4 : decode cX16_passOn 4 = .ok (.iload_n 1, 1) := by decide +kernel
theorem dX16_passOn_5 : decode cX16_passOn 5 = .ok (.iaload, 1) := by decide +kernel
theorem dX16_passOn_6 : decode cX16_passOn 6 = .ok (.iconst (-1), 1) := by decide +kernel
theorem dX16_passOn_7 : decode cX16_passOn 7 = .ok (.if_icmp .eq 31, 3) := by decide +kernel
theorem dX16_passOn_10 : decode cX16_passOn 10 = .ok (.aload_n 0, 1) := by decide +kernel
theorem dX16_passOn_11 : decode cX16_passOn 11 = .ok (.getfield 661, 3) := by decide +kernel
theorem dX16_passOn_14 : decode cX16_passOn 14 = .ok (.iload_n 1, 1) := by decide +kernel
theorem dX16_passOn_15 : decode cX16_passOn 15 = .ok (.iaload, 1) := by decide +kernel
theorem dX16_passOn_16 : decode cX16_passOn 16 = .ok (.istore_n 3, 1) := by decide +kernel
theorem dX16_passOn_17 : decode cX16_passOn 17 = .ok (.aload_n 0, 1) := by decide +kernel
theorem dX16_passOn_18 : decode cX16_passOn 18 = .ok (.getfield 661, 3) := by decide +kernel
theorem dX16_passOn_21 : decode cX16_passOn 21 = .ok (.iload_n 1, 1) := by decide +kernel
theorem dX16_passOn_22 : decode cX16_passOn 22 = .ok (.aload_n 0, 1) := by decide +kernel
theorem dX16_passOn_23 : decode cX16_passOn 23 = .ok (.getfield 652, 3) := by decide +kernel
theorem dX16_passOn_26 : decode cX16_passOn 26 = .ok (.iload_n 3, 1) := by decide +kernel
theorem dX16_passOn_27 : decode cX16_passOn 27 = .ok (.iaload, 1) := by decide +kernel
theorem dX16_passOn_28 : decode cX16_passOn 28 = .ok (.iastore, 1) := by decide +kernel
theorem dX16_passOn_29 : decode cX16_passOn 29 = .ok (.aload_n 0, 1) := by decide +kernel
theorem dX16_passOn_30 : decode cX16_passOn 30 = .ok (.iload_n 2, 1) := by decide +kernel
theorem dX16_passOn_31 : decode cX16_passOn 31 = .ok (.iload_n 3, 1) := by decide +kernel
theorem dX16_passOn_32 : decode cX16_passOn 32 = .ok (.invokevirtual 679, 3) := by decide +kernel
theorem dX16_passOn_35 : decode cX16_passOn 35 = .ok (.goto (-35), 3) := by decide +kernel
theorem dX16_passOn_38 : decode cX16_passOn 38 = .ok (.aload_n 0, 1) := by decide +kernel
theorem dX16_passOn_39 : decode cX16_passOn 39 = .ok (.getfield 664, 3) := by decide +kernel
theorem dX16_passOn_42 : decode cX16_passOn 42 = .ok (.iload_n 1, 1) := by decide +kernel
theorem dX16_passOn_43 : decode cX16_passOn 43 = .ok (.iconst (-1), 1) := by decide +kernel
theorem dX16_passOn_44 : decode cX16_passOn 44 = .ok (.iastore, 1) := by decide +kernel
theorem dX16_passOn_45 : decode cX16_passOn 45 = .ok (.aload_n 0, 1) := by decide +kernel
theorem dX16_passOn_46 : decode cX16_passOn 46 = .ok (.getfield 667, 3) := by decide +kernel
theorem dX16_passOn_49 : decode cX16_passOn 49 = .ok (.iload_n 1, 1) := by decide +kernel
theorem dX16_passOn_50 : decode cX16_passOn 50 = .ok (.iconst 0, 1) := by decide +kernel
theorem dX16_passOn_51 : decode cX16_passOn 51 = .ok (.iastore, 1) := by decide +kernel
theorem dX16_passOn_52 : decode cX16_passOn 52 = .ok (.return_, 1) := by decide +kernel
set_option maxRecDepth 20000 in
theorem a_X16_passOn_38 {Q : Sg → Unit → Prop} {X : Sg → String → Prop} (K : MC R p s m args c cX16_passOn 4 RX16 D cA tys A n0 s0 1 22 []) (hQ : HQV p l e R s m args below meth c cX16_passOn D cA A n0 s0 QM dm ra jx rm Q) (hX : HX p l e R s m args below meth c 4 D cA A n0 s0 QM dm ra jx rm X) : ∀ (σ : Sg) (v1 : Int) (g1 : rng v1), w_X16_passOn_38 ra jx rm Q X σ v1 → RG σ → Shp dm ra jx rm σ → JJ p l e R s m args below meth c 4 D cA A n0 s0 QM σ 38 [(0, .ref rm), (1, .int (i32 v1))] [] := by
  intro σ v1 g1 h hGσ hS H locs ls hH hl hc
  have B := K.1
  unfold w_X16_passOn_38 at h
  refine lv_aload_n B.1 B.2.1 dX16_passOn_38 rfl (lv_at hl 0 rfl) ?_
  refine r_arr B hH hS 88 (kd := 100) (n := 12) (by decide) (by decide) wf_X16_664 rfl rfl dX16_passOn_39 ?_
  refine lv_iload_n B.1 B.2.1 dX16_passOn_42 rfl (lv_at hl 1 rfl) ?_
  refine lv_iconst (v := i32 (-1)) B.1 B.2.1 dX16_passOn_43 (by decide) ?_
  obtain ⟨q1, h⟩ := h
  obtain ⟨σ9, eσ9⟩ : ∃ z, z = pI σ (ra 88) v1.toNat (-1) := ⟨_, rfl⟩
  have h := h σ9 eσ9
  refine x_iast B K.2.1 hH (hS.ar (k := 88) (kd := 100) (n := 12) (by decide)) (by decide) q1 dX16_passOn_44 (fun H locs hH => ?_)
  have hH : Hd D cA A s (pI σ (ra 88) v1.toNat (-1)) H locs := hH
  rw [← eσ9] at hH
  have hGσ9 : RG σ9 := by rw [eσ9]; exact hGσ.pI (by unfold rng; omega)
  have hS : Shp dm ra jx rm σ9 := by rw [eσ9]; exact hS
  have hc : CB n0 s0 σ9 := by rw [eσ9]; exact hc
  rw [show gc σ = gc σ9 by rw [eσ9], show gs σ = gs σ9 by rw [eσ9]]
  refine lv_aload_n B.1 B.2.1 dX16_passOn_45 rfl (lv_at hl 0 rfl) ?_
  refine r_arr B hH hS 89 (kd := 100) (n := 12) (by decide) (by decide) wf_X16_667 rfl rfl dX16_passOn_46 ?_
  refine lv_iload_n B.1 B.2.1 dX16_passOn_49 rfl (lv_at hl 1 rfl) ?_
  refine lv_iconst (v := i32 0) B.1 B.2.1 dX16_passOn_50 (by decide) ?_
  obtain ⟨q3, h⟩ := h
  obtain ⟨σ10, eσ10⟩ : ∃ z, z = pI σ9 (ra 89) v1.toNat 0 := ⟨_, rfl⟩
  have h := h σ10 eσ10
  refine x_iast B K.2.1 hH (hS.ar (k := 89) (kd := 100) (n := 12) (by decide)) (by decide) q3 dX16_passOn_51 (fun H locs hH => ?_)
  have hH : Hd D cA A s (pI σ9 (ra 89) v1.toNat 0) H locs := hH
  rw [← eσ10] at hH
  have hGσ10 : RG σ10 := by rw [eσ10]; exact hGσ9.pI (by unfold rng; omega)
  have hS : Shp dm ra jx rm σ10 := by rw [eσ10]; exact hS
  have hc : CB n0 s0 σ10 := by rw [eσ10]; exact hc
  rw [show gc σ9 = gc σ10 by rw [eσ10], show gs σ9 = gs σ10 by rw [eσ10]]
  exact hQ _ _ _ _ _ dX16_passOn_52 hH hc h hGσ10 hS
set_option maxRecDepth 20000 in
theorem a_X16_passOn_10 {Q : Sg → Unit → Prop} {X : Sg → String → Prop} (K : MC R p s m args c cX16_passOn 4 RX16 D cA tys A n0 s0 1 22 []) (hQ : HQV p l e R s m args below meth c cX16_passOn D cA A n0 s0 QM dm ra jx rm Q) (hX : HX p l e R s m args below meth c 4 D cA A n0 s0 QM dm ra jx rm X) {K0 : Sg → Int → Int → Prop} (hK0 : ∀ (σ : Sg) (v1 : Int) (v2 : Int) (g1 : rng v1) (g2 : rng v2), K0 σ v1 v2 → RG σ → Shp dm ra jx rm σ → JJ p l e R s m args below meth c 4 D cA A n0 s0 QM σ 0 [(0, .ref rm), (1, .int (i32 v1)), (2, .int (i32 v2))] []) : ∀ (σ : Sg) (v1 : Int) (v2 : Int) (g1 : rng v1) (g2 : rng v2), w_X16_passOn_10 ra jx rm K0 Q X σ v1 v2 → RG σ → Shp dm ra jx rm σ → JJ p l e R s m args below meth c 4 D cA A n0 s0 QM σ 10 [(0, .ref rm), (1, .int (i32 v1)), (2, .int (i32 v2))] [] := by
  intro σ v1 v2 g1 g2 h hGσ hS H locs ls hH hl hc
  have B := K.1
  unfold w_X16_passOn_10 at h
  refine lv_aload_n B.1 B.2.1 dX16_passOn_10 rfl (lv_at hl 0 rfl) ?_
  refine r_arr B hH hS 87 (kd := 100) (n := 12) (by decide) (by decide) wf_X16_661 rfl rfl dX16_passOn_11 ?_
  refine lv_iload_n B.1 B.2.1 dX16_passOn_14 rfl (lv_at hl 1 rfl) ?_
  obtain ⟨q1, h⟩ := h
  refine x_iald B K.2.1 hH (hS.ar (k := 87) (kd := 100) (n := 12) (by decide)) (by decide) q1 dX16_passOn_15 ?_
  refine lv_istore_n (lv' := [(3, .int (i32 (gI σ (ra 87) v1.toNat))), (0, .ref rm), (1, .int (i32 v1)), (2, .int (i32 v2))]) B.1 B.2.1 dX16_passOn_16 rfl hl (by decide) rfl (fun ls hl => ?_)
  refine lv_aload_n B.1 B.2.1 dX16_passOn_17 rfl (lv_at hl 1 rfl) ?_
  refine r_arr B hH hS 87 (kd := 100) (n := 12) (by decide) (by decide) wf_X16_661 rfl rfl dX16_passOn_18 ?_
  refine lv_iload_n B.1 B.2.1 dX16_passOn_21 rfl (lv_at hl 2 rfl) ?_
  refine lv_aload_n B.1 B.2.1 dX16_passOn_22 rfl (lv_at hl 1 rfl) ?_
  refine r_arr B hH hS 86 (kd := 100) (n := 2000) (by decide) (by decide) wf_X16_652 rfl rfl dX16_passOn_23 ?_
  refine lv_iload_n B.1 B.2.1 dX16_passOn_26 rfl (lv_at hl 0 rfl) ?_
  obtain ⟨q2, h⟩ := h
  refine x_iald B K.2.1 hH (hS.ar (k := 86) (kd := 100) (n := 2000) (by decide)) (by decide) q2 dX16_passOn_27 ?_
  obtain ⟨q3, h⟩ := h
  obtain ⟨σ11, eσ11⟩ : ∃ z, z = pI σ (ra 87) v1.toNat (gI σ (ra 86) (gI σ (ra 87) v1.toNat).toNat) := ⟨_, rfl⟩
  have h := h σ11 eσ11
  refine x_iast B K.2.1 hH (hS.ar (k := 87) (kd := 100) (n := 12) (by decide)) (by decide) q3 dX16_passOn_28 (fun H locs hH => ?_)
  have hH : Hd D cA A s (pI σ (ra 87) v1.toNat (gI σ (ra 86) (gI σ (ra 87) v1.toNat).toNat)) H locs := hH
  rw [← eσ11] at hH
  have hGσ11 : RG σ11 := by rw [eσ11]; exact hGσ.pI (hGσ _ _)
  have hS : Shp dm ra jx rm σ11 := by rw [eσ11]; exact hS
  have hc : CB n0 s0 σ11 := by rw [eσ11]; exact hc
  rw [show gc σ = gc σ11 by rw [eσ11], show gs σ = gs σ11 by rw [eσ11]]
  refine lv_aload_n B.1 B.2.1 dX16_passOn_29 rfl (lv_at hl 1 rfl) ?_
  refine lv_iload_n B.1 B.2.1 dX16_passOn_30 rfl (lv_at hl 3 rfl) ?_
  refine lv_iload_n B.1 B.2.1 dX16_passOn_31 rfl (lv_at hl 0 rfl) ?_
  refine c_V B hH hl hc K.2.2.1 (C := RX16) (T := TX16) (N := 123) (ci := 16) (As := [.int (i32 v2), .int (i32 (gI σ (ra 87) v1.toNat))]) (ok_X16_hang K.2.1 σ11 v2 (gI σ (ra 87) v1.toNat) g2 (hGσ _ _) hGσ11 hS h) wc_X16_679 2 hd_X16_hang ⟨Nat.le_trans (Nat.le_of_ble_eq_true rfl) K.2.2.2.1, Nat.le_trans (Nat.le_of_ble_eq_true rfl) K.2.2.2.2.1⟩ hS.1.1 hS.1.2 (by decide) rfl rfl (rest := []) rfl (Nat.le_of_ble_eq_true rfl) dX16_passOn_32 (fun σ12 w hq => ?_) (fun σ9 E9 hx9 => hX σ9 E9 _ _ _ (tb_out K.2.2.2.2.2 rfl) hx9.1 hx9.2.1 hx9.2.2)
  obtain ⟨rfl, h, hGσ12, hS⟩ := hq
  intro H locs ls hH hl hc
  refine W.eq (g2 := F0 m 35 ls []) (rfl) ?_
  try dsimp only at h
  refine lv_goto (tgt := 0) B.1 B.2.1 dX16_passOn_35 (by decide) ?_
  exact hK0 _ _ _ g1 g2 h hGσ12 hS _ _ _ hH (lv_sub (l' := [(0, .ref rm), (1, .int (i32 v1)), (2, .int (i32 v2))]) hl [1, 2, 3] rfl) hc
set_option maxRecDepth 20000 in
theorem a_X16_passOn_0 {Q : Sg → Unit → Prop} {X : Sg → String → Prop} (K : MC R p s m args c cX16_passOn 4 RX16 D cA tys A n0 s0 1 22 []) (hQ : HQV p l e R s m args below meth c cX16_passOn D cA A n0 s0 QM dm ra jx rm Q) (hX : HX p l e R s m args below meth c 4 D cA A n0 s0 QM dm ra jx rm X) {K0 : Sg → Int → Int → Prop} (hK0 : ∀ (σ : Sg) (v1 : Int) (v2 : Int) (g1 : rng v1) (g2 : rng v2), K0 σ v1 v2 → RG σ → Shp dm ra jx rm σ → JJ p l e R s m args below meth c 4 D cA A n0 s0 QM σ 0 [(0, .ref rm), (1, .int (i32 v1)), (2, .int (i32 v2))] []) : ∀ (σ : Sg) (v1 : Int) (v2 : Int) (g1 : rng v1) (g2 : rng v2), w_X16_passOn_0 ra jx rm K0 Q X σ v1 v2 → RG σ → Shp dm ra jx rm σ → JJ p l e R s m args below meth c 4 D cA A n0 s0 QM σ 0 [(0, .ref rm), (1, .int (i32 v1)), (2, .int (i32 v2))] [] := by
  intro σ v1 v2 g1 g2 h hGσ hS H locs ls hH hl hc
  have B := K.1
  unfold w_X16_passOn_0 at h
  refine lv_aload_n B.1 B.2.1 dX16_passOn_0 rfl (lv_at hl 0 rfl) ?_
  refine r_arr B hH hS 87 (kd := 100) (n := 12) (by decide) (by decide) wf_X16_661 rfl rfl dX16_passOn_1 ?_
  refine lv_iload_n B.1 B.2.1 dX16_passOn_4 rfl (lv_at hl 1 rfl) ?_
  obtain ⟨q1, h⟩ := h
  refine x_iald B K.2.1 hH (hS.ar (k := 87) (kd := 100) (n := 12) (by decide)) (by decide) q1 dX16_passOn_5 ?_
  refine lv_iconst (v := i32 (-1)) B.1 B.2.1 dX16_passOn_6 (by decide) ?_
  refine lv_icmp_eq (tgt := 38) B.1 B.2.1 dX16_passOn_7 (by decide) (fun h9 => ?_) (fun h9 => ?_)
  · rw [if_pos ((i32_eq (hGσ _ _) (by unfold rng; omega)).mp h9)] at h
    exact a_X16_passOn_38 K hQ hX _ _ g1 h hGσ hS _ _ _ hH (lv_sub (l' := [(0, .ref rm), (1, .int (i32 v1))]) hl [0, 1] rfl) hc
  · rw [if_neg (fun q => h9 ((i32_eq (hGσ _ _) (by unfold rng; omega)).mpr q))] at h
    exact a_X16_passOn_10 K hQ hX hK0 _ _ _ g1 g2 h hGσ hS _ _ _ hH (lv_sub (l' := [(0, .ref rm), (1, .int (i32 v1)), (2, .int (i32 v2))]) hl [0, 1, 2] rfl) hc
theorem al_X16_passOn_0 {Q : Sg → Unit → Prop} {X : Sg → String → Prop} (K : MC R p s m args c cX16_passOn 4 RX16 D cA tys A n0 s0 1 22 []) (hQ : HQV p l e R s m args below meth c cX16_passOn D cA A n0 s0 QM dm ra jx rm Q) (hX : HX p l e R s m args below meth c 4 D cA A n0 s0 QM dm ra jx rm X) : ∀ (n : Nat), ∀ (σ : Sg) (v1 : Int) (v2 : Int) (g1 : rng v1) (g2 : rng v2), wl_X16_passOn_0 ra jx rm Q X n σ v1 v2 → RG σ → Shp dm ra jx rm σ → JJ p l e R s m args below meth c 4 D cA A n0 s0 QM σ 0 [(0, .ref rm), (1, .int (i32 v1)), (2, .int (i32 v2))] [] := by
  intro n
  induction n with
  | zero => intro σ v1 v2 g1 g2 h; exact h.elim
  | succ n ih => exact fun σ v1 v2 g1 g2 h => a_X16_passOn_0 K hQ hX ih σ v1 v2 g1 g2 h
theorem ok_X16_passOn (hT : Tys cA tys) {Q : Sg → Unit → Prop} {X : Sg → String → Prop} (σ : Sg) (v1 : Int) (v2 : Int) (g1 : rng v1) (g2 : rng v2) (hG : RG σ) (hS : Shp dm ra jx rm σ) (h : wp_X16_passOn ra jx rm v1 v2 σ Q X) : Ok l D cA tys A yX16_passOn (.code yX16_passOn cX16_passOn 4 none) 1 22 [.ref rm, .int (i32 v1), .int (i32 v2)] σ (QnV dm ra jx rm Q) (QxR dm ra jx rm X) := by
  unfold wp_X16_passOn at h
  obtain ⟨n9, h⟩ := h
  exact ok_V (plainFor_of_name (by decide)) (by exact Nat.le_of_ble_eq_true rfl) hT (fun p e R s m args below meth c K hQ hX H locs ls hH hl hc => al_X16_passOn_0 K hQ hX n9 σ v1 v2 g1 g2 h hG hS H locs ls hH (lv_sub (l' := [(0, .ref rm), (1, .int (i32 v1)), (2, .int (i32 v2))]) hl [0, 1, 2] rfl) hc)
theorem dX16_show_0 : decode cX16_show 0 = .ok (.aload_n 0, 1) := by decide +kernel
theorem dX16_show_1 : decode cX16_show 1 = .ok (.getfield 356, 3) := by decide +kernel
theorem dX16_show_4 : decode cX16_show 4 = .ok (.getfield 178, 3) := by decide +kernel
theorem dX16_show_7 : decode cX16_show 7 = .ok (.aload_n 0, 1) := by decide +kernel
theorem dX16_show_8 : decode cX16_show 8 = .ok (.iload_n 1, 1) := by decide +kernel
theorem dX16_show_9 : decode cX16_show 9 = .ok (.invokevirtual 682, 3) := by decide +kernel
theorem dX16_show_12 : decode cX16_show 12 = .ok (.iaload, 1) := by decide +kernel
theorem dX16_show_13 : decode cX16_show 13 = .ok (.istore_n 2, 1) := by decide +kernel
theorem dX16_show_14 : decode cX16_show 14 = .ok (.iconst 3, 1) := by decide +kernel
theorem dX16_show_15 : decode cX16_show 15 = .ok (.iload_n 1, 1) := by decide +kernel
theorem dX16_show_16 : decode cX16_show 16 = .ok (.imul, 1) := by decide +kernel
theorem dX16_show_17 : decode cX16_show 17 = .ok (.iconst 1, 1) := by decide +kernel
theorem dX16_show_18 : decode cX16_show 18 = .ok (.iadd, 1) := by decide +kernel
theorem dX16_show_19 : decode cX16_show 19 = .ok (.istore_n 3, 1) := by decide +kernel
theorem dX16_show_20 : decode cX16_show 20 = .ok (.aload_n 0, 1) := by decide +kernel
theorem dX16_show_21 : decode cX16_show 21 = .ok (.getfield 661, 3) := by decide +kernel
theorem dX16_show_24 : decode cX16_show 24 = .ok (.iload_n 3, 1) := by decide +kernel
theorem dX16_show_25 : decode cX16_show 25 = .ok (.iaload, 1) := by decide +kernel
theorem dX16_show_26 : decode cX16_show 26 = .ok (.iconst (-1), 1) := by decide +kernel
theorem dX16_show_27 : decode cX16_show 27 = .ok (.if_icmp .eq 151, 3) := by decide +kernel
theorem dX16_show_30 : decode cX16_show 30 = .ok (.aload_n 0, 1) := by decide +kernel
theorem dX16_show_31 : decode cX16_show 31 = .ok (.getfield 661, 3) := by decide +kernel
theorem dX16_show_34 : decode cX16_show 34 = .ok (.iload_n 3, 1) := by decide +kernel
theorem dX16_show_35 : decode cX16_show 35 = .ok (.iaload, 1) := by decide +kernel
theorem dX16_show_36 : decode cX16_show 36 = .ok (.istore 4, 2) := by decide +kernel
theorem dX16_show_38 : decode cX16_show 38 = .ok (.iconst (-1), 1) := by decide +kernel
theorem dX16_show_39 : decode cX16_show 39 = .ok (.istore 5, 2) := by decide +kernel
theorem dX16_show_41 : decode cX16_show 41 = .ok (.aload_n 0, 1) := by decide +kernel
theorem dX16_show_42 : decode cX16_show 42 = .ok (.getfield 661, 3) := by decide +kernel
theorem dX16_show_45 : decode cX16_show 45 = .ok (.iload_n 3, 1) := by decide +kernel
theorem dX16_show_46 : decode cX16_show 46 = .ok (.iaload, 1) := by decide +kernel
theorem dX16_show_47 : decode cX16_show 47 = .ok (.istore 6, 2) := by decide +kernel
theorem dX16_show_49 : decode cX16_show 49 = .ok (.aload_n 0, 1) := by decide +kernel
theorem dX16_show_50 : decode cX16_show 50 = .ok (.getfield 652, 3) := by decide +kernel
theorem dX16_show_53 : decode cX16_show 53 = .ok (.iload 6, 2) := by decide +kernel
theorem dX16_show_55 : decode cX16_show 55 = .ok (.iaload, 1) := by decide +kernel
theorem dX16_show_56 : decode cX16_show 56 = .ok (.istore 7, 2) := by decide +kernel
theorem dX16_show_58 : decode cX16_show 58 = .ok (.iload 7, 2) := by decide +kernel
theorem dX16_show_60 : decode cX16_show 60 = .ok (.iconst (-1), 1) := by decide +kernel
theorem dX16_show_61 : decode cX16_show 61 = .ok (.if_icmp .eq 67, 3) := by decide +kernel
theorem dX16_show_64 : decode cX16_show 64 = .ok (.aload_n 0, 1) := by decide +kernel
theorem dX16_show_65 : decode cX16_show 65 = .ok (.aload_n 0, 1) := by decide +kernel
theorem dX16_show_66 : decode cX16_show 66 = .ok (.getfield 670, 3) := by decide +kernel
theorem dX16_show_69 : decode cX16_show 69 = .ok (.iload 7, 2) := by decide +kernel
theorem dX16_show_71 : decode cX16_show 71 = .ok (.laload, 1) := by decide +kernel
theorem dX16_show_72 : decode cX16_show 72 = .ok (.aload_n 0, 1) := by decide +kernel
theorem dX16_show_73 : decode cX16_show 73 = .ok (.getfield 673, 3) := by decide +kernel
theorem dX16_show_76 : decode cX16_show 76 = .ok (.bipush 8, 2) := by decide +kernel
theorem dX16_show_78 : decode cX16_show 78 = .ok (.iload 7, 2) := by decide +kernel
theorem dX16_show_80 : decode cX16_show 80 = .ok (.imul, 1) := by decide +kernel
theorem dX16_show_81 : decode cX16_show 81 = .ok (.aload_n 0, 1) := by decide +kernel
theorem dX16_show_82 : decode cX16_show 82 = .ok (.getfield 670, 3) := by decide +kernel
theorem dX16_show_85 : decode cX16_show 85 = .ok (.iload 4, 2) := by decide +kernel
theorem dX16_show_87 : decode cX16_show 87 = .ok (.laload, 1) := by decide +kernel
theorem dX16_show_88 : decode cX16_show 88 = .ok (.aload_n 0, 1) := by decide +kernel
theorem dX16_show_89 : decode cX16_show 89 = .ok (.getfield 673, 3) := by decide +kernel
theorem dX16_show_92 : decode cX16_show 92 = .ok (.bipush 8, 2) := by decide +kernel
theorem dX16_show_94 : decode cX16_show 94 = .ok (.iload 4, 2) := by decide +kernel
theorem dX16_show_96 : decode cX16_show 96 = .ok (.imul, 1) := by decide +kernel
theorem dX16_show_97 : decode cX16_show 97 = .ok (.iload_n 2, 1) := by decide +kernel
theorem dX16_show_98 : decode cX16_show 98 = .ok (.invokevirtual 534, 3) := by decide +kernel
theorem dX16_show_101 : decode cX16_show 101 = .ok (.ifCond .ge 11, 3) := by decide +kernel
theorem dX16_show_104 : decode cX16_show 104 = .ok (.iload 7, 2) := by decide +kernel
theorem dX16_show_106 : decode cX16_show 106 = .ok (.istore 4, 2) := by decide +kernel
theorem dX16_show_108 : decode cX16_show 108 = .ok (.iload 6, 2) := by decide +kernel
theorem dX16_show_110 : decode cX16_show 110 = .ok (.istore 5, 2) := by decide +kernel
theorem dX16_show_112 : decode cX16_show 112 = .ok (.iload 7, 2) := by decide +kernel
theorem dX16_show_114 : decode cX16_show 114 = .ok (.istore 6, 2) := by decide +kernel
theorem dX16_show_116 : decode cX16_show 116 = .ok (.aload_n 0, 1) := by decide +kernel
theorem dX16_show_117 : decode cX16_show 117 = .ok (.getfield 652, 3) := by decide +kernel
theorem dX16_show_120 : decode cX16_show 120 = .ok (.iload 7, 2) := by decide +kernel
theorem dX16_show_122 : decode cX16_show 122 = .ok (.iaload, 1) := by decide +kernel
theorem dX16_show_123 : decode cX16_show 123 = .ok (.istore 7, 2) := by decide +kernel
theorem dX16_show_125 : decode cX16_show 125 = .ok (.goto (-67), 3) := by decide +kernel
theorem dX16_show_128 : decode cX16_show 128 = .ok (.iload 5, 2) := by decide +kernel
theorem dX16_show_130 : decode cX16_show 130 = .ok (.iconst (-1), 1) := by decide +kernel
theorem dX16_show_131 : decode cX16_show 131 = .ok (.if_icmp .ne 19, 3) := by decide +kernel
theorem dX16_show_134 : decode cX16_show 134 = .ok (.aload_n 0, 1) := by decide +kernel
theorem dX16_show_135 : decode cX16_show 135 = .ok (.getfield 661, 3) := by decide +kernel
theorem dX16_show_138 : decode cX16_show 138 = .ok (.iload_n 3, 1) := by decide +kernel
theorem dX16_show_139 : decode cX16_show 139 = .ok (.aload_n 0, 1) := by decide +kernel
theorem dX16_show_140 : decode cX16_show 140 = .ok (.getfield 652, 3) := by decide +kernel
theorem dX16_show_143 : decode cX16_show 143 = .ok (.iload 4, 2) := by decide +kernel
theorem dX16_show_145 : decode cX16_show 145 = .ok (.iaload, 1) := by decide +kernel
theorem dX16_show_146 : decode cX16_show 146 = .ok (.iastore, 1) := by decide +kernel
theorem dX16_show_147 : decode cX16_show 147 = .ok (.goto 17, 3) := by decide +kernel
theorem dX16_show_150 : decode cX16_show 150 = .ok (.aload_n 0, 1) := by decide +kernel
theorem dX16_show_151 : decode cX16_show 151 = .ok (.getfield 652, 3) := by decide +kernel
theorem dX16_show_154 : decode cX16_show 154 = .ok (.iload 5, 2) := by decide +kernel
theorem dX16_show_156 : decode cX16_show 156 = .ok (.aload_n 0, 1) := by decide +kernel
theorem dX16_show_157 : decode cX16_show 157 = .ok (.getfield 652, 3) := by decide +kernel
theorem dX16_show_160 : decode cX16_show 160 = .ok (.iload 4, 2) := by decide +kernel
theorem dX16_show_162 : decode cX16_show 162 = .ok (.iaload, 1) := by decide +kernel
theorem dX16_show_163 : decode cX16_show 163 = .ok (.iastore, 1) := by decide +kernel
theorem dX16_show_164 : decode cX16_show 164 = .ok (.aload_n 0, 1) := by decide +kernel
theorem dX16_show_165 : decode cX16_show 165 = .ok (.iconst 3, 1) := by decide +kernel
theorem dX16_show_166 : decode cX16_show 166 = .ok (.iload_n 1, 1) := by decide +kernel
theorem dX16_show_167 : decode cX16_show 167 = .ok (.imul, 1) := by decide +kernel
theorem dX16_show_168 : decode cX16_show 168 = .ok (.iconst 2, 1) := by decide +kernel
theorem dX16_show_169 : decode cX16_show 169 = .ok (.iadd, 1) := by decide +kernel
theorem dX16_show_170 : decode cX16_show 170 = .ok (.iload 4, 2) := by decide +kernel
theorem dX16_show_172 : decode cX16_show 172 = .ok (.invokevirtual 679, 3) := by decide +kernel
theorem dX16_show_175 : decode cX16_show 175 = .ok (.goto (-155), 3) := by decide +kernel
theorem dX16_show_178 : decode cX16_show 178 = .ok (.aload_n 0, 1) := by decide +kernel
theorem dX16_show_179 : decode cX16_show 179 = .ok (.getfield 664, 3) := by decide +kernel
theorem dX16_show_182 : decode cX16_show 182 = .ok (.iload_n 3, 1) := by decide +kernel
theorem dX16_show_183 : decode cX16_show 183 = .ok (.iconst (-1), 1) := by decide +kernel
theorem dX16_show_184 : decode cX16_show 184 = .ok (.iastore, 1) := by decide +kernel
theorem dX16_show_185 : decode cX16_show 185 = .ok (.aload_n 0, 1) := by decide +kernel
theorem dX16_show_186 : decode cX16_show 186 = .ok (.getfield 667, 3) := by decide +kernel
theorem dX16_show_189 : decode cX16_show 189 = .ok (.iload_n 3, 1) := by decide +kernel
theorem dX16_show_190 : decode cX16_show 190 = .ok (.iconst 0, 1) := by decide +kernel
theorem dX16_show_191 : decode cX16_show 191 = .ok (.iastore, 1) := by decide +kernel
theorem dX16_show_192 : decode cX16_show 192 = .ok (.return_, 1) := by decide +kernel
set_option maxRecDepth 20000 in
theorem a_X16_show_178 {Q : Sg → Unit → Prop} {X : Sg → String → Prop} (K : MC R p s m args c cX16_show 8 RX16 D cA tys A n0 s0 1 30 []) (hQ : HQV p l e R s m args below meth c cX16_show D cA A n0 s0 QM dm ra jx rm Q) (hX : HX p l e R s m args below meth c 8 D cA A n0 s0 QM dm ra jx rm X) : ∀ (σ : Sg) (v3 : Int) (g3 : rng v3), w_X16_show_178 ra jx rm Q X σ v3 → RG σ → Shp dm ra jx rm σ → JJ p l e R s m args below meth c 8 D cA A n0 s0 QM σ 178 [(0, .ref rm), (3, .int (i32 v3))] [] := by
  intro σ v3 g3 h hGσ hS H locs ls hH hl hc
  have B := K.1
  unfold w_X16_show_178 at h
  refine lv_aload_n B.1 B.2.1 dX16_show_178 rfl (lv_at hl 0 rfl) ?_
  refine r_arr B hH hS 88 (kd := 100) (n := 12) (by decide) (by decide) wf_X16_664 rfl rfl dX16_show_179 ?_
  refine lv_iload_n B.1 B.2.1 dX16_show_182 rfl (lv_at hl 1 rfl) ?_
  refine lv_iconst (v := i32 (-1)) B.1 B.2.1 dX16_show_183 (by decide) ?_
  obtain ⟨q1, h⟩ := h
  obtain ⟨σ21, eσ21⟩ : ∃ z, z = pI σ (ra 88) v3.toNat (-1) := ⟨_, rfl⟩
  have h := h σ21 eσ21
  refine x_iast B K.2.1 hH (hS.ar (k := 88) (kd := 100) (n := 12) (by decide)) (by decide) q1 dX16_show_184 (fun H locs hH => ?_)
  have hH : Hd D cA A s (pI σ (ra 88) v3.toNat (-1)) H locs := hH
  rw [← eσ21] at hH
  have hGσ21 : RG σ21 := by rw [eσ21]; exact hGσ.pI (by unfold rng; omega)
  have hS : Shp dm ra jx rm σ21 := by rw [eσ21]; exact hS
  have hc : CB n0 s0 σ21 := by rw [eσ21]; exact hc
  rw [show gc σ = gc σ21 by rw [eσ21], show gs σ = gs σ21 by rw [eσ21]]
  refine lv_aload_n B.1 B.2.1 dX16_show_185 rfl (lv_at hl 0 rfl) ?_
  refine r_arr B hH hS 89 (kd := 100) (n := 12) (by decide) (by decide) wf_X16_667 rfl rfl dX16_show_186 ?_
  refine lv_iload_n B.1 B.2.1 dX16_show_189 rfl (lv_at hl 1 rfl) ?_
  refine lv_iconst (v := i32 0) B.1 B.2.1 dX16_show_190 (by decide) ?_
  obtain ⟨q3, h⟩ := h
  obtain ⟨σ22, eσ22⟩ : ∃ z, z = pI σ21 (ra 89) v3.toNat 0 := ⟨_, rfl⟩
  have h := h σ22 eσ22
  refine x_iast B K.2.1 hH (hS.ar (k := 89) (kd := 100) (n := 12) (by decide)) (by decide) q3 dX16_show_191 (fun H locs hH => ?_)
  have hH : Hd D cA A s (pI σ21 (ra 89) v3.toNat 0) H locs := hH
  rw [← eσ22] at hH
  have hGσ22 : RG σ22 := by rw [eσ22]; exact hGσ21.pI (by unfold rng; omega)
  have hS : Shp dm ra jx rm σ22 := by rw [eσ22]; exact hS
  have hc : CB n0 s0 σ22 := by rw [eσ22]; exact hc
  rw [show gc σ21 = gc σ22 by rw [eσ22], show gs σ21 = gs σ22 by rw [eσ22]]
  exact hQ _ _ _ _ _ dX16_show_192 hH hc h hGσ22 hS
set_option maxRecDepth 20000 in
theorem a_X16_show_164 {Q : Sg → Unit → Prop} {X : Sg → String → Prop} (K : MC R p s m args c cX16_show 8 RX16 D cA tys A n0 s0 1 30 []) (hQ : HQV p l e R s m args below meth c cX16_show D cA A n0 s0 QM dm ra jx rm Q) (hX : HX p l e R s m args below meth c 8 D cA A n0 s0 QM dm ra jx rm X) {K20 : Sg → Int → Int → Int → Prop} (hK20 : ∀ (σ : Sg) (v1 : Int) (v2 : Int) (v3 : Int) (g1 : rng v1) (g2 : rng v2) (g3 : rng v3), K20 σ v1 v2 v3 → RG σ → Shp dm ra jx rm σ → JJ p l e R s m args below meth c 8 D cA A n0 s0 QM σ 20 [(0, .ref rm), (1, .int (i32 v1)), (2, .int (i32 v2)), (3, .int (i32 v3))] []) : ∀ (σ : Sg) (v1 : Int) (v2 : Int) (v3 : Int) (v4 : Int) (g1 : rng v1) (g2 : rng v2) (g3 : rng v3) (g4 : rng v4), w_X16_show_164 ra jx rm K20 Q X σ v1 v2 v3 v4 → RG σ → Shp dm ra jx rm σ → JJ p l e R s m args below meth c 8 D cA A n0 s0 QM σ 164 [(0, .ref rm), (1, .int (i32 v1)), (2, .int (i32 v2)), (3, .int (i32 v3)), (4, .int (i32 v4))] [] := by
  intro σ v1 v2 v3 v4 g1 g2 g3 g4 h hGσ hS H locs ls hH hl hc
  have B := K.1
  unfold w_X16_show_164 at h
  refine lv_aload_n B.1 B.2.1 dX16_show_164 rfl (lv_at hl 0 rfl) ?_
  refine lv_iconst (v := i32 3) B.1 B.2.1 dX16_show_165 (by decide) ?_
  refine lv_iload_n B.1 B.2.1 dX16_show_166 rfl (lv_at hl 1 rfl) ?_
  obtain ⟨q1, h⟩ := h
  refine lv_imul B.1 B.2.1 dX16_show_167 ?_
  rw [i32_mul]
  refine lv_iconst (v := i32 2) B.1 B.2.1 dX16_show_168 (by decide) ?_
  obtain ⟨q2, h⟩ := h
  refine lv_iadd B.1 B.2.1 dX16_show_169 ?_
  rw [i32_add]
  refine lv_iload B.1 B.2.1 dX16_show_170 (lv_at hl 4 rfl) ?_
  refine c_V B hH hl hc K.2.2.1 (C := RX16) (T := TX16) (N := 123) (ci := 16) (As := [.int (i32 ((3 * v1) + 2)), .int (i32 v4)]) (ok_X16_hang K.2.1 σ ((3 * v1) + 2) v4 q2 g4 hGσ hS h) wc_X16_679 2 hd_X16_hang ⟨Nat.le_trans (Nat.le_of_ble_eq_true rfl) K.2.2.2.1, Nat.le_trans (Nat.le_of_ble_eq_true rfl) K.2.2.2.2.1⟩ hS.1.1 hS.1.2 (by decide) rfl rfl (rest := []) rfl (Nat.le_of_ble_eq_true rfl) dX16_show_172 (fun σ23 w hq => ?_) (fun σ9 E9 hx9 => hX σ9 E9 _ _ _ (tb_out K.2.2.2.2.2 rfl) hx9.1 hx9.2.1 hx9.2.2)
  obtain ⟨rfl, h, hGσ23, hS⟩ := hq
  intro H locs ls hH hl hc
  refine W.eq (g2 := F0 m 175 ls []) (rfl) ?_
  try dsimp only at h
  refine lv_goto (tgt := 20) B.1 B.2.1 dX16_show_175 (by decide) ?_
  exact hK20 _ _ _ _ g1 g2 g3 h hGσ23 hS _ _ _ hH (lv_sub (l' := [(0, .ref rm), (1, .int (i32 v1)), (2, .int (i32 v2)), (3, .int (i32 v3))]) hl [0, 1, 2, 3] rfl) hc
set_option maxRecDepth 20000 in
theorem a_X16_show_150 {Q : Sg → Unit → Prop} {X : Sg → String → Prop} (K : MC R p s m args c cX16_show 8 RX16 D cA tys A n0 s0 1 30 []) (hQ : HQV p l e R s m args below meth c cX16_show D cA A n0 s0 QM dm ra jx rm Q) (hX : HX p l e R s m args below meth c 8 D cA A n0 s0 QM dm ra jx rm X) {K20 : Sg → Int → Int → Int → Prop} (hK20 : ∀ (σ : Sg) (v1 : Int) (v2 : Int) (v3 : Int) (g1 : rng v1) (g2 : rng v2) (g3 : rng v3), K20 σ v1 v2 v3 → RG σ → Shp dm ra jx rm σ → JJ p l e R s m args below meth c 8 D cA A n0 s0 QM σ 20 [(0, .ref rm), (1, .int (i32 v1)), (2, .int (i32 v2)), (3, .int (i32 v3))] []) : ∀ (σ : Sg) (v1 : Int) (v2 : Int) (v3 : Int) (v4 : Int) (v5 : Int) (g1 : rng v1) (g2 : rng v2) (g3 : rng v3) (g4 : rng v4) (g5 : rng v5), w_X16_show_150 ra jx rm K20 Q X σ v1 v2 v3 v4 v5 → RG σ → Shp dm ra jx rm σ → JJ p l e R s m args below meth c 8 D cA A n0 s0 QM σ 150 [(0, .ref rm), (1, .int (i32 v1)), (2, .int (i32 v2)), (3, .int (i32 v3)), (4, .int (i32 v4)), (5, .int (i32 v5))] [] := by
  intro σ v1 v2 v3 v4 v5 g1 g2 g3 g4 g5 h hGσ hS H locs ls hH hl hc
  have B := K.1
  unfold w_X16_show_150 at h
  refine lv_aload_n B.1 B.2.1 dX16_show_150 rfl (lv_at hl 0 rfl) ?_
  refine r_arr B hH hS 86 (kd := 100) (n := 2000) (by decide) (by decide) wf_X16_652 rfl rfl dX16_show_151 ?_
  refine lv_iload B.1 B.2.1 dX16_show_154 (lv_at hl 5 rfl) ?_
  refine lv_aload_n B.1 B.2.1 dX16_show_156 rfl (lv_at hl 0 rfl) ?_
  refine r_arr B hH hS 86 (kd := 100) (n := 2000) (by decide) (by decide) wf_X16_652 rfl rfl dX16_show_157 ?_
  refine lv_iload B.1 B.2.1 dX16_show_160 (lv_at hl 4 rfl) ?_
  obtain ⟨q1, h⟩ := h
  refine x_iald B K.2.1 hH (hS.ar (k := 86) (kd := 100) (n := 2000) (by decide)) (by decide) q1 dX16_show_162 ?_
  obtain ⟨q2, h⟩ := h
  obtain ⟨σ24, eσ24⟩ : ∃ z, z = pI σ (ra 86) v5.toNat (gI σ (ra 86) v4.toNat) := ⟨_, rfl⟩
  have h := h σ24 eσ24
  refine x_iast B K.2.1 hH (hS.ar (k := 86) (kd := 100) (n := 2000) (by decide)) (by decide) q2 dX16_show_163 (fun H locs hH => ?_)
  have hH : Hd D cA A s (pI σ (ra 86) v5.toNat (gI σ (ra 86) v4.toNat)) H locs := hH
  rw [← eσ24] at hH
  have hGσ24 : RG σ24 := by rw [eσ24]; exact hGσ.pI (hGσ _ _)
  have hS : Shp dm ra jx rm σ24 := by rw [eσ24]; exact hS
  have hc : CB n0 s0 σ24 := by rw [eσ24]; exact hc
  rw [show gc σ = gc σ24 by rw [eσ24], show gs σ = gs σ24 by rw [eσ24]]
  exact a_X16_show_164 K hQ hX hK20 _ _ _ _ _ g1 g2 g3 g4 h hGσ24 hS _ _ _ hH (lv_sub (l' := [(0, .ref rm), (1, .int (i32 v1)), (2, .int (i32 v2)), (3, .int (i32 v3)), (4, .int (i32 v4))]) hl [0, 1, 2, 3, 4] rfl) hc
set_option maxRecDepth 20000 in
theorem a_X16_show_134 {Q : Sg → Unit → Prop} {X : Sg → String → Prop} (K : MC R p s m args c cX16_show 8 RX16 D cA tys A n0 s0 1 30 []) (hQ : HQV p l e R s m args below meth c cX16_show D cA A n0 s0 QM dm ra jx rm Q) (hX : HX p l e R s m args below meth c 8 D cA A n0 s0 QM dm ra jx rm X) {K20 : Sg → Int → Int → Int → Prop} (hK20 : ∀ (σ : Sg) (v1 : Int) (v2 : Int) (v3 : Int) (g1 : rng v1) (g2 : rng v2) (g3 : rng v3), K20 σ v1 v2 v3 → RG σ → Shp dm ra jx rm σ → JJ p l e R s m args below meth c 8 D cA A n0 s0 QM σ 20 [(0, .ref rm), (1, .int (i32 v1)), (2, .int (i32 v2)), (3, .int (i32 v3))] []) : ∀ (σ : Sg) (v1 : Int) (v2 : Int) (v3 : Int) (v4 : Int) (g1 : rng v1) (g2 : rng v2) (g3 : rng v3) (g4 : rng v4), w_X16_show_134 ra jx rm K20 Q X σ v1 v2 v3 v4 → RG σ → Shp dm ra jx rm σ → JJ p l e R s m args below meth c 8 D cA A n0 s0 QM σ 134 [(0, .ref rm), (1, .int (i32 v1)), (2, .int (i32 v2)), (3, .int (i32 v3)), (4, .int (i32 v4))] [] := by
  intro σ v1 v2 v3 v4 g1 g2 g3 g4 h hGσ hS H locs ls hH hl hc
  have B := K.1
  unfold w_X16_show_134 at h
  refine lv_aload_n B.1 B.2.1 dX16_show_134 rfl (lv_at hl 0 rfl) ?_
  refine r_arr B hH hS 87 (kd := 100) (n := 12) (by decide) (by decide) wf_X16_661 rfl rfl dX16_show_135 ?_
  refine lv_iload_n B.1 B.2.1 dX16_show_138 rfl (lv_at hl 3 rfl) ?_
  refine lv_aload_n B.1 B.2.1 dX16_show_139 rfl (lv_at hl 0 rfl) ?_
  refine r_arr B hH hS 86 (kd := 100) (n := 2000) (by decide) (by decide) wf_X16_652 rfl rfl dX16_show_140 ?_
  refine lv_iload B.1 B.2.1 dX16_show_143 (lv_at hl 4 rfl) ?_
  obtain ⟨q1, h⟩ := h
  refine x_iald B K.2.1 hH (hS.ar (k := 86) (kd := 100) (n := 2000) (by decide)) (by decide) q1 dX16_show_145 ?_
  obtain ⟨q2, h⟩ := h
  obtain ⟨σ25, eσ25⟩ : ∃ z, z = pI σ (ra 87) v3.toNat (gI σ (ra 86) v4.toNat) := ⟨_, rfl⟩
  have h := h σ25 eσ25
  refine x_iast B K.2.1 hH (hS.ar (k := 87) (kd := 100) (n := 12) (by decide)) (by decide) q2 dX16_show_146 (fun H locs hH => ?_)
  have hH : Hd D cA A s (pI σ (ra 87) v3.toNat (gI σ (ra 86) v4.toNat)) H locs := hH
  rw [← eσ25] at hH
  have hGσ25 : RG σ25 := by rw [eσ25]; exact hGσ.pI (hGσ _ _)
  have hS : Shp dm ra jx rm σ25 := by rw [eσ25]; exact hS
  have hc : CB n0 s0 σ25 := by rw [eσ25]; exact hc
  rw [show gc σ = gc σ25 by rw [eσ25], show gs σ = gs σ25 by rw [eσ25]]
  refine lv_goto (tgt := 164) B.1 B.2.1 dX16_show_147 (by decide) ?_
  exact a_X16_show_164 K hQ hX hK20 _ _ _ _ _ g1 g2 g3 g4 h hGσ25 hS _ _ _ hH (lv_sub (l' := [(0, .ref rm), (1, .int (i32 v1)), (2, .int (i32 v2)), (3, .int (i32 v3)), (4, .int (i32 v4))]) hl [0, 1, 2, 3, 4] rfl) hc
set_option maxRecDepth 20000 in
theorem a_X16_show_128 {Q : Sg → Unit → Prop} {X : Sg → String → Prop} (K : MC R p s m args c cX16_show 8 RX16 D cA tys A n0 s0 1 30 []) (hQ : HQV p l e R s m args below meth c cX16_show D cA A n0 s0 QM dm ra jx rm Q) (hX : HX p l e R s m args below meth c 8 D cA A n0 s0 QM dm ra jx rm X) {K20 : Sg → Int → Int → Int → Prop} (hK20 : ∀ (σ : Sg) (v1 : Int) (v2 : Int) (v3 : Int) (g1 : rng v1) (g2 : rng v2) (g3 : rng v3), K20 σ v1 v2 v3 → RG σ → Shp dm ra jx rm σ → JJ p l e R s m args below meth c 8 D cA A n0 s0 QM σ 20 [(0, .ref rm), (1, .int (i32 v1)), (2, .int (i32 v2)), (3, .int (i32 v3))] []) : ∀ (σ : Sg) (v1 : Int) (v2 : Int) (v3 : Int) (v4 : Int) (v5 : Int) (g1 : rng v1) (g2 : rng v2) (g3 : rng v3) (g4 : rng v4) (g5 : rng v5), w_X16_show_128 ra jx rm K20 Q X σ v1 v2 v3 v4 v5 → RG σ → Shp dm ra jx rm σ → JJ p l e R s m args below meth c 8 D cA A n0 s0 QM σ 128 [(0, .ref rm), (1, .int (i32 v1)), (2, .int (i32 v2)), (3, .int (i32 v3)), (4, .int (i32 v4)), (5, .int (i32 v5))] [] := by
  intro σ v1 v2 v3 v4 v5 g1 g2 g3 g4 g5 h hGσ hS H locs ls hH hl hc
  have B := K.1
  unfold w_X16_show_128 at h
  refine lv_iload B.1 B.2.1 dX16_show_128 (lv_at hl 5 rfl) ?_
  refine lv_iconst (v := i32 (-1)) B.1 B.2.1 dX16_show_130 (by decide) ?_
  refine lv_icmp_ne (tgt := 150) B.1 B.2.1 dX16_show_131 (by decide) (fun h9 => ?_) (fun h9 => ?_)
  · rw [if_pos (fun q => h9 ((i32_eq g5 (by unfold rng; omega)).mpr q))] at h
    exact a_X16_show_150 K hQ hX hK20 _ _ _ _ _ _ g1 g2 g3 g4 g5 h hGσ hS _ _ _ hH (lv_sub (l' := [(0, .ref rm), (1, .int (i32 v1)), (2, .int (i32 v2)), (3, .int (i32 v3)), (4, .int (i32 v4)), (5, .int (i32 v5))]) hl [0, 1, 2, 3, 4, 5] rfl) hc
  · rw [if_neg (fun q => q ((i32_eq g5 (by unfold rng; omega)).mp h9))] at h
    exact a_X16_show_134 K hQ hX hK20 _ _ _ _ _ g1 g2 g3 g4 h hGσ hS _ _ _ hH (lv_sub (l' := [(0, .ref rm), (1, .int (i32 v1)), (2, .int (i32 v2)), (3, .int (i32 v3)), (4, .int (i32 v4))]) hl [0, 1, 2, 3, 4] rfl) hc
set_option maxRecDepth 20000 in
theorem a_X16_show_112 {Q : Sg → Unit → Prop} {X : Sg → String → Prop} (K : MC R p s m args c cX16_show 8 RX16 D cA tys A n0 s0 1 30 []) (hQ : HQV p l e R s m args below meth c cX16_show D cA A n0 s0 QM dm ra jx rm Q) (hX : HX p l e R s m args below meth c 8 D cA A n0 s0 QM dm ra jx rm X) {K20 : Sg → Int → Int → Int → Prop} (hK20 : ∀ (σ : Sg) (v1 : Int) (v2 : Int) (v3 : Int) (g1 : rng v1) (g2 : rng v2) (g3 : rng v3), K20 σ v1 v2 v3 → RG σ → Shp dm ra jx rm σ → JJ p l e R s m args below meth c 8 D cA A n0 s0 QM σ 20 [(0, .ref rm), (1, .int (i32 v1)), (2, .int (i32 v2)), (3, .int (i32 v3))] []) {K58 : Sg → Int → Int → Int → Int → Int → Int → Int → Prop} (hK58 : ∀ (σ : Sg) (v1 : Int) (v2 : Int) (v3 : Int) (v4 : Int) (v5 : Int) (v6 : Int) (v7 : Int) (g1 : rng v1) (g2 : rng v2) (g3 : rng v3) (g4 : rng v4) (g5 : rng v5) (g6 : rng v6) (g7 : rng v7), K58 σ v1 v2 v3 v4 v5 v6 v7 → RG σ → Shp dm ra jx rm σ → JJ p l e R s m args below meth c 8 D cA A n0 s0 QM σ 58 [(0, .ref rm), (1, .int (i32 v1)), (2, .int (i32 v2)), (3, .int (i32 v3)), (4, .int (i32 v4)), (5, .int (i32 v5)), (6, .int (i32 v6)), (7, .int (i32 v7))] []) : ∀ (σ : Sg) (v1 : Int) (v2 : Int) (v3 : Int) (v4 : Int) (v5 : Int) (v7 : Int) (g1 : rng v1) (g2 : rng v2) (g3 : rng v3) (g4 : rng v4) (g5 : rng v5) (g7 : rng v7), w_X16_show_112 ra jx rm K20 K58 Q X σ v1 v2 v3 v4 v5 v7 → RG σ → Shp dm ra jx rm σ → JJ p l e R s m args below meth c 8 D cA A n0 s0 QM σ 112 [(0, .ref rm), (1, .int (i32 v1)), (2, .int (i32 v2)), (3, .int (i32 v3)), (4, .int (i32 v4)), (5, .int (i32 v5)), (7, .int (i32 v7))] [] := by
  intro σ v1 v2 v3 v4 v5 v7 g1 g2 g3 g4 g5 g7 h hGσ hS H locs ls hH hl hc
  have B := K.1
  unfold w_X16_show_112 at h
  refine lv_iload B.1 B.2.1 dX16_show_112 (lv_at hl 6 rfl) ?_
  refine lv_istore (lv' := [(6, .int (i32 v7)), (0, .ref rm), (1, .int (i32 v1)), (2, .int (i32 v2)), (3, .int (i32 v3)), (4, .int (i32 v4)), (5, .int (i32 v5)), (7, .int (i32 v7))]) B.1 B.2.1 dX16_show_114 hl (by decide) rfl (fun ls hl => ?_)
  refine lv_aload_n B.1 B.2.1 dX16_show_116 rfl (lv_at hl 1 rfl) ?_
  refine r_arr B hH hS 86 (kd := 100) (n := 2000) (by decide) (by decide) wf_X16_652 rfl rfl dX16_show_117 ?_
  refine lv_iload B.1 B.2.1 dX16_show_120 (lv_at hl 7 rfl) ?_
  obtain ⟨q1, h⟩ := h
  refine x_iald B K.2.1 hH (hS.ar (k := 86) (kd := 100) (n := 2000) (by decide)) (by decide) q1 dX16_show_122 ?_
  refine lv_istore (lv' := [(7, .int (i32 (gI σ (ra 86) v7.toNat))), (6, .int (i32 v7)), (0, .ref rm), (1, .int (i32 v1)), (2, .int (i32 v2)), (3, .int (i32 v3)), (4, .int (i32 v4)), (5, .int (i32 v5))]) B.1 B.2.1 dX16_show_123 hl (by decide) rfl (fun ls hl => ?_)
  refine lv_goto (tgt := 58) B.1 B.2.1 dX16_show_125 (by decide) ?_
  exact hK58 _ _ _ _ _ _ _ _ g1 g2 g3 g4 g5 g7 (hGσ _ _) h hGσ hS _ _ _ hH (lv_sub (l' := [(0, .ref rm), (1, .int (i32 v1)), (2, .int (i32 v2)), (3, .int (i32 v3)), (4, .int (i32 v4)), (5, .int (i32 v5)), (6, .int (i32 v7)), (7, .int (i32 (gI σ (ra 86) v7.toNat)))]) hl [2, 3, 4, 5, 6, 7, 1, 0] rfl) hc
set_option maxRecDepth 20000 in
theorem a_X16_show_104 {Q : Sg → Unit → Prop} {X : Sg → String → Prop} (K : MC R p s m args c cX16_show 8 RX16 D cA tys A n0 s0 1 30 []) (hQ : HQV p l e R s m args below meth c cX16_show D cA A n0 s0 QM dm ra jx rm Q) (hX : HX p l e R s m args below meth c 8 D cA A n0 s0 QM dm ra jx rm X) {K20 : Sg → Int → Int → Int → Prop} (hK20 : ∀ (σ : Sg) (v1 : Int) (v2 : Int) (v3 : Int) (g1 : rng v1) (g2 : rng v2) (g3 : rng v3), K20 σ v1 v2 v3 → RG σ → Shp dm ra jx rm σ → JJ p l e R s m args below meth c 8 D cA A n0 s0 QM σ 20 [(0, .ref rm), (1, .int (i32 v1)), (2, .int (i32 v2)), (3, .int (i32 v3))] []) {K58 : Sg → Int → Int → Int → Int → Int → Int → Int → Prop} (hK58 : ∀ (σ : Sg) (v1 : Int) (v2 : Int) (v3 : Int) (v4 : Int) (v5 : Int) (v6 : Int) (v7 : Int) (g1 : rng v1) (g2 : rng v2) (g3 : rng v3) (g4 : rng v4) (g5 : rng v5) (g6 : rng v6) (g7 : rng v7), K58 σ v1 v2 v3 v4 v5 v6 v7 → RG σ → Shp dm ra jx rm σ → JJ p l e R s m args below meth c 8 D cA A n0 s0 QM σ 58 [(0, .ref rm), (1, .int (i32 v1)), (2, .int (i32 v2)), (3, .int (i32 v3)), (4, .int (i32 v4)), (5, .int (i32 v5)), (6, .int (i32 v6)), (7, .int (i32 v7))] []) : ∀ (σ : Sg) (v1 : Int) (v2 : Int) (v3 : Int) (v6 : Int) (v7 : Int) (g1 : rng v1) (g2 : rng v2) (g3 : rng v3) (g6 : rng v6) (g7 : rng v7), w_X16_show_104 ra jx rm K20 K58 Q X σ v1 v2 v3 v6 v7 → RG σ → Shp dm ra jx rm σ → JJ p l e R s m args below meth c 8 D cA A n0 s0 QM σ 104 [(0, .ref rm), (1, .int (i32 v1)), (2, .int (i32 v2)), (3, .int (i32 v3)), (6, .int (i32 v6)), (7, .int (i32 v7))] [] := by
  intro σ v1 v2 v3 v6 v7 g1 g2 g3 g6 g7 h hGσ hS H locs ls hH hl hc
  have B := K.1
  unfold w_X16_show_104 at h
  refine lv_iload B.1 B.2.1 dX16_show_104 (lv_at hl 5 rfl) ?_
  refine lv_istore (lv' := [(4, .int (i32 v7)), (0, .ref rm), (1, .int (i32 v1)), (2, .int (i32 v2)), (3, .int (i32 v3)), (6, .int (i32 v6)), (7, .int (i32 v7))]) B.1 B.2.1 dX16_show_106 hl (by decide) rfl (fun ls hl => ?_)
  refine lv_iload B.1 B.2.1 dX16_show_108 (lv_at hl 5 rfl) ?_
  refine lv_istore (lv' := [(5, .int (i32 v6)), (4, .int (i32 v7)), (0, .ref rm), (1, .int (i32 v1)), (2, .int (i32 v2)), (3, .int (i32 v3)), (6, .int (i32 v6)), (7, .int (i32 v7))]) B.1 B.2.1 dX16_show_110 hl (by decide) rfl (fun ls hl => ?_)
  exact a_X16_show_112 K hQ hX hK20 hK58 _ _ _ _ _ _ _ g1 g2 g3 g7 g6 g7 h hGσ hS _ _ _ hH (lv_sub (l' := [(0, .ref rm), (1, .int (i32 v1)), (2, .int (i32 v2)), (3, .int (i32 v3)), (4, .int (i32 v7)), (5, .int (i32 v6)), (7, .int (i32 v7))]) hl [2, 3, 4, 5, 1, 0, 7] rfl) hc
set_option maxRecDepth 20000 in
theorem a_X16_show_64 {Q : Sg → Unit → Prop} {X : Sg → String → Prop} (K : MC R p s m args c cX16_show 8 RX16 D cA tys A n0 s0 1 30 []) (hQ : HQV p l e R s m args below meth c cX16_show D cA A n0 s0 QM dm ra jx rm Q) (hX : HX p l e R s m args below meth c 8 D cA A n0 s0 QM dm ra jx rm X) {K20 : Sg → Int → Int → Int → Prop} (hK20 : ∀ (σ : Sg) (v1 : Int) (v2 : Int) (v3 : Int) (g1 : rng v1) (g2 : rng v2) (g3 : rng v3), K20 σ v1 v2 v3 → RG σ → Shp dm ra jx rm σ → JJ p l e R s m args below meth c 8 D cA A n0 s0 QM σ 20 [(0, .ref rm), (1, .int (i32 v1)), (2, .int (i32 v2)), (3, .int (i32 v3))] []) {K58 : Sg → Int → Int → Int → Int → Int → Int → Int → Prop} (hK58 : ∀ (σ : Sg) (v1 : Int) (v2 : Int) (v3 : Int) (v4 : Int) (v5 : Int) (v6 : Int) (v7 : Int) (g1 : rng v1) (g2 : rng v2) (g3 : rng v3) (g4 : rng v4) (g5 : rng v5) (g6 : rng v6) (g7 : rng v7), K58 σ v1 v2 v3 v4 v5 v6 v7 → RG σ → Shp dm ra jx rm σ → JJ p l e R s m args below meth c 8 D cA A n0 s0 QM σ 58 [(0, .ref rm), (1, .int (i32 v1)), (2, .int (i32 v2)), (3, .int (i32 v3)), (4, .int (i32 v4)), (5, .int (i32 v5)), (6, .int (i32 v6)), (7, .int (i32 v7))] []) : ∀ (σ : Sg) (v1 : Int) (v2 : Int) (v3 : Int) (v4 : Int) (v5 : Int) (v6 : Int) (v7 : Int) (g1 : rng v1) (g2 : rng v2) (g3 : rng v3) (g4 : rng v4) (g5 : rng v5) (g6 : rng v6) (g7 : rng v7), w_X16_show_64 ra jx rm K20 K58 Q X σ v1 v2 v3 v4 v5 v6 v7 → RG σ → Shp dm ra jx rm σ → JJ p l e R s m args below meth c 8 D cA A n0 s0 QM σ 64 [(0, .ref rm), (1, .int (i32 v1)), (2, .int (i32 v2)), (3, .int (i32 v3)), (4, .int (i32 v4)), (5, .int (i32 v5)), (6, .int (i32 v6)), (7, .int (i32 v7))] [] := by
  intro σ v1 v2 v3 v4 v5 v6 v7 g1 g2 g3 g4 g5 g6 g7 h hGσ hS H locs ls hH hl hc
  have B := K.1
  unfold w_X16_show_64 at h
  refine lv_aload_n B.1 B.2.1 dX16_show_64 rfl (lv_at hl 0 rfl) ?_
  refine lv_aload_n B.1 B.2.1 dX16_show_65 rfl (lv_at hl 0 rfl) ?_
  refine r_arr B hH hS 83 (kd := 101) (n := 2000) (by decide) (by decide) wf_X16_670 rfl rfl dX16_show_66 ?_
  refine lv_iload B.1 B.2.1 dX16_show_69 (lv_at hl 7 rfl) ?_
  obtain ⟨q1, h⟩ := h
  refine x_lald B K.2.1 hH (hS.ar (k := 83) (kd := 101) (n := 2000) (by decide)) (by decide) q1 dX16_show_71 ?_
  refine lv_aload_n B.1 B.2.1 dX16_show_72 rfl (lv_at hl 0 rfl) ?_
  refine r_arr B hH hS 84 (kd := 101) (n := 16000) (by decide) (by decide) wf_X16_673 rfl rfl dX16_show_73 ?_
  refine lv_bipush (v := i32 8) B.1 B.2.1 dX16_show_76 (by decide) ?_
  refine lv_iload B.1 B.2.1 dX16_show_78 (lv_at hl 7 rfl) ?_
  obtain ⟨q2, h⟩ := h
  refine lv_imul B.1 B.2.1 dX16_show_80 ?_
  rw [i32_mul]
  refine lv_aload_n B.1 B.2.1 dX16_show_81 rfl (lv_at hl 0 rfl) ?_
  refine r_arr B hH hS 83 (kd := 101) (n := 2000) (by decide) (by decide) wf_X16_670 rfl rfl dX16_show_82 ?_
  refine lv_iload B.1 B.2.1 dX16_show_85 (lv_at hl 4 rfl) ?_
  obtain ⟨q3, h⟩ := h
  refine x_lald B K.2.1 hH (hS.ar (k := 83) (kd := 101) (n := 2000) (by decide)) (by decide) q3 dX16_show_87 ?_
  refine lv_aload_n B.1 B.2.1 dX16_show_88 rfl (lv_at hl 0 rfl) ?_
  refine r_arr B hH hS 84 (kd := 101) (n := 16000) (by decide) (by decide) wf_X16_673 rfl rfl dX16_show_89 ?_
  refine lv_bipush (v := i32 8) B.1 B.2.1 dX16_show_92 (by decide) ?_
  refine lv_iload B.1 B.2.1 dX16_show_94 (lv_at hl 4 rfl) ?_
  obtain ⟨q4, h⟩ := h
  refine lv_imul B.1 B.2.1 dX16_show_96 ?_
  rw [i32_mul]
  refine lv_iload_n B.1 B.2.1 dX16_show_97 rfl (lv_at hl 2 rfl) ?_
  refine c_V B hH hl hc K.2.2.1 (C := RX16) (T := TX16) (N := 123) (ci := 16) (As := [.long (gJ σ (ra 83) v7.toNat), va_rf (some (ra 84)), .int (i32 (8 * v7)), .long (gJ σ (ra 83) v4.toNat), va_rf (some (ra 84)), .int (i32 (8 * v4)), .int (i32 v2)]) (ok_X16_order K.2.1 σ (gJ σ (ra 83) v7.toNat) (some (ra 84)) (8 * v7) (gJ σ (ra 83) v4.toNat) (some (ra 84)) (8 * v4) v2 q2 q4 g2 hGσ hS h) wc_X16_534 7 hd_X16_order ⟨Nat.le_trans (Nat.le_of_ble_eq_true rfl) K.2.2.2.1, Nat.le_trans (Nat.le_of_ble_eq_true rfl) K.2.2.2.2.1⟩ hS.1.1 hS.1.2 (by decide) rfl rfl (rest := []) rfl (Nat.le_of_ble_eq_true rfl) dX16_show_98 (fun σ26 w hq => ?_) (fun σ9 E9 hx9 => hX σ9 E9 _ _ _ (tb_out K.2.2.2.2.2 rfl) hx9.1 hx9.2.1 hx9.2.2)
  obtain ⟨r27, rfl, gr27, h, hGσ26, hS⟩ := hq
  intro H locs ls hH hl hc
  refine W.eq (g2 := F0 m 101 ls [.int (i32 r27)]) (rfl) ?_
  try dsimp only at h
  refine lv_if_ge (tgt := 112) B.1 B.2.1 dX16_show_101 (by decide) (fun h9 => ?_) (fun h9 => ?_)
  · rw [if_pos ((z_ge gr27).mp h9)] at h
    exact a_X16_show_112 K hQ hX hK20 hK58 _ _ _ _ _ _ _ g1 g2 g3 g4 g5 g7 h hGσ26 hS _ _ _ hH (lv_sub (l' := [(0, .ref rm), (1, .int (i32 v1)), (2, .int (i32 v2)), (3, .int (i32 v3)), (4, .int (i32 v4)), (5, .int (i32 v5)), (7, .int (i32 v7))]) hl [0, 1, 2, 3, 4, 5, 7] rfl) hc
  · rw [if_neg (fun q => h9 ((z_ge gr27).mpr q))] at h
    exact a_X16_show_104 K hQ hX hK20 hK58 _ _ _ _ _ _ g1 g2 g3 g6 g7 h hGσ26 hS _ _ _ hH (lv_sub (l' := [(0, .ref rm), (1, .int (i32 v1)), (2, .int (i32 v2)), (3, .int (i32 v3)), (6, .int (i32 v6)), (7, .int (i32 v7))]) hl [0, 1, 2, 3, 6, 7] rfl) hc
set_option maxRecDepth 20000 in
theorem a_X16_show_58 {Q : Sg → Unit → Prop} {X : Sg → String → Prop} (K : MC R p s m args c cX16_show 8 RX16 D cA tys A n0 s0 1 30 []) (hQ : HQV p l e R s m args below meth c cX16_show D cA A n0 s0 QM dm ra jx rm Q) (hX : HX p l e R s m args below meth c 8 D cA A n0 s0 QM dm ra jx rm X) {K20 : Sg → Int → Int → Int → Prop} (hK20 : ∀ (σ : Sg) (v1 : Int) (v2 : Int) (v3 : Int) (g1 : rng v1) (g2 : rng v2) (g3 : rng v3), K20 σ v1 v2 v3 → RG σ → Shp dm ra jx rm σ → JJ p l e R s m args below meth c 8 D cA A n0 s0 QM σ 20 [(0, .ref rm), (1, .int (i32 v1)), (2, .int (i32 v2)), (3, .int (i32 v3))] []) {K58 : Sg → Int → Int → Int → Int → Int → Int → Int → Prop} (hK58 : ∀ (σ : Sg) (v1 : Int) (v2 : Int) (v3 : Int) (v4 : Int) (v5 : Int) (v6 : Int) (v7 : Int) (g1 : rng v1) (g2 : rng v2) (g3 : rng v3) (g4 : rng v4) (g5 : rng v5) (g6 : rng v6) (g7 : rng v7), K58 σ v1 v2 v3 v4 v5 v6 v7 → RG σ → Shp dm ra jx rm σ → JJ p l e R s m args below meth c 8 D cA A n0 s0 QM σ 58 [(0, .ref rm), (1, .int (i32 v1)), (2, .int (i32 v2)), (3, .int (i32 v3)), (4, .int (i32 v4)), (5, .int (i32 v5)), (6, .int (i32 v6)), (7, .int (i32 v7))] []) : ∀ (σ : Sg) (v1 : Int) (v2 : Int) (v3 : Int) (v4 : Int) (v5 : Int) (v6 : Int) (v7 : Int) (g1 : rng v1) (g2 : rng v2) (g3 : rng v3) (g4 : rng v4) (g5 : rng v5) (g6 : rng v6) (g7 : rng v7), w_X16_show_58 ra jx rm K20 K58 Q X σ v1 v2 v3 v4 v5 v6 v7 → RG σ → Shp dm ra jx rm σ → JJ p l e R s m args below meth c 8 D cA A n0 s0 QM σ 58 [(0, .ref rm), (1, .int (i32 v1)), (2, .int (i32 v2)), (3, .int (i32 v3)), (4, .int (i32 v4)), (5, .int (i32 v5)), (6, .int (i32 v6)), (7, .int (i32 v7))] [] := by
  intro σ v1 v2 v3 v4 v5 v6 v7 g1 g2 g3 g4 g5 g6 g7 h hGσ hS H locs ls hH hl hc
  have B := K.1
  unfold w_X16_show_58 at h
  refine lv_iload B.1 B.2.1 dX16_show_58 (lv_at hl 7 rfl) ?_
  refine lv_iconst (v := i32 (-1)) B.1 B.2.1 dX16_show_60 (by decide) ?_
  refine lv_icmp_eq (tgt := 128) B.1 B.2.1 dX16_show_61 (by decide) (fun h9 => ?_) (fun h9 => ?_)
  · rw [if_pos ((i32_eq g7 (by unfold rng; omega)).mp h9)] at h
    exact a_X16_show_128 K hQ hX hK20 _ _ _ _ _ _ g1 g2 g3 g4 g5 h hGσ hS _ _ _ hH (lv_sub (l' := [(0, .ref rm), (1, .int (i32 v1)), (2, .int (i32 v2)), (3, .int (i32 v3)), (4, .int (i32 v4)), (5, .int (i32 v5))]) hl [0, 1, 2, 3, 4, 5] rfl) hc
  · rw [if_neg (fun q => h9 ((i32_eq g7 (by unfold rng; omega)).mpr q))] at h
    exact a_X16_show_64 K hQ hX hK20 hK58 _ _ _ _ _ _ _ _ g1 g2 g3 g4 g5 g6 g7 h hGσ hS _ _ _ hH (lv_sub (l' := [(0, .ref rm), (1, .int (i32 v1)), (2, .int (i32 v2)), (3, .int (i32 v3)), (4, .int (i32 v4)), (5, .int (i32 v5)), (6, .int (i32 v6)), (7, .int (i32 v7))]) hl [0, 1, 2, 3, 4, 5, 6, 7] rfl) hc
theorem al_X16_show_58 {Q : Sg → Unit → Prop} {X : Sg → String → Prop} (K : MC R p s m args c cX16_show 8 RX16 D cA tys A n0 s0 1 30 []) (hQ : HQV p l e R s m args below meth c cX16_show D cA A n0 s0 QM dm ra jx rm Q) (hX : HX p l e R s m args below meth c 8 D cA A n0 s0 QM dm ra jx rm X) {K20 : Sg → Int → Int → Int → Prop} (hK20 : ∀ (σ : Sg) (v1 : Int) (v2 : Int) (v3 : Int) (g1 : rng v1) (g2 : rng v2) (g3 : rng v3), K20 σ v1 v2 v3 → RG σ → Shp dm ra jx rm σ → JJ p l e R s m args below meth c 8 D cA A n0 s0 QM σ 20 [(0, .ref rm), (1, .int (i32 v1)), (2, .int (i32 v2)), (3, .int (i32 v3))] []) : ∀ (n : Nat), ∀ (σ : Sg) (v1 : Int) (v2 : Int) (v3 : Int) (v4 : Int) (v5 : Int) (v6 : Int) (v7 : Int) (g1 : rng v1) (g2 : rng v2) (g3 : rng v3) (g4 : rng v4) (g5 : rng v5) (g6 : rng v6) (g7 : rng v7), wl_X16_show_58 ra jx rm K20 Q X n σ v1 v2 v3 v4 v5 v6 v7 → RG σ → Shp dm ra jx rm σ → JJ p l e R s m args below meth c 8 D cA A n0 s0 QM σ 58 [(0, .ref rm), (1, .int (i32 v1)), (2, .int (i32 v2)), (3, .int (i32 v3)), (4, .int (i32 v4)), (5, .int (i32 v5)), (6, .int (i32 v6)), (7, .int (i32 v7))] [] := by
  intro n
  induction n with
  | zero => intro σ v1 v2 v3 v4 v5 v6 v7 g1 g2 g3 g4 g5 g6 g7 h; exact h.elim
  | succ n ih => exact fun σ v1 v2 v3 v4 v5 v6 v7 g1 g2 g3 g4 g5 g6 g7 h => a_X16_show_58 K hQ hX hK20 ih σ v1 v2 v3 v4 v5 v6 v7 g1 g2 g3 g4 g5 g6 g7 h
set_option maxRecDepth 20000 in
theorem a_X16_show_30 {Q : Sg → Unit → Prop} {X : Sg → String → Prop} (K : MC R p s m args c cX16_show 8 RX16 D cA tys A n0 s0 1 30 []) (hQ : HQV p l e R s m args below meth c cX16_show D cA A n0 s0 QM dm ra jx rm Q) (hX : HX p l e R s m args below meth c 8 D cA A n0 s0 QM dm ra jx rm X) {K20 : Sg → Int → Int → Int → Prop} (hK20 : ∀ (σ : Sg) (v1 : Int) (v2 : Int) (v3 : Int) (g1 : rng v1) (g2 : rng v2) (g3 : rng v3), K20 σ v1 v2 v3 → RG σ → Shp dm ra jx rm σ → JJ p l e R s m args below meth c 8 D cA A n0 s0 QM σ 20 [(0, .ref rm), (1, .int (i32 v1)), (2, .int (i32 v2)), (3, .int (i32 v3))] []) : ∀ (σ : Sg) (v1 : Int) (v2 : Int) (v3 : Int) (g1 : rng v1) (g2 : rng v2) (g3 : rng v3), w_X16_show_30 ra jx rm K20 Q X σ v1 v2 v3 → RG σ → Shp dm ra jx rm σ → JJ p l e R s m args below meth c 8 D cA A n0 s0 QM σ 30 [(0, .ref rm), (1, .int (i32 v1)), (2, .int (i32 v2)), (3, .int (i32 v3))] [] := by
  intro σ v1 v2 v3 g1 g2 g3 h hGσ hS H locs ls hH hl hc
  have B := K.1
  unfold w_X16_show_30 at h
  refine lv_aload_n B.1 B.2.1 dX16_show_30 rfl (lv_at hl 0 rfl) ?_
  refine r_arr B hH hS 87 (kd := 100) (n := 12) (by decide) (by decide) wf_X16_661 rfl rfl dX16_show_31 ?_
  refine lv_iload_n B.1 B.2.1 dX16_show_34 rfl (lv_at hl 3 rfl) ?_
  obtain ⟨q1, h⟩ := h
  refine x_iald B K.2.1 hH (hS.ar (k := 87) (kd := 100) (n := 12) (by decide)) (by decide) q1 dX16_show_35 ?_
  refine lv_istore (lv' := [(4, .int (i32 (gI σ (ra 87) v3.toNat))), (0, .ref rm), (1, .int (i32 v1)), (2, .int (i32 v2)), (3, .int (i32 v3))]) B.1 B.2.1 dX16_show_36 hl (by decide) rfl (fun ls hl => ?_)
  refine lv_iconst (v := i32 (-1)) B.1 B.2.1 dX16_show_38 (by decide) ?_
  refine lv_istore (lv' := [(5, .int (i32 (-1))), (4, .int (i32 (gI σ (ra 87) v3.toNat))), (0, .ref rm), (1, .int (i32 v1)), (2, .int (i32 v2)), (3, .int (i32 v3))]) B.1 B.2.1 dX16_show_39 hl (by decide) rfl (fun ls hl => ?_)
  refine lv_aload_n B.1 B.2.1 dX16_show_41 rfl (lv_at hl 2 rfl) ?_
  refine r_arr B hH hS 87 (kd := 100) (n := 12) (by decide) (by decide) wf_X16_661 rfl rfl dX16_show_42 ?_
  refine lv_iload_n B.1 B.2.1 dX16_show_45 rfl (lv_at hl 5 rfl) ?_
  obtain ⟨q2, h⟩ := h
  refine x_iald B K.2.1 hH (hS.ar (k := 87) (kd := 100) (n := 12) (by decide)) (by decide) q2 dX16_show_46 ?_
  refine lv_istore (lv' := [(6, .int (i32 (gI σ (ra 87) v3.toNat))), (5, .int (i32 (-1))), (4, .int (i32 (gI σ (ra 87) v3.toNat))), (0, .ref rm), (1, .int (i32 v1)), (2, .int (i32 v2)), (3, .int (i32 v3))]) B.1 B.2.1 dX16_show_47 hl (by decide) rfl (fun ls hl => ?_)
  refine lv_aload_n B.1 B.2.1 dX16_show_49 rfl (lv_at hl 3 rfl) ?_
  refine r_arr B hH hS 86 (kd := 100) (n := 2000) (by decide) (by decide) wf_X16_652 rfl rfl dX16_show_50 ?_
  refine lv_iload B.1 B.2.1 dX16_show_53 (lv_at hl 0 rfl) ?_
  obtain ⟨q3, h⟩ := h
  refine x_iald B K.2.1 hH (hS.ar (k := 86) (kd := 100) (n := 2000) (by decide)) (by decide) q3 dX16_show_55 ?_
  refine lv_istore (lv' := [(7, .int (i32 (gI σ (ra 86) (gI σ (ra 87) v3.toNat).toNat))), (6, .int (i32 (gI σ (ra 87) v3.toNat))), (5, .int (i32 (-1))), (4, .int (i32 (gI σ (ra 87) v3.toNat))), (0, .ref rm), (1, .int (i32 v1)), (2, .int (i32 v2)), (3, .int (i32 v3))]) B.1 B.2.1 dX16_show_56 hl (by decide) rfl (fun ls hl => ?_)
  obtain ⟨n9, h⟩ := h
  exact al_X16_show_58 K hQ hX hK20 n9 _ _ _ _ _ _ _ _ g1 g2 g3 (hGσ _ _) (by unfold rng; omega) (hGσ _ _) (hGσ _ _) h hGσ hS _ _ _ hH (lv_sub (l' := [(0, .ref rm), (1, .int (i32 v1)), (2, .int (i32 v2)), (3, .int (i32 v3)), (4, .int (i32 (gI σ (ra 87) v3.toNat))), (5, .int (i32 (-1))), (6, .int (i32 (gI σ (ra 87) v3.toNat))), (7, .int (i32 (gI σ (ra 86) (gI σ (ra 87) v3.toNat).toNat)))]) hl [4, 5, 6, 7, 3, 2, 1, 0] rfl) hc
set_option maxRecDepth 20000 in
theorem a_X16_show_20 {Q : Sg → Unit → Prop} {X : Sg → String → Prop} (K : MC R p s m args c cX16_show 8 RX16 D cA tys A n0 s0 1 30 []) (hQ : HQV p l e R s m args below meth c cX16_show D cA A n0 s0 QM dm ra jx rm Q) (hX : HX p l e R s m args below meth c 8 D cA A n0 s0 QM dm ra jx rm X) {K20 : Sg → Int → Int → Int → Prop} (hK20 : ∀ (σ : Sg) (v1 : Int) (v2 : Int) (v3 : Int) (g1 : rng v1) (g2 : rng v2) (g3 : rng v3), K20 σ v1 v2 v3 → RG σ → Shp dm ra jx rm σ → JJ p l e R s m args below meth c 8 D cA A n0 s0 QM σ 20 [(0, .ref rm), (1, .int (i32 v1)), (2, .int (i32 v2)), (3, .int (i32 v3))] []) : ∀ (σ : Sg) (v1 : Int) (v2 : Int) (v3 : Int) (g1 : rng v1) (g2 : rng v2) (g3 : rng v3), w_X16_show_20 ra jx rm K20 Q X σ v1 v2 v3 → RG σ → Shp dm ra jx rm σ → JJ p l e R s m args below meth c 8 D cA A n0 s0 QM σ 20 [(0, .ref rm), (1, .int (i32 v1)), (2, .int (i32 v2)), (3, .int (i32 v3))] [] := by
  intro σ v1 v2 v3 g1 g2 g3 h hGσ hS H locs ls hH hl hc
  have B := K.1
  unfold w_X16_show_20 at h
  refine lv_aload_n B.1 B.2.1 dX16_show_20 rfl (lv_at hl 0 rfl) ?_
  refine r_arr B hH hS 87 (kd := 100) (n := 12) (by decide) (by decide) wf_X16_661 rfl rfl dX16_show_21 ?_
  refine lv_iload_n B.1 B.2.1 dX16_show_24 rfl (lv_at hl 3 rfl) ?_
  obtain ⟨q1, h⟩ := h
  refine x_iald B K.2.1 hH (hS.ar (k := 87) (kd := 100) (n := 12) (by decide)) (by decide) q1 dX16_show_25 ?_
  refine lv_iconst (v := i32 (-1)) B.1 B.2.1 dX16_show_26 (by decide) ?_
  refine lv_icmp_eq (tgt := 178) B.1 B.2.1 dX16_show_27 (by decide) (fun h9 => ?_) (fun h9 => ?_)
  · rw [if_pos ((i32_eq (hGσ _ _) (by unfold rng; omega)).mp h9)] at h
    exact a_X16_show_178 K hQ hX _ _ g3 h hGσ hS _ _ _ hH (lv_sub (l' := [(0, .ref rm), (3, .int (i32 v3))]) hl [0, 3] rfl) hc
  · rw [if_neg (fun q => h9 ((i32_eq (hGσ _ _) (by unfold rng; omega)).mpr q))] at h
    exact a_X16_show_30 K hQ hX hK20 _ _ _ _ g1 g2 g3 h hGσ hS _ _ _ hH (lv_sub (l' := [(0, .ref rm), (1, .int (i32 v1)), (2, .int (i32 v2)), (3, .int (i32 v3))]) hl [0, 1, 2, 3] rfl) hc
theorem al_X16_show_20 {Q : Sg → Unit → Prop} {X : Sg → String → Prop} (K : MC R p s m args c cX16_show 8 RX16 D cA tys A n0 s0 1 30 []) (hQ : HQV p l e R s m args below meth c cX16_show D cA A n0 s0 QM dm ra jx rm Q) (hX : HX p l e R s m args below meth c 8 D cA A n0 s0 QM dm ra jx rm X) : ∀ (n : Nat), ∀ (σ : Sg) (v1 : Int) (v2 : Int) (v3 : Int) (g1 : rng v1) (g2 : rng v2) (g3 : rng v3), wl_X16_show_20 ra jx rm Q X n σ v1 v2 v3 → RG σ → Shp dm ra jx rm σ → JJ p l e R s m args below meth c 8 D cA A n0 s0 QM σ 20 [(0, .ref rm), (1, .int (i32 v1)), (2, .int (i32 v2)), (3, .int (i32 v3))] [] := by
  intro n
  induction n with
  | zero => intro σ v1 v2 v3 g1 g2 g3 h; exact h.elim
  | succ n ih => exact fun σ v1 v2 v3 g1 g2 g3 h => a_X16_show_20 K hQ hX ih σ v1 v2 v3 g1 g2 g3 h
set_option maxRecDepth 20000 in
theorem a_X16_show_0 {Q : Sg → Unit → Prop} {X : Sg → String → Prop} (K : MC R p s m args c cX16_show 8 RX16 D cA tys A n0 s0 1 30 []) (hQ : HQV p l e R s m args below meth c cX16_show D cA A n0 s0 QM dm ra jx rm Q) (hX : HX p l e R s m args below meth c 8 D cA A n0 s0 QM dm ra jx rm X) : ∀ (σ : Sg) (v1 : Int) (g1 : rng v1), w_X16_show_0 ra jx rm Q X σ v1 → RG σ → Shp dm ra jx rm σ → JJ p l e R s m args below meth c 8 D cA A n0 s0 QM σ 0 [(0, .ref rm), (1, .int (i32 v1))] [] := by
  intro σ v1 g1 h hGσ hS H locs ls hH hl hc
  have B := K.1
  unfold w_X16_show_0 at h
  refine lv_aload_n B.1 B.2.1 dX16_show_0 rfl (lv_at hl 0 rfl) ?_
  refine r_getp B hH hS 17 (by decide) wf_X16_356 rfl rfl dX16_show_1 ?_
  obtain ⟨a28, ea28, ja28, h⟩ := h
  refine W.eq (g2 := F0 m 4 ls [.ref a28]) (by rw [ea28]; rfl) ?_
  refine n_arr B hH hS ja28 6 (kd := 100) (n := 16) (by decide) (by decide) (List.mem_of_getElem? (i := 6) rfl) rfl dX16_show_4 ?_
  refine lv_aload_n B.1 B.2.1 dX16_show_7 rfl (lv_at hl 0 rfl) ?_
  refine lv_iload_n B.1 B.2.1 dX16_show_8 rfl (lv_at hl 1 rfl) ?_
  refine c_V B hH hl hc K.2.2.1 (C := RX16) (T := TX16) (N := 123) (ci := 16) (As := [.int (i32 v1)]) (ok_X16_operatorOfOutput K.2.1 σ v1 g1 hGσ hS h) wc_X16_682 1 hd_X16_operatorOfOutput ⟨Nat.le_trans (Nat.le_of_ble_eq_true rfl) K.2.2.2.1, Nat.le_trans (Nat.le_of_ble_eq_true rfl) K.2.2.2.2.1⟩ hS.1.1 hS.1.2 (by decide) rfl rfl (rest := [.ref (jx a28 6)]) rfl (Nat.le_of_ble_eq_true rfl) dX16_show_9 (fun σ29 w hq => ?_) (fun σ9 E9 hx9 => hX σ9 E9 _ _ _ (tb_out K.2.2.2.2.2 rfl) hx9.1 hx9.2.1 hx9.2.2)
  obtain ⟨r30, rfl, gr30, h, hGσ29, hS⟩ := hq
  intro H locs ls hH hl hc
  refine W.eq (g2 := F0 m 12 ls [.int (i32 r30), .ref (jx a28 6)]) (rfl) ?_
  try dsimp only at h
  obtain ⟨q2, h⟩ := h
  refine x_iald B K.2.1 hH (hS.ja ja28 (k := 6) (kd := 100) (n := 16) (by decide)) (by decide) q2 dX16_show_12 ?_
  refine lv_istore_n (lv' := [(2, .int (i32 (gI σ29 (jx a28 6) r30.toNat))), (0, .ref rm), (1, .int (i32 v1))]) B.1 B.2.1 dX16_show_13 rfl hl (by decide) rfl (fun ls hl => ?_)
  refine lv_iconst (v := i32 3) B.1 B.2.1 dX16_show_14 (by decide) ?_
  refine lv_iload_n B.1 B.2.1 dX16_show_15 rfl (lv_at hl 2 rfl) ?_
  obtain ⟨q3, h⟩ := h
  refine lv_imul B.1 B.2.1 dX16_show_16 ?_
  rw [i32_mul]
  refine lv_iconst (v := i32 1) B.1 B.2.1 dX16_show_17 (by decide) ?_
  obtain ⟨q4, h⟩ := h
  refine lv_iadd B.1 B.2.1 dX16_show_18 ?_
  rw [i32_add]
  refine lv_istore_n (lv' := [(3, .int (i32 ((3 * v1) + 1))), (2, .int (i32 (gI σ29 (jx a28 6) r30.toNat))), (0, .ref rm), (1, .int (i32 v1))]) B.1 B.2.1 dX16_show_19 rfl hl (by decide) rfl (fun ls hl => ?_)
  obtain ⟨n9, h⟩ := h
  exact al_X16_show_20 K hQ hX n9 _ _ _ _ g1 (hGσ29 _ _) q4 h hGσ29 hS _ _ _ hH (lv_sub (l' := [(0, .ref rm), (1, .int (i32 v1)), (2, .int (i32 (gI σ29 (jx a28 6) r30.toNat))), (3, .int (i32 ((3 * v1) + 1)))]) hl [2, 3, 1, 0] rfl) hc
theorem ok_X16_show (hT : Tys cA tys) {Q : Sg → Unit → Prop} {X : Sg → String → Prop} (σ : Sg) (v1 : Int) (g1 : rng v1) (hG : RG σ) (hS : Shp dm ra jx rm σ) (h : wp_X16_show ra jx rm v1 σ Q X) : Ok l D cA tys A yX16_show (.code yX16_show cX16_show 8 none) 1 30 [.ref rm, .int (i32 v1)] σ (QnV dm ra jx rm Q) (QxR dm ra jx rm X) := by
  unfold wp_X16_show at h
  exact ok_V (plainFor_of_name (by decide)) (by exact Nat.le_of_ble_eq_true rfl) hT (fun p e R s m args below meth c K hQ hX H locs ls hH hl hc => a_X16_show_0 K hQ hX σ v1 g1 h hG hS H locs ls hH (lv_sub (l' := [(0, .ref rm), (1, .int (i32 v1))]) hl [0, 1] rfl) hc)
theorem dX16_seal_0 : decode cX16_seal 0 = .ok (.aload_n 0, 1) := by decide +kernel
theorem dX16_seal_1 : decode cX16_seal 1 = .ok (.aload_n 0, 1) := by decide +kernel
theorem dX16_seal_2 : decode cX16_seal 2 = .ok (.getfield 742, 3) := by decide +kernel
theorem dX16_seal_5 : decode cX16_seal 5 = .ok (.putfield 745, 3) := by decide +kernel
theorem dX16_seal_8 : decode cX16_seal 8 = .ok (.aload_n 0, 1) := by decide +kernel
theorem dX16_seal_9 : decode cX16_seal 9 = .ok (.iconst 0, 1) := by decide +kernel
theorem dX16_seal_10 : decode cX16_seal 10 = .ok (.putfield 742, 3) := by decide +kernel
theorem dX16_seal_13 : decode cX16_seal 13 = .ok (.aload_n 0, 1) := by decide +kernel
theorem dX16_seal_14 : decode cX16_seal 14 = .ok (.getfield 748, 3) := by decide +kernel
theorem dX16_seal_17 : decode cX16_seal 17 = .ok (.iconst 0, 1) := by decide +kernel
theorem dX16_seal_18 : decode cX16_seal 18 = .ok (.aload_n 0, 1) := by decide +kernel
theorem dX16_seal_19 : decode cX16_seal 19 = .ok (.getfield 748, 3) := by decide +kernel
theorem dX16_seal_22 : decode cX16_seal 22 = .ok (.iconst 1, 1) := by decide +kernel
theorem dX16_seal_23 : decode cX16_seal 23 = .ok (.iaload, 1) := by decide +kernel
theorem dX16_seal_24 : decode cX16_seal 24 = .ok (.iastore, 1) := by decide +kernel
theorem dX16_seal_25 : decode cX16_seal 25 = .ok (.aload_n 0, 1) := by decide +kernel
theorem dX16_seal_26 : decode cX16_seal 26 = .ok (.getfield 703, 3) := by decide +kernel
theorem dX16_seal_29 : decode cX16_seal 29 = .ok (.iconst 0, 1) := by decide +kernel
theorem dX16_seal_30 : decode cX16_seal 30 = .ok (.aload_n 0, 1) := by decide +kernel
theorem dX16_seal_31 : decode cX16_seal 31 = .ok (.getfield 703, 3) := by decide +kernel
theorem dX16_seal_34 : decode cX16_seal 34 = .ok (.iconst 1, 1) := by decide +kernel
theorem dX16_seal_35 : decode cX16_seal 35 = .ok (.iaload, 1) := by decide +kernel
theorem dX16_seal_36 : decode cX16_seal 36 = .ok (.iastore, 1) := by decide +kernel
theorem dX16_seal_37 : decode cX16_seal 37 = .ok (.iconst 0, 1) := by decide +kernel
theorem dX16_seal_38 : decode cX16_seal 38 = .ok (.istore_n 1, 1) := by decide +kernel
theorem dX16_seal_39 : decode cX16_seal 39 = .ok (.iload_n 1, 1) := by decide +kernel
theorem dX16_seal_40 : decode cX16_seal 40 = .ok (.aload_n 0, 1) := by decide +kernel
theorem dX16_seal_41 : decode cX16_seal 41 = .ok (.getfield 703, 3) := by decide +kernel
theorem dX16_seal_44 : decode cX16_seal 44 = .ok (.iconst 0, 1) := by decide +kernel
theorem dX16_seal_45 : decode cX16_seal 45 = .ok (.iaload, 1) := by decide +kernel
theorem dX16_seal_46 : decode cX16_seal 46 = .ok (.if_icmp .ge 135, 3) := by decide +kernel
theorem dX16_seal_49 : decode cX16_seal 49 = .ok (.sipush 4000, 3) := by decide +kernel
theorem dX16_seal_52 : decode cX16_seal 52 = .ok (.iload_n 1, 1) := by decide +kernel
theorem dX16_seal_53 : decode cX16_seal 53 = .ok (.iadd, 1) := by decide +kernel
theorem dX16_seal_54 : decode cX16_seal 54 = .ok (.istore_n 2, 1) := by decide +kernel
theorem dX16_seal_55 : decode cX16_seal 55 = .ok (.aload_n 0, 1) := by decide +kernel
theorem dX16_seal_56 : decode cX16_seal 56 = .ok (.getfield 706, 3) := by decide +kernel
theorem dX16_seal_59 : decode cX16_seal 59 = .ok (.iload_n 1, 1) := by decide +kernel
theorem dX16_seal_60 : decode cX16_seal 60 = .ok (.aload_n 0, 1) := by decide +kernel
theorem dX16_seal_61 : decode cX16_seal 61 = .ok (.getfield 706, 3) := by decide +kernel
theorem dX16_seal_64 : decode cX16_seal 64 = .ok (.iload_n 2, 1) := by decide +kernel
theorem dX16_seal_65 : decode cX16_seal 65 = .ok (.iaload, 1) := by decide +kernel
theorem dX16_seal_66 : decode cX16_seal 66 = .ok (.iastore, 1) := by decide +kernel
theorem dX16_seal_67 : decode cX16_seal 67 = .ok (.aload_n 0, 1) := by decide +kernel
theorem dX16_seal_68 : decode cX16_seal 68 = .ok (.getfield 709, 3) := by decide +kernel
theorem dX16_seal_71 : decode cX16_seal 71 = .ok (.iload_n 1, 1) := by decide +kernel
theorem dX16_seal_72 : decode cX16_seal 72 = .ok (.aload_n 0, 1) := by decide +kernel
theorem dX16_seal_73 : decode cX16_seal 73 = .ok (.getfield 709, 3) := by decide +kernel
theorem dX16_seal_76 : decode cX16_seal 76 = .ok (.iload_n 2, 1) := by decide +kernel
theorem dX16_seal_77 : decode cX16_seal 77 = .ok (.iaload, 1) := by decide +kernel
theorem dX16_seal_78 : decode cX16_seal 78 = .ok (.iastore, 1) := by decide +kernel
theorem dX16_seal_79 : decode cX16_seal 79 = .ok (.aload_n 0, 1) := by decide +kernel
theorem dX16_seal_80 : decode cX16_seal 80 = .ok (.getfield 712, 3) := by decide +kernel
theorem dX16_seal_83 : decode cX16_seal 83 = .ok (.iload_n 1, 1) := by decide +kernel
theorem dX16_seal_84 : decode cX16_seal 84 = .ok (.aload_n 0, 1) := by decide +kernel
theorem dX16_seal_85 : decode cX16_seal 85 = .ok (.getfield 712, 3) := by decide +kernel
theorem dX16_seal_88 : decode cX16_seal 88 = .ok (.iload_n 2, 1) := by decide +kernel
theorem dX16_seal_89 : decode cX16_seal 89 = .ok (.iaload, 1) := by decide +kernel
theorem dX16_seal_90 : decode cX16_seal 90 = .ok (.iastore, 1) := by decide +kernel
theorem dX16_seal_91 : decode cX16_seal 91 = .ok (.aload_n 0, 1) := by decide +kernel
theorem dX16_seal_92 : decode cX16_seal 92 = .ok (.getfield 715, 3) := by decide +kernel
theorem dX16_seal_95 : decode cX16_seal 95 = .ok (.iload_n 1, 1) := by decide +kernel
theorem dX16_seal_96 : decode cX16_seal 96 = .ok (.aload_n 0, 1) := by decide +kernel
theorem dX16_seal_97 : decode cX16_seal 97 = .ok (.getfield 715, 3) := by decide +kernel
theorem dX16_seal_100 : decode cX16_seal 100 = .ok (.iload_n 2, 1) := by decide +kernel
theorem dX16_seal_101 : decode cX16_seal 101 = .ok (.laload, 1) := by decide +kernel
theorem dX16_seal_102 : decode cX16_seal 102 = .ok (.lastore, 1) := by decide +kernel
theorem dX16_seal_103 : decode cX16_seal 103 = .ok (.aload_n 0, 1) := by decide +kernel
theorem dX16_seal_104 : decode cX16_seal 104 = .ok (.getfield 718, 3) := by decide +kernel
theorem dX16_seal_107 : decode cX16_seal 107 = .ok (.iload_n 1, 1) := by decide +kernel
theorem dX16_seal_108 : decode cX16_seal 108 = .ok (.aload_n 0, 1) := by decide +kernel
theorem dX16_seal_109 : decode cX16_seal 109 = .ok (.getfield 718, 3) := by decide +kernel
theorem dX16_seal_112 : decode cX16_seal 112 = .ok (.iload_n 2, 1) := by decide +kernel
theorem dX16_seal_113 : decode cX16_seal 113 = .ok (.laload, 1) := by decide +kernel
theorem dX16_seal_114 : decode cX16_seal 114 = .ok (.lastore, 1) := by decide +kernel
theorem dX16_seal_115 : decode cX16_seal 115 = .ok (.aload_n 0, 1) := by decide +kernel
theorem dX16_seal_116 : decode cX16_seal 116 = .ok (.getfield 721, 3) := by decide +kernel
theorem dX16_seal_119 : decode cX16_seal 119 = .ok (.iload_n 1, 1) := by decide +kernel
theorem dX16_seal_120 : decode cX16_seal 120 = .ok (.aload_n 0, 1) := by decide +kernel
theorem dX16_seal_121 : decode cX16_seal 121 = .ok (.getfield 721, 3) := by decide +kernel
theorem dX16_seal_124 : decode cX16_seal 124 = .ok (.iload_n 2, 1) := by decide +kernel
theorem dX16_seal_125 : decode cX16_seal 125 = .ok (.laload, 1) := by decide +kernel
theorem dX16_seal_126 : decode cX16_seal 126 = .ok (.lastore, 1) := by decide +kernel
theorem dX16_seal_127 : decode cX16_seal 127 = .ok (.aload_n 0, 1) := by decide +kernel
theorem dX16_seal_128 : decode cX16_seal 128 = .ok (.getfield 724, 3) := by decide +kernel
theorem dX16_seal_131 : decode cX16_seal 131 = .ok (.iload_n 1, 1) := by decide +kernel
theorem dX16_seal_132 : decode cX16_seal 132 = .ok (.aload_n 0, 1) := by decide +kernel
theorem dX16_seal_133 : decode cX16_seal 133 = .ok (.getfield 724, 3) := by decide +kernel
theorem dX16_seal_136 : decode cX16_seal 136 = .ok (.iload_n 2, 1) := by decide +kernel
theorem dX16_seal_137 : decode cX16_seal 137 = .ok (.iaload, 1) := by decide +kernel
theorem dX16_seal_138 : decode cX16_seal 138 = .ok (.iastore, 1) := by decide +kernel
theorem dX16_seal_139 : decode cX16_seal 139 = .ok (.iconst 0, 1) := by decide +kernel
theorem dX16_seal_140 : decode cX16_seal 140 = .ok (.istore_n 3, 1) := by decide +kernel
theorem dX16_seal_141 : decode cX16_seal 141 = .ok (.iload_n 3, 1) := by decide +kernel
theorem dX16_seal_142 : decode cX16_seal 142 = .ok (.bipush 8, 2) := by decide +kernel
theorem dX16_seal_144 : decode cX16_seal 144 = .ok (.if_icmp .ge 31, 3) := by decide +kernel
theorem dX16_seal_147 : decode cX16_seal 147 = .ok (.aload_n 0, 1) := by decide +kernel
theorem dX16_seal_148 : decode cX16_seal 148 = .ok (.getfield 727, 3) := by decide +kernel
theorem dX16_seal_151 : decode cX16_seal 151 = .ok (.bipush 8, 2) := by decide +kernel
theorem dX16_seal_153 : decode cX16_seal 153 = .ok (.iload_n 1, 1) := by decide +kernel
theorem dX16_seal_154 : decode cX16_seal 154 = .ok (.imul, 1) := by decide +kernel
theorem dX16_seal_155 : decode cX16_seal 155 = .ok (.iload_n 3, 1) := by decide +kernel
theorem dX16_seal_156 : decode cX16_seal 156 = .ok (.iadd, 1) := by decide +kernel
theorem dX16_seal_157 : decode cX16_seal 157 = .ok (.aload_n 0, 1) := by decide +kernel
theorem dX16_seal_158 : decode cX16_seal 158 = .ok (.getfield 727, 3) := by decide +kernel
theorem dX16_seal_161 : decode cX16_seal 161 = .ok (.bipush 8, 2) := by decide +kernel
theorem dX16_seal_163 : decode cX16_seal 163 = .ok (.iload_n 2, 1) := by decide +kernel
theorem dX16_seal_164 : decode cX16_seal 164 = .ok (.imul, 1) := by decide +kernel
theorem dX16_seal_165 : decode cX16_seal 165 = .ok (.iload_n 3, 1) := by decide +kernel
theorem dX16_seal_166 : decode cX16_seal 166 = .ok (.iadd, 1) := by decide +kernel
theorem dX16_seal_167 : decode cX16_seal 167 = .ok (.laload, 1) := by decide +kernel
theorem dX16_seal_168 : decode cX16_seal 168 = .ok (.lastore, 1) := by decide +kernel
theorem dX16_seal_169 : decode cX16_seal 169 = .ok (.iinc 3 1, 3) := by decide +kernel
theorem dX16_seal_172 : decode cX16_seal 172 = .ok (.goto (-31), 3) := by decide +kernel
theorem dX16_seal_175 : decode cX16_seal 175 = .ok (.iinc 1 1, 3) := by decide +kernel
theorem dX16_seal_178 : decode cX16_seal 178 = .ok (.goto (-139), 3) := by decide +kernel
theorem dX16_seal_181 : decode cX16_seal 181 = .ok (.iconst 0, 1) := by decide +kernel
theorem dX16_seal_182 : decode cX16_seal 182 = .ok (.istore_n 1, 1) := by decide +kernel
theorem dX16_seal_183 : decode cX16_seal 183 = .ok (.iload_n 1, 1) := by decide +kernel
theorem dX16_seal_184 : decode cX16_seal 184 = .ok (.bipush 64, 2) := by decide +kernel
theorem dX16_seal_186 : decode cX16_seal 186 = .ok (.if_icmp .ge 54, 3) := by decide +kernel
theorem dX16_seal_189 : decode cX16_seal 189 = .ok (.aload_n 0, 1) := by decide +kernel
theorem dX16_seal_190 : decode cX16_seal 190 = .ok (.getfield 694, 3) := by decide +kernel
theorem dX16_seal_193 : decode cX16_seal 193 = .ok (.iload_n 1, 1) := by decide +kernel
theorem dX16_seal_194 : decode cX16_seal 194 = .ok (.aload_n 0, 1) := by decide +kernel
theorem dX16_seal_195 : decode cX16_seal 195 = .ok (.getfield 694, 3) := by decide +kernel
theorem dX16_seal_198 : decode cX16_seal 198 = .ok (.bipush 64, 2) := by decide +kernel
theorem dX16_seal_200 : decode cX16_seal 200 = .ok (.iload_n 1, 1) := by decide +kernel
theorem dX16_seal_201 : decode cX16_seal 201 = .ok (.iadd, 1) := by decide +kernel
theorem dX16_seal_202 : decode cX16_seal 202 = .ok (.iaload, 1) := by decide +kernel
theorem dX16_seal_203 : decode cX16_seal 203 = .ok (.iastore, 1) := by decide +kernel
theorem dX16_seal_204 : decode cX16_seal 204 = .ok (.aload_n 0, 1) := by decide +kernel
theorem dX16_seal_205 : decode cX16_seal 205 = .ok (.getfield 697, 3) := by decide +kernel
theorem dX16_seal_208 : decode cX16_seal 208 = .ok (.iload_n 1, 1) := by decide +kernel
theorem dX16_seal_209 : decode cX16_seal 209 = .ok (.aload_n 0, 1) := by decide +kernel
theorem dX16_seal_210 : decode cX16_seal 210 = .ok (.getfield 697, 3) := by decide +kernel
theorem dX16_seal_213 : decode cX16_seal 213 = .ok (.bipush 64, 2) := by decide +kernel
theorem dX16_seal_215 : decode cX16_seal 215 = .ok (.iload_n 1, 1) := by decide +kernel
theorem dX16_seal_216 : decode cX16_seal 216 = .ok (.iadd, 1) := by decide +kernel
theorem dX16_seal_217 : decode cX16_seal 217 = .ok (.iaload, 1) := by decide +kernel
theorem dX16_seal_218 : decode cX16_seal 218 = .ok (.iastore, 1) := by decide +kernel
theorem dX16_seal_219 : decode cX16_seal 219 = .ok (.aload_n 0, 1) := by decide +kernel
theorem dX16_seal_220 : decode cX16_seal 220 = .ok (.getfield 700, 3) := by decide +kernel
theorem dX16_seal_223 : decode cX16_seal 223 = .ok (.iload_n 1, 1) := by decide +kernel
theorem dX16_seal_224 : decode cX16_seal 224 = .ok (.aload_n 0, 1) := by decide +kernel
theorem dX16_seal_225 : decode cX16_seal 225 = .ok (.getfield 700, 3) := by decide +kernel
theorem dX16_seal_228 : decode cX16_seal 228 = .ok (.bipush 64, 2) := by decide +kernel
theorem dX16_seal_230 : decode cX16_seal 230 = .ok (.iload_n 1, 1) := by decide +kernel
theorem dX16_seal_231 : decode cX16_seal 231 = .ok (.iadd, 1) := by decide +kernel
theorem dX16_seal_232 : decode cX16_seal 232 = .ok (.laload, 1) := by decide +kernel
theorem dX16_seal_233 : decode cX16_seal 233 = .ok (.lastore, 1) := by decide +kernel
theorem dX16_seal_234 : decode cX16_seal 234 = .ok (.iinc 1 1, 3) := by decide +kernel
theorem dX16_seal_237 : decode cX16_seal 237 = .ok (.goto (-54), 3) := by decide +kernel
theorem dX16_seal_240 : decode cX16_seal 240 = .ok (.iconst 0, 1) := by decide +kernel
theorem dX16_seal_241 : decode cX16_seal 241 = .ok (.istore_n 1, 1) := by decide +kernel
theorem dX16_seal_242 : decode cX16_seal 242 = .ok (.iload_n 1, 1) := by decide +kernel
theorem dX16_seal_243 : decode cX16_seal 243 = .ok (.bipush 64, 2) := by decide +kernel
theorem dX16_seal_245 : decode cX16_seal 245 = .ok (.if_icmp .ge 16, 3) := by decide +kernel
theorem dX16_seal_248 : decode cX16_seal 248 = .ok (.aload_n 0, 1) := by decide +kernel
theorem dX16_seal_249 : decode cX16_seal 249 = .ok (.getfield 428, 3) := by decide +kernel
theorem dX16_seal_252 : decode cX16_seal 252 = .ok (.iload_n 1, 1) := by decide +kernel
theorem dX16_seal_253 : decode cX16_seal 253 = .ok (.iconst 0, 1) := by decide +kernel
theorem dX16_seal_254 : decode cX16_seal 254 = .ok (.bastore, 1) := by decide +kernel
theorem dX16_seal_255 : decode cX16_seal 255 = .ok (.iinc 1 1, 3) := by decide +kernel
theorem dX16_seal_258 : decode cX16_seal 258 = .ok (.goto (-16), 3) := by decide +kernel
theorem dX16_seal_261 : decode cX16_seal 261 = .ok (.iconst 0, 1) := by decide +kernel
theorem dX16_seal_262 : decode cX16_seal 262 = .ok (.istore_n 1, 1) := by decide +kernel
theorem dX16_seal_263 : decode cX16_seal 263 = .ok (.iload_n 1, 1) := by decide +kernel
theorem dX16_seal_264 : decode cX16_seal 264 = .ok (.aload_n 0, 1) := by decide +kernel
theorem dX16_seal_265 : decode cX16_seal 265 = .ok (.getfield 356, 3) := by decide +kernel
theorem dX16_seal_268 : decode cX16_seal 268 = .ok (.getfield 321, 3) := by decide +kernel
theorem dX16_seal_271 : decode cX16_seal 271 = .ok (.if_icmp .ge 14, 3) := by decide +kernel
theorem dX16_seal_274 : decode cX16_seal 274 = .ok (.aload_n 0, 1) := by decide +kernel
theorem dX16_seal_275 : decode cX16_seal 275 = .ok (.iload_n 1, 1) := by decide +kernel
theorem dX16_seal_276 : decode cX16_seal 276 = .ok (.invokevirtual 751, 3) := by decide +kernel
theorem dX16_seal_279 : decode cX16_seal 279 = .ok (.iinc 1 1, 3) := by decide +kernel
theorem dX16_seal_282 : decode cX16_seal 282 = .ok (.goto (-19), 3) := by decide +kernel
theorem dX16_seal_285 : decode cX16_seal 285 = .ok (.return_, 1) := by decide +kernel
set_option maxRecDepth 20000 in
theorem a_X16_seal_285 {Q : Sg → Unit → Prop} {X : Sg → String → Prop} (K : MC R p s m args c cX16_seal 4 RX16 D cA tys A n0 s0 2 57 []) (hQ : HQV p l e R s m args below meth c cX16_seal D cA A n0 s0 QM dm ra jx rm Q) (hX : HX p l e R s m args below meth c 4 D cA A n0 s0 QM dm ra jx rm X) : ∀ (σ : Sg), w_X16_seal_285 ra jx rm Q X σ → RG σ → Shp dm ra jx rm σ → JJ p l e R s m args below meth c 4 D cA A n0 s0 QM σ 285 [(0, .ref rm)] [] := by
  intro σ h hGσ hS H locs ls hH hl hc
  have B := K.1
  unfold w_X16_seal_285 at h
  exact hQ _ _ _ _ _ dX16_seal_285 hH hc h hGσ hS
set_option maxRecDepth 20000 in
theorem a_X16_seal_274 {Q : Sg → Unit → Prop} {X : Sg → String → Prop} (K : MC R p s m args c cX16_seal 4 RX16 D cA tys A n0 s0 2 57 []) (hQ : HQV p l e R s m args below meth c cX16_seal D cA A n0 s0 QM dm ra jx rm Q) (hX : HX p l e R s m args below meth c 4 D cA A n0 s0 QM dm ra jx rm X) {K263 : Sg → Int → Prop} (hK263 : ∀ (σ : Sg) (v1 : Int) (g1 : rng v1), K263 σ v1 → RG σ → Shp dm ra jx rm σ → JJ p l e R s m args below meth c 4 D cA A n0 s0 QM σ 263 [(0, .ref rm), (1, .int (i32 v1))] []) : ∀ (σ : Sg) (v1 : Int) (g1 : rng v1), w_X16_seal_274 ra jx rm K263 Q X σ v1 → RG σ → Shp dm ra jx rm σ → JJ p l e R s m args below meth c 4 D cA A n0 s0 QM σ 274 [(0, .ref rm), (1, .int (i32 v1))] [] := by
  intro σ v1 g1 h hGσ hS H locs ls hH hl hc
  have B := K.1
  unfold w_X16_seal_274 at h
  refine lv_aload_n B.1 B.2.1 dX16_seal_274 rfl (lv_at hl 0 rfl) ?_
  refine lv_iload_n B.1 B.2.1 dX16_seal_275 rfl (lv_at hl 1 rfl) ?_
  refine c_V B hH hl hc K.2.2.1 (C := RX16) (T := TX16) (N := 123) (ci := 16) (As := [.int (i32 v1)]) (ok_X16_show K.2.1 σ v1 g1 hGσ hS h) wc_X16_751 1 hd_X16_show ⟨Nat.le_trans (Nat.le_of_ble_eq_true rfl) K.2.2.2.1, Nat.le_trans (Nat.le_of_ble_eq_true rfl) K.2.2.2.2.1⟩ hS.1.1 hS.1.2 (by decide) rfl rfl (rest := []) rfl (Nat.le_of_ble_eq_true rfl) dX16_seal_276 (fun σ37 w hq => ?_) (fun σ9 E9 hx9 => hX σ9 E9 _ _ _ (tb_out K.2.2.2.2.2 rfl) hx9.1 hx9.2.1 hx9.2.2)
  obtain ⟨rfl, h, hGσ37, hS⟩ := hq
  intro H locs ls hH hl hc
  refine W.eq (g2 := F0 m 279 ls []) (rfl) ?_
  try dsimp only at h
  obtain ⟨q1, h⟩ := h
  refine lv_iinc (k := 1) (v := i32 (v1 + 1)) (lv' := [(1, .int (i32 (v1 + 1))), (0, .ref rm)]) B.1 B.2.1 dX16_seal_279 hl rfl (i32_add _ _) (by decide) rfl (fun ls hl => ?_)
  refine lv_goto (tgt := 263) B.1 B.2.1 dX16_seal_282 (by decide) ?_
  exact hK263 _ _ q1 h hGσ37 hS _ _ _ hH (lv_sub (l' := [(0, .ref rm), (1, .int (i32 (v1 + 1)))]) hl [1, 0] rfl) hc
set_option maxRecDepth 20000 in
theorem a_X16_seal_263 {Q : Sg → Unit → Prop} {X : Sg → String → Prop} (K : MC R p s m args c cX16_seal 4 RX16 D cA tys A n0 s0 2 57 []) (hQ : HQV p l e R s m args below meth c cX16_seal D cA A n0 s0 QM dm ra jx rm Q) (hX : HX p l e R s m args below meth c 4 D cA A n0 s0 QM dm ra jx rm X) {K263 : Sg → Int → Prop} (hK263 : ∀ (σ : Sg) (v1 : Int) (g1 : rng v1), K263 σ v1 → RG σ → Shp dm ra jx rm σ → JJ p l e R s m args below meth c 4 D cA A n0 s0 QM σ 263 [(0, .ref rm), (1, .int (i32 v1))] []) : ∀ (σ : Sg) (v1 : Int) (g1 : rng v1), w_X16_seal_263 ra jx rm K263 Q X σ v1 → RG σ → Shp dm ra jx rm σ → JJ p l e R s m args below meth c 4 D cA A n0 s0 QM σ 263 [(0, .ref rm), (1, .int (i32 v1))] [] := by
  intro σ v1 g1 h hGσ hS H locs ls hH hl hc
  have B := K.1
  unfold w_X16_seal_263 at h
  refine lv_iload_n B.1 B.2.1 dX16_seal_263 rfl (lv_at hl 1 rfl) ?_
  refine lv_aload_n B.1 B.2.1 dX16_seal_264 rfl (lv_at hl 0 rfl) ?_
  refine r_getp B hH hS 17 (by decide) wf_X16_356 rfl rfl dX16_seal_265 ?_
  obtain ⟨a38, ea38, ja38, h⟩ := h
  refine W.eq (g2 := F0 m 268 ls [.ref a38, .int (i32 v1)]) (by rw [ea38]; rfl) ?_
  refine n_geti B hH hS ja38 1 (by decide) (List.mem_of_getElem? (i := 1) rfl) rfl dX16_seal_268 ?_
  refine lv_icmp_ge (tgt := 285) B.1 B.2.1 dX16_seal_271 (by decide) (fun h9 => ?_) (fun h9 => ?_)
  · rw [if_pos ((i32_le (hGσ _ _) g1).mp h9)] at h
    exact a_X16_seal_285 K hQ hX _ h hGσ hS _ _ _ hH (lv_sub (l' := [(0, .ref rm)]) hl [0] rfl) hc
  · rw [if_neg (fun q => h9 ((i32_le (hGσ _ _) g1).mpr q))] at h
    exact a_X16_seal_274 K hQ hX hK263 _ _ g1 h hGσ hS _ _ _ hH (lv_sub (l' := [(0, .ref rm), (1, .int (i32 v1))]) hl [0, 1] rfl) hc
theorem al_X16_seal_263 {Q : Sg → Unit → Prop} {X : Sg → String → Prop} (K : MC R p s m args c cX16_seal 4 RX16 D cA tys A n0 s0 2 57 []) (hQ : HQV p l e R s m args below meth c cX16_seal D cA A n0 s0 QM dm ra jx rm Q) (hX : HX p l e R s m args below meth c 4 D cA A n0 s0 QM dm ra jx rm X) : ∀ (n : Nat), ∀ (σ : Sg) (v1 : Int) (g1 : rng v1), wl_X16_seal_263 ra jx rm Q X n σ v1 → RG σ → Shp dm ra jx rm σ → JJ p l e R s m args below meth c 4 D cA A n0 s0 QM σ 263 [(0, .ref rm), (1, .int (i32 v1))] [] := by
  intro n
  induction n with
  | zero => intro σ v1 g1 h; exact h.elim
  | succ n ih => exact fun σ v1 g1 h => a_X16_seal_263 K hQ hX ih σ v1 g1 h
set_option maxRecDepth 20000 in
theorem a_X16_seal_261 {Q : Sg → Unit → Prop} {X : Sg → String → Prop} (K : MC R p s m args c cX16_seal 4 RX16 D cA tys A n0 s0 2 57 []) (hQ : HQV p l e R s m args below meth c cX16_seal D cA A n0 s0 QM dm ra jx rm Q) (hX : HX p l e R s m args below meth c 4 D cA A n0 s0 QM dm ra jx rm X) : ∀ (σ : Sg), w_X16_seal_261 ra jx rm Q X σ → RG σ → Shp dm ra jx rm σ → JJ p l e R s m args below meth c 4 D cA A n0 s0 QM σ 261 [(0, .ref rm)] [] := by
  intro σ h hGσ hS H locs ls hH hl hc
  have B := K.1
  unfold w_X16_seal_261 at h
  refine lv_iconst (v := i32 0) B.1 B.2.1 dX16_seal_261 (by decide) ?_
  refine lv_istore_n (lv' := [(1, .int (i32 0)), (0, .ref rm)]) B.1 B.2.1 dX16_seal_262 rfl hl (by decide) rfl (fun ls hl => ?_)
  obtain ⟨n9, h⟩ := h
  exact al_X16_seal_263 K hQ hX n9 _ _ (by unfold rng; omega) h hGσ hS _ _ _ hH (lv_sub (l' := [(0, .ref rm), (1, .int (i32 0))]) hl [1, 0] rfl) hc
set_option maxRecDepth 20000 in
theorem a_X16_seal_248 {Q : Sg → Unit → Prop} {X : Sg → String → Prop} (K : MC R p s m args c cX16_seal 4 RX16 D cA tys A n0 s0 2 57 []) (hQ : HQV p l e R s m args below meth c cX16_seal D cA A n0 s0 QM dm ra jx rm Q) (hX : HX p l e R s m args below meth c 4 D cA A n0 s0 QM dm ra jx rm X) {K242 : Sg → Int → Prop} (hK242 : ∀ (σ : Sg) (v1 : Int) (g1 : rng v1), K242 σ v1 → RG σ → Shp dm ra jx rm σ → JJ p l e R s m args below meth c 4 D cA A n0 s0 QM σ 242 [(0, .ref rm), (1, .int (i32 v1))] []) : ∀ (σ : Sg) (v1 : Int) (g1 : rng v1), w_X16_seal_248 ra jx rm K242 Q X σ v1 → RG σ → Shp dm ra jx rm σ → JJ p l e R s m args below meth c 4 D cA A n0 s0 QM σ 248 [(0, .ref rm), (1, .int (i32 v1))] [] := by
  intro σ v1 g1 h hGσ hS H locs ls hH hl hc
  have B := K.1
  unfold w_X16_seal_248 at h
  refine lv_aload_n B.1 B.2.1 dX16_seal_248 rfl (lv_at hl 0 rfl) ?_
  refine r_arr B hH hS 44 (kd := 103) (n := 64) (by decide) (by decide) wf_X16_428 rfl rfl dX16_seal_249 ?_
  refine lv_iload_n B.1 B.2.1 dX16_seal_252 rfl (lv_at hl 1 rfl) ?_
  refine lv_iconst (v := i32 0) B.1 B.2.1 dX16_seal_253 (by decide) ?_
  obtain ⟨q1, h⟩ := h
  obtain ⟨σ39, eσ39⟩ : ∃ z, z = pI σ (ra 44) v1.toNat (nZ 0) := ⟨_, rfl⟩
  have h := h σ39 eσ39
  refine x_zast B K.2.1 hH (hS.ar (k := 44) (kd := 103) (n := 64) (by decide)) (by decide) q1 dX16_seal_254 (fun H locs hH => ?_)
  have hH : Hd D cA A s (pI σ (ra 44) v1.toNat (nZ 0)) H locs := hH
  rw [← eσ39] at hH
  have hGσ39 : RG σ39 := by rw [eσ39]; exact hGσ.pI (rng_toInt _)
  have hS : Shp dm ra jx rm σ39 := by rw [eσ39]; exact hS
  have hc : CB n0 s0 σ39 := by rw [eσ39]; exact hc
  rw [show gc σ = gc σ39 by rw [eσ39], show gs σ = gs σ39 by rw [eσ39]]
  obtain ⟨q3, h⟩ := h
  refine lv_iinc (k := 1) (v := i32 (v1 + 1)) (lv' := [(1, .int (i32 (v1 + 1))), (0, .ref rm)]) B.1 B.2.1 dX16_seal_255 hl rfl (i32_add _ _) (by decide) rfl (fun ls hl => ?_)
  refine lv_goto (tgt := 242) B.1 B.2.1 dX16_seal_258 (by decide) ?_
  exact hK242 _ _ q3 h hGσ39 hS _ _ _ hH (lv_sub (l' := [(0, .ref rm), (1, .int (i32 (v1 + 1)))]) hl [1, 0] rfl) hc
set_option maxRecDepth 20000 in
theorem a_X16_seal_242 {Q : Sg → Unit → Prop} {X : Sg → String → Prop} (K : MC R p s m args c cX16_seal 4 RX16 D cA tys A n0 s0 2 57 []) (hQ : HQV p l e R s m args below meth c cX16_seal D cA A n0 s0 QM dm ra jx rm Q) (hX : HX p l e R s m args below meth c 4 D cA A n0 s0 QM dm ra jx rm X) {K242 : Sg → Int → Prop} (hK242 : ∀ (σ : Sg) (v1 : Int) (g1 : rng v1), K242 σ v1 → RG σ → Shp dm ra jx rm σ → JJ p l e R s m args below meth c 4 D cA A n0 s0 QM σ 242 [(0, .ref rm), (1, .int (i32 v1))] []) : ∀ (σ : Sg) (v1 : Int) (g1 : rng v1), w_X16_seal_242 ra jx rm K242 Q X σ v1 → RG σ → Shp dm ra jx rm σ → JJ p l e R s m args below meth c 4 D cA A n0 s0 QM σ 242 [(0, .ref rm), (1, .int (i32 v1))] [] := by
  intro σ v1 g1 h hGσ hS H locs ls hH hl hc
  have B := K.1
  unfold w_X16_seal_242 at h
  refine lv_iload_n B.1 B.2.1 dX16_seal_242 rfl (lv_at hl 1 rfl) ?_
  refine lv_bipush (v := i32 64) B.1 B.2.1 dX16_seal_243 (by decide) ?_
  refine lv_icmp_ge (tgt := 261) B.1 B.2.1 dX16_seal_245 (by decide) (fun h9 => ?_) (fun h9 => ?_)
  · rw [if_pos ((i32_le (by unfold rng; omega) g1).mp h9)] at h
    exact a_X16_seal_261 K hQ hX _ h hGσ hS _ _ _ hH (lv_sub (l' := [(0, .ref rm)]) hl [0] rfl) hc
  · rw [if_neg (fun q => h9 ((i32_le (by unfold rng; omega) g1).mpr q))] at h
    exact a_X16_seal_248 K hQ hX hK242 _ _ g1 h hGσ hS _ _ _ hH (lv_sub (l' := [(0, .ref rm), (1, .int (i32 v1))]) hl [0, 1] rfl) hc
theorem al_X16_seal_242 {Q : Sg → Unit → Prop} {X : Sg → String → Prop} (K : MC R p s m args c cX16_seal 4 RX16 D cA tys A n0 s0 2 57 []) (hQ : HQV p l e R s m args below meth c cX16_seal D cA A n0 s0 QM dm ra jx rm Q) (hX : HX p l e R s m args below meth c 4 D cA A n0 s0 QM dm ra jx rm X) : ∀ (n : Nat), ∀ (σ : Sg) (v1 : Int) (g1 : rng v1), wl_X16_seal_242 ra jx rm Q X n σ v1 → RG σ → Shp dm ra jx rm σ → JJ p l e R s m args below meth c 4 D cA A n0 s0 QM σ 242 [(0, .ref rm), (1, .int (i32 v1))] [] := by
  intro n
  induction n with
  | zero => intro σ v1 g1 h; exact h.elim
  | succ n ih => exact fun σ v1 g1 h => a_X16_seal_242 K hQ hX ih σ v1 g1 h
set_option maxRecDepth 20000 in
theorem a_X16_seal_240 {Q : Sg → Unit → Prop} {X : Sg → String → Prop} (K : MC R p s m args c cX16_seal 4 RX16 D cA tys A n0 s0 2 57 []) (hQ : HQV p l e R s m args below meth c cX16_seal D cA A n0 s0 QM dm ra jx rm Q) (hX : HX p l e R s m args below meth c 4 D cA A n0 s0 QM dm ra jx rm X) : ∀ (σ : Sg), w_X16_seal_240 ra jx rm Q X σ → RG σ → Shp dm ra jx rm σ → JJ p l e R s m args below meth c 4 D cA A n0 s0 QM σ 240 [(0, .ref rm)] [] := by
  intro σ h hGσ hS H locs ls hH hl hc
  have B := K.1
  unfold w_X16_seal_240 at h
  refine lv_iconst (v := i32 0) B.1 B.2.1 dX16_seal_240 (by decide) ?_
  refine lv_istore_n (lv' := [(1, .int (i32 0)), (0, .ref rm)]) B.1 B.2.1 dX16_seal_241 rfl hl (by decide) rfl (fun ls hl => ?_)
  obtain ⟨n9, h⟩ := h
  exact al_X16_seal_242 K hQ hX n9 _ _ (by unfold rng; omega) h hGσ hS _ _ _ hH (lv_sub (l' := [(0, .ref rm), (1, .int (i32 0))]) hl [1, 0] rfl) hc
set_option maxRecDepth 20000 in
theorem a_X16_seal_189 {Q : Sg → Unit → Prop} {X : Sg → String → Prop} (K : MC R p s m args c cX16_seal 4 RX16 D cA tys A n0 s0 2 57 []) (hQ : HQV p l e R s m args below meth c cX16_seal D cA A n0 s0 QM dm ra jx rm Q) (hX : HX p l e R s m args below meth c 4 D cA A n0 s0 QM dm ra jx rm X) {K183 : Sg → Int → Prop} (hK183 : ∀ (σ : Sg) (v1 : Int) (g1 : rng v1), K183 σ v1 → RG σ → Shp dm ra jx rm σ → JJ p l e R s m args below meth c 4 D cA A n0 s0 QM σ 183 [(0, .ref rm), (1, .int (i32 v1))] []) : ∀ (σ : Sg) (v1 : Int) (g1 : rng v1), w_X16_seal_189 ra jx rm K183 Q X σ v1 → RG σ → Shp dm ra jx rm σ → JJ p l e R s m args below meth c 4 D cA A n0 s0 QM σ 189 [(0, .ref rm), (1, .int (i32 v1))] [] := by
  intro σ v1 g1 h hGσ hS H locs ls hH hl hc
  have B := K.1
  unfold w_X16_seal_189 at h
  refine lv_aload_n B.1 B.2.1 dX16_seal_189 rfl (lv_at hl 0 rfl) ?_
  refine r_arr B hH hS 107 (kd := 100) (n := 128) (by decide) (by decide) wf_X16_694 rfl rfl dX16_seal_190 ?_
  refine lv_iload_n B.1 B.2.1 dX16_seal_193 rfl (lv_at hl 1 rfl) ?_
  refine lv_aload_n B.1 B.2.1 dX16_seal_194 rfl (lv_at hl 0 rfl) ?_
  refine r_arr B hH hS 107 (kd := 100) (n := 128) (by decide) (by decide) wf_X16_694 rfl rfl dX16_seal_195 ?_
  refine lv_bipush (v := i32 64) B.1 B.2.1 dX16_seal_198 (by decide) ?_
  refine lv_iload_n B.1 B.2.1 dX16_seal_200 rfl (lv_at hl 1 rfl) ?_
  obtain ⟨q1, h⟩ := h
  refine lv_iadd B.1 B.2.1 dX16_seal_201 ?_
  rw [i32_add]
  obtain ⟨q2, h⟩ := h
  refine x_iald B K.2.1 hH (hS.ar (k := 107) (kd := 100) (n := 128) (by decide)) (by decide) q2 dX16_seal_202 ?_
  obtain ⟨q3, h⟩ := h
  obtain ⟨σ40, eσ40⟩ : ∃ z, z = pI σ (ra 107) v1.toNat (gI σ (ra 107) (64 + v1).toNat) := ⟨_, rfl⟩
  have h := h σ40 eσ40
  refine x_iast B K.2.1 hH (hS.ar (k := 107) (kd := 100) (n := 128) (by decide)) (by decide) q3 dX16_seal_203 (fun H locs hH => ?_)
  have hH : Hd D cA A s (pI σ (ra 107) v1.toNat (gI σ (ra 107) (64 + v1).toNat)) H locs := hH
  rw [← eσ40] at hH
  have hGσ40 : RG σ40 := by rw [eσ40]; exact hGσ.pI (hGσ _ _)
  have hS : Shp dm ra jx rm σ40 := by rw [eσ40]; exact hS
  have hc : CB n0 s0 σ40 := by rw [eσ40]; exact hc
  rw [show gc σ = gc σ40 by rw [eσ40], show gs σ = gs σ40 by rw [eσ40]]
  refine lv_aload_n B.1 B.2.1 dX16_seal_204 rfl (lv_at hl 0 rfl) ?_
  refine r_arr B hH hS 108 (kd := 100) (n := 128) (by decide) (by decide) wf_X16_697 rfl rfl dX16_seal_205 ?_
  refine lv_iload_n B.1 B.2.1 dX16_seal_208 rfl (lv_at hl 1 rfl) ?_
  refine lv_aload_n B.1 B.2.1 dX16_seal_209 rfl (lv_at hl 0 rfl) ?_
  refine r_arr B hH hS 108 (kd := 100) (n := 128) (by decide) (by decide) wf_X16_697 rfl rfl dX16_seal_210 ?_
  refine lv_bipush (v := i32 64) B.1 B.2.1 dX16_seal_213 (by decide) ?_
  refine lv_iload_n B.1 B.2.1 dX16_seal_215 rfl (lv_at hl 1 rfl) ?_
  obtain ⟨q5, h⟩ := h
  refine lv_iadd B.1 B.2.1 dX16_seal_216 ?_
  rw [i32_add]
  obtain ⟨q6, h⟩ := h
  refine x_iald B K.2.1 hH (hS.ar (k := 108) (kd := 100) (n := 128) (by decide)) (by decide) q6 dX16_seal_217 ?_
  obtain ⟨q7, h⟩ := h
  obtain ⟨σ41, eσ41⟩ : ∃ z, z = pI σ40 (ra 108) v1.toNat (gI σ40 (ra 108) (64 + v1).toNat) := ⟨_, rfl⟩
  have h := h σ41 eσ41
  refine x_iast B K.2.1 hH (hS.ar (k := 108) (kd := 100) (n := 128) (by decide)) (by decide) q7 dX16_seal_218 (fun H locs hH => ?_)
  have hH : Hd D cA A s (pI σ40 (ra 108) v1.toNat (gI σ40 (ra 108) (64 + v1).toNat)) H locs := hH
  rw [← eσ41] at hH
  have hGσ41 : RG σ41 := by rw [eσ41]; exact hGσ40.pI (hGσ40 _ _)
  have hS : Shp dm ra jx rm σ41 := by rw [eσ41]; exact hS
  have hc : CB n0 s0 σ41 := by rw [eσ41]; exact hc
  rw [show gc σ40 = gc σ41 by rw [eσ41], show gs σ40 = gs σ41 by rw [eσ41]]
  refine lv_aload_n B.1 B.2.1 dX16_seal_219 rfl (lv_at hl 0 rfl) ?_
  refine r_arr B hH hS 109 (kd := 101) (n := 128) (by decide) (by decide) wf_X16_700 rfl rfl dX16_seal_220 ?_
  refine lv_iload_n B.1 B.2.1 dX16_seal_223 rfl (lv_at hl 1 rfl) ?_
  refine lv_aload_n B.1 B.2.1 dX16_seal_224 rfl (lv_at hl 0 rfl) ?_
  refine r_arr B hH hS 109 (kd := 101) (n := 128) (by decide) (by decide) wf_X16_700 rfl rfl dX16_seal_225 ?_
  refine lv_bipush (v := i32 64) B.1 B.2.1 dX16_seal_228 (by decide) ?_
  refine lv_iload_n B.1 B.2.1 dX16_seal_230 rfl (lv_at hl 1 rfl) ?_
  obtain ⟨q9, h⟩ := h
  refine lv_iadd B.1 B.2.1 dX16_seal_231 ?_
  rw [i32_add]
  obtain ⟨q10, h⟩ := h
  refine x_lald B K.2.1 hH (hS.ar (k := 109) (kd := 101) (n := 128) (by decide)) (by decide) q10 dX16_seal_232 ?_
  obtain ⟨q11, h⟩ := h
  obtain ⟨σ42, eσ42⟩ : ∃ z, z = pJ σ41 (ra 109) v1.toNat (gJ σ41 (ra 109) (64 + v1).toNat) := ⟨_, rfl⟩
  have h := h σ42 eσ42
  refine x_last B K.2.1 hH (hS.ar (k := 109) (kd := 101) (n := 128) (by decide)) (by decide) q11 dX16_seal_233 (fun H locs hH => ?_)
  have hH : Hd D cA A s (pJ σ41 (ra 109) v1.toNat (gJ σ41 (ra 109) (64 + v1).toNat)) H locs := hH
  rw [← eσ42] at hH
  have hGσ42 : RG σ42 := by rw [eσ42]; exact hGσ41.pJ
  have hS : Shp dm ra jx rm σ42 := by rw [eσ42]; exact hS
  have hc : CB n0 s0 σ42 := by rw [eσ42]; exact hc
  rw [show gc σ41 = gc σ42 by rw [eσ42], show gs σ41 = gs σ42 by rw [eσ42]]
  obtain ⟨q13, h⟩ := h
  refine lv_iinc (k := 1) (v := i32 (v1 + 1)) (lv' := [(1, .int (i32 (v1 + 1))), (0, .ref rm)]) B.1 B.2.1 dX16_seal_234 hl rfl (i32_add _ _) (by decide) rfl (fun ls hl => ?_)
  refine lv_goto (tgt := 183) B.1 B.2.1 dX16_seal_237 (by decide) ?_
  exact hK183 _ _ q13 h hGσ42 hS _ _ _ hH (lv_sub (l' := [(0, .ref rm), (1, .int (i32 (v1 + 1)))]) hl [1, 0] rfl) hc
set_option maxRecDepth 20000 in
theorem a_X16_seal_183 {Q : Sg → Unit → Prop} {X : Sg → String → Prop} (K : MC R p s m args c cX16_seal 4 RX16 D cA tys A n0 s0 2 57 []) (hQ : HQV p l e R s m args below meth c cX16_seal D cA A n0 s0 QM dm ra jx rm Q) (hX : HX p l e R s m args below meth c 4 D cA A n0 s0 QM dm ra jx rm X) {K183 : Sg → Int → Prop} (hK183 : ∀ (σ : Sg) (v1 : Int) (g1 : rng v1), K183 σ v1 → RG σ → Shp dm ra jx rm σ → JJ p l e R s m args below meth c 4 D cA A n0 s0 QM σ 183 [(0, .ref rm), (1, .int (i32 v1))] []) : ∀ (σ : Sg) (v1 : Int) (g1 : rng v1), w_X16_seal_183 ra jx rm K183 Q X σ v1 → RG σ → Shp dm ra jx rm σ → JJ p l e R s m args below meth c 4 D cA A n0 s0 QM σ 183 [(0, .ref rm), (1, .int (i32 v1))] [] := by
  intro σ v1 g1 h hGσ hS H locs ls hH hl hc
  have B := K.1
  unfold w_X16_seal_183 at h
  refine lv_iload_n B.1 B.2.1 dX16_seal_183 rfl (lv_at hl 1 rfl) ?_
  refine lv_bipush (v := i32 64) B.1 B.2.1 dX16_seal_184 (by decide) ?_
  refine lv_icmp_ge (tgt := 240) B.1 B.2.1 dX16_seal_186 (by decide) (fun h9 => ?_) (fun h9 => ?_)
  · rw [if_pos ((i32_le (by unfold rng; omega) g1).mp h9)] at h
    exact a_X16_seal_240 K hQ hX _ h hGσ hS _ _ _ hH (lv_sub (l' := [(0, .ref rm)]) hl [0] rfl) hc
  · rw [if_neg (fun q => h9 ((i32_le (by unfold rng; omega) g1).mpr q))] at h
    exact a_X16_seal_189 K hQ hX hK183 _ _ g1 h hGσ hS _ _ _ hH (lv_sub (l' := [(0, .ref rm), (1, .int (i32 v1))]) hl [0, 1] rfl) hc
theorem al_X16_seal_183 {Q : Sg → Unit → Prop} {X : Sg → String → Prop} (K : MC R p s m args c cX16_seal 4 RX16 D cA tys A n0 s0 2 57 []) (hQ : HQV p l e R s m args below meth c cX16_seal D cA A n0 s0 QM dm ra jx rm Q) (hX : HX p l e R s m args below meth c 4 D cA A n0 s0 QM dm ra jx rm X) : ∀ (n : Nat), ∀ (σ : Sg) (v1 : Int) (g1 : rng v1), wl_X16_seal_183 ra jx rm Q X n σ v1 → RG σ → Shp dm ra jx rm σ → JJ p l e R s m args below meth c 4 D cA A n0 s0 QM σ 183 [(0, .ref rm), (1, .int (i32 v1))] [] := by
  intro n
  induction n with
  | zero => intro σ v1 g1 h; exact h.elim
  | succ n ih => exact fun σ v1 g1 h => a_X16_seal_183 K hQ hX ih σ v1 g1 h
set_option maxRecDepth 20000 in
theorem a_X16_seal_181 {Q : Sg → Unit → Prop} {X : Sg → String → Prop} (K : MC R p s m args c cX16_seal 4 RX16 D cA tys A n0 s0 2 57 []) (hQ : HQV p l e R s m args below meth c cX16_seal D cA A n0 s0 QM dm ra jx rm Q) (hX : HX p l e R s m args below meth c 4 D cA A n0 s0 QM dm ra jx rm X) : ∀ (σ : Sg), w_X16_seal_181 ra jx rm Q X σ → RG σ → Shp dm ra jx rm σ → JJ p l e R s m args below meth c 4 D cA A n0 s0 QM σ 181 [(0, .ref rm)] [] := by
  intro σ h hGσ hS H locs ls hH hl hc
  have B := K.1
  unfold w_X16_seal_181 at h
  refine lv_iconst (v := i32 0) B.1 B.2.1 dX16_seal_181 (by decide) ?_
  refine lv_istore_n (lv' := [(1, .int (i32 0)), (0, .ref rm)]) B.1 B.2.1 dX16_seal_182 rfl hl (by decide) rfl (fun ls hl => ?_)
  obtain ⟨n9, h⟩ := h
  exact al_X16_seal_183 K hQ hX n9 _ _ (by unfold rng; omega) h hGσ hS _ _ _ hH (lv_sub (l' := [(0, .ref rm), (1, .int (i32 0))]) hl [1, 0] rfl) hc
set_option maxRecDepth 20000 in
theorem a_X16_seal_175 {Q : Sg → Unit → Prop} {X : Sg → String → Prop} (K : MC R p s m args c cX16_seal 4 RX16 D cA tys A n0 s0 2 57 []) (hQ : HQV p l e R s m args below meth c cX16_seal D cA A n0 s0 QM dm ra jx rm Q) (hX : HX p l e R s m args below meth c 4 D cA A n0 s0 QM dm ra jx rm X) {K39 : Sg → Int → Prop} (hK39 : ∀ (σ : Sg) (v1 : Int) (g1 : rng v1), K39 σ v1 → RG σ → Shp dm ra jx rm σ → JJ p l e R s m args below meth c 4 D cA A n0 s0 QM σ 39 [(0, .ref rm), (1, .int (i32 v1))] []) : ∀ (σ : Sg) (v1 : Int) (g1 : rng v1), w_X16_seal_175 ra jx rm K39 Q X σ v1 → RG σ → Shp dm ra jx rm σ → JJ p l e R s m args below meth c 4 D cA A n0 s0 QM σ 175 [(0, .ref rm), (1, .int (i32 v1))] [] := by
  intro σ v1 g1 h hGσ hS H locs ls hH hl hc
  have B := K.1
  unfold w_X16_seal_175 at h
  obtain ⟨q1, h⟩ := h
  refine lv_iinc (k := 1) (v := i32 (v1 + 1)) (lv' := [(1, .int (i32 (v1 + 1))), (0, .ref rm)]) B.1 B.2.1 dX16_seal_175 hl rfl (i32_add _ _) (by decide) rfl (fun ls hl => ?_)
  refine lv_goto (tgt := 39) B.1 B.2.1 dX16_seal_178 (by decide) ?_
  exact hK39 _ _ q1 h hGσ hS _ _ _ hH (lv_sub (l' := [(0, .ref rm), (1, .int (i32 (v1 + 1)))]) hl [1, 0] rfl) hc
set_option maxRecDepth 20000 in
theorem a_X16_seal_147 {Q : Sg → Unit → Prop} {X : Sg → String → Prop} (K : MC R p s m args c cX16_seal 4 RX16 D cA tys A n0 s0 2 57 []) (hQ : HQV p l e R s m args below meth c cX16_seal D cA A n0 s0 QM dm ra jx rm Q) (hX : HX p l e R s m args below meth c 4 D cA A n0 s0 QM dm ra jx rm X) {K39 : Sg → Int → Prop} (hK39 : ∀ (σ : Sg) (v1 : Int) (g1 : rng v1), K39 σ v1 → RG σ → Shp dm ra jx rm σ → JJ p l e R s m args below meth c 4 D cA A n0 s0 QM σ 39 [(0, .ref rm), (1, .int (i32 v1))] []) {K141 : Sg → Int → Int → Int → Prop} (hK141 : ∀ (σ : Sg) (v1 : Int) (v2 : Int) (v3 : Int) (g1 : rng v1) (g2 : rng v2) (g3 : rng v3), K141 σ v1 v2 v3 → RG σ → Shp dm ra jx rm σ → JJ p l e R s m args below meth c 4 D cA A n0 s0 QM σ 141 [(0, .ref rm), (1, .int (i32 v1)), (2, .int (i32 v2)), (3, .int (i32 v3))] []) : ∀ (σ : Sg) (v1 : Int) (v2 : Int) (v3 : Int) (g1 : rng v1) (g2 : rng v2) (g3 : rng v3), w_X16_seal_147 ra jx rm K39 K141 Q X σ v1 v2 v3 → RG σ → Shp dm ra jx rm σ → JJ p l e R s m args below meth c 4 D cA A n0 s0 QM σ 147 [(0, .ref rm), (1, .int (i32 v1)), (2, .int (i32 v2)), (3, .int (i32 v3))] [] := by
  intro σ v1 v2 v3 g1 g2 g3 h hGσ hS H locs ls hH hl hc
  have B := K.1
  unfold w_X16_seal_147 at h
  refine lv_aload_n B.1 B.2.1 dX16_seal_147 rfl (lv_at hl 0 rfl) ?_
  refine r_arr B hH hS 105 (kd := 101) (n := 64000) (by decide) (by decide) wf_X16_727 rfl rfl dX16_seal_148 ?_
  refine lv_bipush (v := i32 8) B.1 B.2.1 dX16_seal_151 (by decide) ?_
  refine lv_iload_n B.1 B.2.1 dX16_seal_153 rfl (lv_at hl 1 rfl) ?_
  obtain ⟨q1, h⟩ := h
  refine lv_imul B.1 B.2.1 dX16_seal_154 ?_
  rw [i32_mul]
  refine lv_iload_n B.1 B.2.1 dX16_seal_155 rfl (lv_at hl 3 rfl) ?_
  obtain ⟨q2, h⟩ := h
  refine lv_iadd B.1 B.2.1 dX16_seal_156 ?_
  rw [i32_add]
  refine lv_aload_n B.1 B.2.1 dX16_seal_157 rfl (lv_at hl 0 rfl) ?_
  refine r_arr B hH hS 105 (kd := 101) (n := 64000) (by decide) (by decide) wf_X16_727 rfl rfl dX16_seal_158 ?_
  refine lv_bipush (v := i32 8) B.1 B.2.1 dX16_seal_161 (by decide) ?_
  refine lv_iload_n B.1 B.2.1 dX16_seal_163 rfl (lv_at hl 2 rfl) ?_
  obtain ⟨q3, h⟩ := h
  refine lv_imul B.1 B.2.1 dX16_seal_164 ?_
  rw [i32_mul]
  refine lv_iload_n B.1 B.2.1 dX16_seal_165 rfl (lv_at hl 3 rfl) ?_
  obtain ⟨q4, h⟩ := h
  refine lv_iadd B.1 B.2.1 dX16_seal_166 ?_
  rw [i32_add]
  obtain ⟨q5, h⟩ := h
  refine x_lald B K.2.1 hH (hS.ar (k := 105) (kd := 101) (n := 64000) (by decide)) (by decide) q5 dX16_seal_167 ?_
  obtain ⟨q6, h⟩ := h
  obtain ⟨σ43, eσ43⟩ : ∃ z, z = pJ σ (ra 105) ((8 * v1) + v3).toNat (gJ σ (ra 105) ((8 * v2) + v3).toNat) := ⟨_, rfl⟩
  have h := h σ43 eσ43
  refine x_last B K.2.1 hH (hS.ar (k := 105) (kd := 101) (n := 64000) (by decide)) (by decide) q6 dX16_seal_168 (fun H locs hH => ?_)
  have hH : Hd D cA A s (pJ σ (ra 105) ((8 * v1) + v3).toNat (gJ σ (ra 105) ((8 * v2) + v3).toNat)) H locs := hH
  rw [← eσ43] at hH
  have hGσ43 : RG σ43 := by rw [eσ43]; exact hGσ.pJ
  have hS : Shp dm ra jx rm σ43 := by rw [eσ43]; exact hS
  have hc : CB n0 s0 σ43 := by rw [eσ43]; exact hc
  rw [show gc σ = gc σ43 by rw [eσ43], show gs σ = gs σ43 by rw [eσ43]]
  obtain ⟨q8, h⟩ := h
  refine lv_iinc (k := 3) (v := i32 (v3 + 1)) (lv' := [(3, .int (i32 (v3 + 1))), (0, .ref rm), (1, .int (i32 v1)), (2, .int (i32 v2))]) B.1 B.2.1 dX16_seal_169 hl rfl (i32_add _ _) (by decide) rfl (fun ls hl => ?_)
  refine lv_goto (tgt := 141) B.1 B.2.1 dX16_seal_172 (by decide) ?_
  exact hK141 _ _ _ _ g1 g2 q8 h hGσ43 hS _ _ _ hH (lv_sub (l' := [(0, .ref rm), (1, .int (i32 v1)), (2, .int (i32 v2)), (3, .int (i32 (v3 + 1)))]) hl [1, 2, 3, 0] rfl) hc
set_option maxRecDepth 20000 in
theorem a_X16_seal_141 {Q : Sg → Unit → Prop} {X : Sg → String → Prop} (K : MC R p s m args c cX16_seal 4 RX16 D cA tys A n0 s0 2 57 []) (hQ : HQV p l e R s m args below meth c cX16_seal D cA A n0 s0 QM dm ra jx rm Q) (hX : HX p l e R s m args below meth c 4 D cA A n0 s0 QM dm ra jx rm X) {K39 : Sg → Int → Prop} (hK39 : ∀ (σ : Sg) (v1 : Int) (g1 : rng v1), K39 σ v1 → RG σ → Shp dm ra jx rm σ → JJ p l e R s m args below meth c 4 D cA A n0 s0 QM σ 39 [(0, .ref rm), (1, .int (i32 v1))] []) {K141 : Sg → Int → Int → Int → Prop} (hK141 : ∀ (σ : Sg) (v1 : Int) (v2 : Int) (v3 : Int) (g1 : rng v1) (g2 : rng v2) (g3 : rng v3), K141 σ v1 v2 v3 → RG σ → Shp dm ra jx rm σ → JJ p l e R s m args below meth c 4 D cA A n0 s0 QM σ 141 [(0, .ref rm), (1, .int (i32 v1)), (2, .int (i32 v2)), (3, .int (i32 v3))] []) : ∀ (σ : Sg) (v1 : Int) (v2 : Int) (v3 : Int) (g1 : rng v1) (g2 : rng v2) (g3 : rng v3), w_X16_seal_141 ra jx rm K39 K141 Q X σ v1 v2 v3 → RG σ → Shp dm ra jx rm σ → JJ p l e R s m args below meth c 4 D cA A n0 s0 QM σ 141 [(0, .ref rm), (1, .int (i32 v1)), (2, .int (i32 v2)), (3, .int (i32 v3))] [] := by
  intro σ v1 v2 v3 g1 g2 g3 h hGσ hS H locs ls hH hl hc
  have B := K.1
  unfold w_X16_seal_141 at h
  refine lv_iload_n B.1 B.2.1 dX16_seal_141 rfl (lv_at hl 3 rfl) ?_
  refine lv_bipush (v := i32 8) B.1 B.2.1 dX16_seal_142 (by decide) ?_
  refine lv_icmp_ge (tgt := 175) B.1 B.2.1 dX16_seal_144 (by decide) (fun h9 => ?_) (fun h9 => ?_)
  · rw [if_pos ((i32_le (by unfold rng; omega) g3).mp h9)] at h
    exact a_X16_seal_175 K hQ hX hK39 _ _ g1 h hGσ hS _ _ _ hH (lv_sub (l' := [(0, .ref rm), (1, .int (i32 v1))]) hl [0, 1] rfl) hc
  · rw [if_neg (fun q => h9 ((i32_le (by unfold rng; omega) g3).mpr q))] at h
    exact a_X16_seal_147 K hQ hX hK39 hK141 _ _ _ _ g1 g2 g3 h hGσ hS _ _ _ hH (lv_sub (l' := [(0, .ref rm), (1, .int (i32 v1)), (2, .int (i32 v2)), (3, .int (i32 v3))]) hl [0, 1, 2, 3] rfl) hc
theorem al_X16_seal_141 {Q : Sg → Unit → Prop} {X : Sg → String → Prop} (K : MC R p s m args c cX16_seal 4 RX16 D cA tys A n0 s0 2 57 []) (hQ : HQV p l e R s m args below meth c cX16_seal D cA A n0 s0 QM dm ra jx rm Q) (hX : HX p l e R s m args below meth c 4 D cA A n0 s0 QM dm ra jx rm X) {K39 : Sg → Int → Prop} (hK39 : ∀ (σ : Sg) (v1 : Int) (g1 : rng v1), K39 σ v1 → RG σ → Shp dm ra jx rm σ → JJ p l e R s m args below meth c 4 D cA A n0 s0 QM σ 39 [(0, .ref rm), (1, .int (i32 v1))] []) : ∀ (n : Nat), ∀ (σ : Sg) (v1 : Int) (v2 : Int) (v3 : Int) (g1 : rng v1) (g2 : rng v2) (g3 : rng v3), wl_X16_seal_141 ra jx rm K39 Q X n σ v1 v2 v3 → RG σ → Shp dm ra jx rm σ → JJ p l e R s m args below meth c 4 D cA A n0 s0 QM σ 141 [(0, .ref rm), (1, .int (i32 v1)), (2, .int (i32 v2)), (3, .int (i32 v3))] [] := by
  intro n
  induction n with
  | zero => intro σ v1 v2 v3 g1 g2 g3 h; exact h.elim
  | succ n ih => exact fun σ v1 v2 v3 g1 g2 g3 h => a_X16_seal_141 K hQ hX hK39 ih σ v1 v2 v3 g1 g2 g3 h
set_option maxRecDepth 20000 in
theorem a_X16_seal_49 {Q : Sg → Unit → Prop} {X : Sg → String → Prop} (K : MC R p s m args c cX16_seal 4 RX16 D cA tys A n0 s0 2 57 []) (hQ : HQV p l e R s m args below meth c cX16_seal D cA A n0 s0 QM dm ra jx rm Q) (hX : HX p l e R s m args below meth c 4 D cA A n0 s0 QM dm ra jx rm X) {K39 : Sg → Int → Prop} (hK39 : ∀ (σ : Sg) (v1 : Int) (g1 : rng v1), K39 σ v1 → RG σ → Shp dm ra jx rm σ → JJ p l e R s m args below meth c 4 D cA A n0 s0 QM σ 39 [(0, .ref rm), (1, .int (i32 v1))] []) : ∀ (σ : Sg) (v1 : Int) (g1 : rng v1), w_X16_seal_49 ra jx rm K39 Q X σ v1 → RG σ → Shp dm ra jx rm σ → JJ p l e R s m args below meth c 4 D cA A n0 s0 QM σ 49 [(0, .ref rm), (1, .int (i32 v1))] [] := by
  intro σ v1 g1 h hGσ hS H locs ls hH hl hc
  have B := K.1
  unfold w_X16_seal_49 at h
  refine lv_sipush (v := i32 4000) B.1 B.2.1 dX16_seal_49 (by decide) ?_
  refine lv_iload_n B.1 B.2.1 dX16_seal_52 rfl (lv_at hl 1 rfl) ?_
  obtain ⟨q1, h⟩ := h
  refine lv_iadd B.1 B.2.1 dX16_seal_53 ?_
  rw [i32_add]
  refine lv_istore_n (lv' := [(2, .int (i32 (4000 + v1))), (0, .ref rm), (1, .int (i32 v1))]) B.1 B.2.1 dX16_seal_54 rfl hl (by decide) rfl (fun ls hl => ?_)
  refine lv_aload_n B.1 B.2.1 dX16_seal_55 rfl (lv_at hl 1 rfl) ?_
  refine r_arr B hH hS 99 (kd := 100) (n := 8000) (by decide) (by decide) wf_X16_706 rfl rfl dX16_seal_56 ?_
  refine lv_iload_n B.1 B.2.1 dX16_seal_59 rfl (lv_at hl 2 rfl) ?_
  refine lv_aload_n B.1 B.2.1 dX16_seal_60 rfl (lv_at hl 1 rfl) ?_
  refine r_arr B hH hS 99 (kd := 100) (n := 8000) (by decide) (by decide) wf_X16_706 rfl rfl dX16_seal_61 ?_
  refine lv_iload_n B.1 B.2.1 dX16_seal_64 rfl (lv_at hl 0 rfl) ?_
  obtain ⟨q2, h⟩ := h
  refine x_iald B K.2.1 hH (hS.ar (k := 99) (kd := 100) (n := 8000) (by decide)) (by decide) q2 dX16_seal_65 ?_
  obtain ⟨q3, h⟩ := h
  obtain ⟨σ44, eσ44⟩ : ∃ z, z = pI σ (ra 99) v1.toNat (gI σ (ra 99) (4000 + v1).toNat) := ⟨_, rfl⟩
  have h := h σ44 eσ44
  refine x_iast B K.2.1 hH (hS.ar (k := 99) (kd := 100) (n := 8000) (by decide)) (by decide) q3 dX16_seal_66 (fun H locs hH => ?_)
  have hH : Hd D cA A s (pI σ (ra 99) v1.toNat (gI σ (ra 99) (4000 + v1).toNat)) H locs := hH
  rw [← eσ44] at hH
  have hGσ44 : RG σ44 := by rw [eσ44]; exact hGσ.pI (hGσ _ _)
  have hS : Shp dm ra jx rm σ44 := by rw [eσ44]; exact hS
  have hc : CB n0 s0 σ44 := by rw [eσ44]; exact hc
  rw [show gc σ = gc σ44 by rw [eσ44], show gs σ = gs σ44 by rw [eσ44]]
  refine lv_aload_n B.1 B.2.1 dX16_seal_67 rfl (lv_at hl 1 rfl) ?_
  refine r_arr B hH hS 100 (kd := 100) (n := 8000) (by decide) (by decide) wf_X16_709 rfl rfl dX16_seal_68 ?_
  refine lv_iload_n B.1 B.2.1 dX16_seal_71 rfl (lv_at hl 2 rfl) ?_
  refine lv_aload_n B.1 B.2.1 dX16_seal_72 rfl (lv_at hl 1 rfl) ?_
  refine r_arr B hH hS 100 (kd := 100) (n := 8000) (by decide) (by decide) wf_X16_709 rfl rfl dX16_seal_73 ?_
  refine lv_iload_n B.1 B.2.1 dX16_seal_76 rfl (lv_at hl 0 rfl) ?_
  obtain ⟨q5, h⟩ := h
  refine x_iald B K.2.1 hH (hS.ar (k := 100) (kd := 100) (n := 8000) (by decide)) (by decide) q5 dX16_seal_77 ?_
  obtain ⟨q6, h⟩ := h
  obtain ⟨σ45, eσ45⟩ : ∃ z, z = pI σ44 (ra 100) v1.toNat (gI σ44 (ra 100) (4000 + v1).toNat) := ⟨_, rfl⟩
  have h := h σ45 eσ45
  refine x_iast B K.2.1 hH (hS.ar (k := 100) (kd := 100) (n := 8000) (by decide)) (by decide) q6 dX16_seal_78 (fun H locs hH => ?_)
  have hH : Hd D cA A s (pI σ44 (ra 100) v1.toNat (gI σ44 (ra 100) (4000 + v1).toNat)) H locs := hH
  rw [← eσ45] at hH
  have hGσ45 : RG σ45 := by rw [eσ45]; exact hGσ44.pI (hGσ44 _ _)
  have hS : Shp dm ra jx rm σ45 := by rw [eσ45]; exact hS
  have hc : CB n0 s0 σ45 := by rw [eσ45]; exact hc
  rw [show gc σ44 = gc σ45 by rw [eσ45], show gs σ44 = gs σ45 by rw [eσ45]]
  refine lv_aload_n B.1 B.2.1 dX16_seal_79 rfl (lv_at hl 1 rfl) ?_
  refine r_arr B hH hS 101 (kd := 100) (n := 8000) (by decide) (by decide) wf_X16_712 rfl rfl dX16_seal_80 ?_
  refine lv_iload_n B.1 B.2.1 dX16_seal_83 rfl (lv_at hl 2 rfl) ?_
  refine lv_aload_n B.1 B.2.1 dX16_seal_84 rfl (lv_at hl 1 rfl) ?_
  refine r_arr B hH hS 101 (kd := 100) (n := 8000) (by decide) (by decide) wf_X16_712 rfl rfl dX16_seal_85 ?_
  refine lv_iload_n B.1 B.2.1 dX16_seal_88 rfl (lv_at hl 0 rfl) ?_
  obtain ⟨q8, h⟩ := h
  refine x_iald B K.2.1 hH (hS.ar (k := 101) (kd := 100) (n := 8000) (by decide)) (by decide) q8 dX16_seal_89 ?_
  obtain ⟨q9, h⟩ := h
  obtain ⟨σ46, eσ46⟩ : ∃ z, z = pI σ45 (ra 101) v1.toNat (gI σ45 (ra 101) (4000 + v1).toNat) := ⟨_, rfl⟩
  have h := h σ46 eσ46
  refine x_iast B K.2.1 hH (hS.ar (k := 101) (kd := 100) (n := 8000) (by decide)) (by decide) q9 dX16_seal_90 (fun H locs hH => ?_)
  have hH : Hd D cA A s (pI σ45 (ra 101) v1.toNat (gI σ45 (ra 101) (4000 + v1).toNat)) H locs := hH
  rw [← eσ46] at hH
  have hGσ46 : RG σ46 := by rw [eσ46]; exact hGσ45.pI (hGσ45 _ _)
  have hS : Shp dm ra jx rm σ46 := by rw [eσ46]; exact hS
  have hc : CB n0 s0 σ46 := by rw [eσ46]; exact hc
  rw [show gc σ45 = gc σ46 by rw [eσ46], show gs σ45 = gs σ46 by rw [eσ46]]
  refine lv_aload_n B.1 B.2.1 dX16_seal_91 rfl (lv_at hl 1 rfl) ?_
  refine r_arr B hH hS 102 (kd := 101) (n := 8000) (by decide) (by decide) wf_X16_715 rfl rfl dX16_seal_92 ?_
  refine lv_iload_n B.1 B.2.1 dX16_seal_95 rfl (lv_at hl 2 rfl) ?_
  refine lv_aload_n B.1 B.2.1 dX16_seal_96 rfl (lv_at hl 1 rfl) ?_
  refine r_arr B hH hS 102 (kd := 101) (n := 8000) (by decide) (by decide) wf_X16_715 rfl rfl dX16_seal_97 ?_
  refine lv_iload_n B.1 B.2.1 dX16_seal_100 rfl (lv_at hl 0 rfl) ?_
  obtain ⟨q11, h⟩ := h
  refine x_lald B K.2.1 hH (hS.ar (k := 102) (kd := 101) (n := 8000) (by decide)) (by decide) q11 dX16_seal_101 ?_
  obtain ⟨q12, h⟩ := h
  obtain ⟨σ47, eσ47⟩ : ∃ z, z = pJ σ46 (ra 102) v1.toNat (gJ σ46 (ra 102) (4000 + v1).toNat) := ⟨_, rfl⟩
  have h := h σ47 eσ47
  refine x_last B K.2.1 hH (hS.ar (k := 102) (kd := 101) (n := 8000) (by decide)) (by decide) q12 dX16_seal_102 (fun H locs hH => ?_)
  have hH : Hd D cA A s (pJ σ46 (ra 102) v1.toNat (gJ σ46 (ra 102) (4000 + v1).toNat)) H locs := hH
  rw [← eσ47] at hH
  have hGσ47 : RG σ47 := by rw [eσ47]; exact hGσ46.pJ
  have hS : Shp dm ra jx rm σ47 := by rw [eσ47]; exact hS
  have hc : CB n0 s0 σ47 := by rw [eσ47]; exact hc
  rw [show gc σ46 = gc σ47 by rw [eσ47], show gs σ46 = gs σ47 by rw [eσ47]]
  refine lv_aload_n B.1 B.2.1 dX16_seal_103 rfl (lv_at hl 1 rfl) ?_
  refine r_arr B hH hS 103 (kd := 101) (n := 8000) (by decide) (by decide) wf_X16_718 rfl rfl dX16_seal_104 ?_
  refine lv_iload_n B.1 B.2.1 dX16_seal_107 rfl (lv_at hl 2 rfl) ?_
  refine lv_aload_n B.1 B.2.1 dX16_seal_108 rfl (lv_at hl 1 rfl) ?_
  refine r_arr B hH hS 103 (kd := 101) (n := 8000) (by decide) (by decide) wf_X16_718 rfl rfl dX16_seal_109 ?_
  refine lv_iload_n B.1 B.2.1 dX16_seal_112 rfl (lv_at hl 0 rfl) ?_
  obtain ⟨q14, h⟩ := h
  refine x_lald B K.2.1 hH (hS.ar (k := 103) (kd := 101) (n := 8000) (by decide)) (by decide) q14 dX16_seal_113 ?_
  obtain ⟨q15, h⟩ := h
  obtain ⟨σ48, eσ48⟩ : ∃ z, z = pJ σ47 (ra 103) v1.toNat (gJ σ47 (ra 103) (4000 + v1).toNat) := ⟨_, rfl⟩
  have h := h σ48 eσ48
  refine x_last B K.2.1 hH (hS.ar (k := 103) (kd := 101) (n := 8000) (by decide)) (by decide) q15 dX16_seal_114 (fun H locs hH => ?_)
  have hH : Hd D cA A s (pJ σ47 (ra 103) v1.toNat (gJ σ47 (ra 103) (4000 + v1).toNat)) H locs := hH
  rw [← eσ48] at hH
  have hGσ48 : RG σ48 := by rw [eσ48]; exact hGσ47.pJ
  have hS : Shp dm ra jx rm σ48 := by rw [eσ48]; exact hS
  have hc : CB n0 s0 σ48 := by rw [eσ48]; exact hc
  rw [show gc σ47 = gc σ48 by rw [eσ48], show gs σ47 = gs σ48 by rw [eσ48]]
  refine lv_aload_n B.1 B.2.1 dX16_seal_115 rfl (lv_at hl 1 rfl) ?_
  refine r_arr B hH hS 104 (kd := 101) (n := 8000) (by decide) (by decide) wf_X16_721 rfl rfl dX16_seal_116 ?_
  refine lv_iload_n B.1 B.2.1 dX16_seal_119 rfl (lv_at hl 2 rfl) ?_
  refine lv_aload_n B.1 B.2.1 dX16_seal_120 rfl (lv_at hl 1 rfl) ?_
  refine r_arr B hH hS 104 (kd := 101) (n := 8000) (by decide) (by decide) wf_X16_721 rfl rfl dX16_seal_121 ?_
  refine lv_iload_n B.1 B.2.1 dX16_seal_124 rfl (lv_at hl 0 rfl) ?_
  obtain ⟨q17, h⟩ := h
  refine x_lald B K.2.1 hH (hS.ar (k := 104) (kd := 101) (n := 8000) (by decide)) (by decide) q17 dX16_seal_125 ?_
  obtain ⟨q18, h⟩ := h
  obtain ⟨σ49, eσ49⟩ : ∃ z, z = pJ σ48 (ra 104) v1.toNat (gJ σ48 (ra 104) (4000 + v1).toNat) := ⟨_, rfl⟩
  have h := h σ49 eσ49
  refine x_last B K.2.1 hH (hS.ar (k := 104) (kd := 101) (n := 8000) (by decide)) (by decide) q18 dX16_seal_126 (fun H locs hH => ?_)
  have hH : Hd D cA A s (pJ σ48 (ra 104) v1.toNat (gJ σ48 (ra 104) (4000 + v1).toNat)) H locs := hH
  rw [← eσ49] at hH
  have hGσ49 : RG σ49 := by rw [eσ49]; exact hGσ48.pJ
  have hS : Shp dm ra jx rm σ49 := by rw [eσ49]; exact hS
  have hc : CB n0 s0 σ49 := by rw [eσ49]; exact hc
  rw [show gc σ48 = gc σ49 by rw [eσ49], show gs σ48 = gs σ49 by rw [eσ49]]
  refine lv_aload_n B.1 B.2.1 dX16_seal_127 rfl (lv_at hl 1 rfl) ?_
  refine r_arr B hH hS 106 (kd := 100) (n := 8000) (by decide) (by decide) wf_X16_724 rfl rfl dX16_seal_128 ?_
  refine lv_iload_n B.1 B.2.1 dX16_seal_131 rfl (lv_at hl 2 rfl) ?_
  refine lv_aload_n B.1 B.2.1 dX16_seal_132 rfl (lv_at hl 1 rfl) ?_
  refine r_arr B hH hS 106 (kd := 100) (n := 8000) (by decide) (by decide) wf_X16_724 rfl rfl dX16_seal_133 ?_
  refine lv_iload_n B.1 B.2.1 dX16_seal_136 rfl (lv_at hl 0 rfl) ?_
  obtain ⟨q20, h⟩ := h
  refine x_iald B K.2.1 hH (hS.ar (k := 106) (kd := 100) (n := 8000) (by decide)) (by decide) q20 dX16_seal_137 ?_
  obtain ⟨q21, h⟩ := h
  obtain ⟨σ50, eσ50⟩ : ∃ z, z = pI σ49 (ra 106) v1.toNat (gI σ49 (ra 106) (4000 + v1).toNat) := ⟨_, rfl⟩
  have h := h σ50 eσ50
  refine x_iast B K.2.1 hH (hS.ar (k := 106) (kd := 100) (n := 8000) (by decide)) (by decide) q21 dX16_seal_138 (fun H locs hH => ?_)
  have hH : Hd D cA A s (pI σ49 (ra 106) v1.toNat (gI σ49 (ra 106) (4000 + v1).toNat)) H locs := hH
  rw [← eσ50] at hH
  have hGσ50 : RG σ50 := by rw [eσ50]; exact hGσ49.pI (hGσ49 _ _)
  have hS : Shp dm ra jx rm σ50 := by rw [eσ50]; exact hS
  have hc : CB n0 s0 σ50 := by rw [eσ50]; exact hc
  rw [show gc σ49 = gc σ50 by rw [eσ50], show gs σ49 = gs σ50 by rw [eσ50]]
  refine lv_iconst (v := i32 0) B.1 B.2.1 dX16_seal_139 (by decide) ?_
  refine lv_istore_n (lv' := [(3, .int (i32 0)), (2, .int (i32 (4000 + v1))), (0, .ref rm), (1, .int (i32 v1))]) B.1 B.2.1 dX16_seal_140 rfl hl (by decide) rfl (fun ls hl => ?_)
  obtain ⟨n9, h⟩ := h
  exact al_X16_seal_141 K hQ hX hK39 n9 _ _ _ _ g1 q1 (by unfold rng; omega) h hGσ50 hS _ _ _ hH (lv_sub (l' := [(0, .ref rm), (1, .int (i32 v1)), (2, .int (i32 (4000 + v1))), (3, .int (i32 0))]) hl [2, 3, 1, 0] rfl) hc
set_option maxRecDepth 20000 in
theorem a_X16_seal_39 {Q : Sg → Unit → Prop} {X : Sg → String → Prop} (K : MC R p s m args c cX16_seal 4 RX16 D cA tys A n0 s0 2 57 []) (hQ : HQV p l e R s m args below meth c cX16_seal D cA A n0 s0 QM dm ra jx rm Q) (hX : HX p l e R s m args below meth c 4 D cA A n0 s0 QM dm ra jx rm X) {K39 : Sg → Int → Prop} (hK39 : ∀ (σ : Sg) (v1 : Int) (g1 : rng v1), K39 σ v1 → RG σ → Shp dm ra jx rm σ → JJ p l e R s m args below meth c 4 D cA A n0 s0 QM σ 39 [(0, .ref rm), (1, .int (i32 v1))] []) : ∀ (σ : Sg) (v1 : Int) (g1 : rng v1), w_X16_seal_39 ra jx rm K39 Q X σ v1 → RG σ → Shp dm ra jx rm σ → JJ p l e R s m args below meth c 4 D cA A n0 s0 QM σ 39 [(0, .ref rm), (1, .int (i32 v1))] [] := by
  intro σ v1 g1 h hGσ hS H locs ls hH hl hc
  have B := K.1
  unfold w_X16_seal_39 at h
  refine lv_iload_n B.1 B.2.1 dX16_seal_39 rfl (lv_at hl 1 rfl) ?_
  refine lv_aload_n B.1 B.2.1 dX16_seal_40 rfl (lv_at hl 0 rfl) ?_
  refine r_arr B hH hS 98 (kd := 100) (n := 2) (by decide) (by decide) wf_X16_703 rfl rfl dX16_seal_41 ?_
  refine lv_iconst (v := i32 0) B.1 B.2.1 dX16_seal_44 (by decide) ?_
  refine x_iald B K.2.1 hH (hS.ar (k := 98) (kd := 100) (n := 2) (by decide)) (by decide) (by decide) dX16_seal_45 ?_
  refine W.eq (g2 := F0 m 46 ls [.int (i32 (gI σ (ra 98) 0)), .int (i32 v1)]) (rfl) ?_
  refine lv_icmp_ge (tgt := 181) B.1 B.2.1 dX16_seal_46 (by decide) (fun h9 => ?_) (fun h9 => ?_)
  · rw [if_pos ((i32_le (hGσ _ _) g1).mp h9)] at h
    exact a_X16_seal_181 K hQ hX _ h hGσ hS _ _ _ hH (lv_sub (l' := [(0, .ref rm)]) hl [0] rfl) hc
  · rw [if_neg (fun q => h9 ((i32_le (hGσ _ _) g1).mpr q))] at h
    exact a_X16_seal_49 K hQ hX hK39 _ _ g1 h hGσ hS _ _ _ hH (lv_sub (l' := [(0, .ref rm), (1, .int (i32 v1))]) hl [0, 1] rfl) hc
theorem al_X16_seal_39 {Q : Sg → Unit → Prop} {X : Sg → String → Prop} (K : MC R p s m args c cX16_seal 4 RX16 D cA tys A n0 s0 2 57 []) (hQ : HQV p l e R s m args below meth c cX16_seal D cA A n0 s0 QM dm ra jx rm Q) (hX : HX p l e R s m args below meth c 4 D cA A n0 s0 QM dm ra jx rm X) : ∀ (n : Nat), ∀ (σ : Sg) (v1 : Int) (g1 : rng v1), wl_X16_seal_39 ra jx rm Q X n σ v1 → RG σ → Shp dm ra jx rm σ → JJ p l e R s m args below meth c 4 D cA A n0 s0 QM σ 39 [(0, .ref rm), (1, .int (i32 v1))] [] := by
  intro n
  induction n with
  | zero => intro σ v1 g1 h; exact h.elim
  | succ n ih => exact fun σ v1 g1 h => a_X16_seal_39 K hQ hX ih σ v1 g1 h
set_option maxRecDepth 20000 in
theorem a_X16_seal_0 {Q : Sg → Unit → Prop} {X : Sg → String → Prop} (K : MC R p s m args c cX16_seal 4 RX16 D cA tys A n0 s0 2 57 []) (hQ : HQV p l e R s m args below meth c cX16_seal D cA A n0 s0 QM dm ra jx rm Q) (hX : HX p l e R s m args below meth c 4 D cA A n0 s0 QM dm ra jx rm X) : ∀ (σ : Sg), w_X16_seal_0 ra jx rm Q X σ → RG σ → Shp dm ra jx rm σ → JJ p l e R s m args below meth c 4 D cA A n0 s0 QM σ 0 [(0, .ref rm)] [] := by
  intro σ h hGσ hS H locs ls hH hl hc
  have B := K.1
  unfold w_X16_seal_0 at h
  refine lv_aload_n B.1 B.2.1 dX16_seal_0 rfl (lv_at hl 0 rfl) ?_
  refine lv_aload_n B.1 B.2.1 dX16_seal_1 rfl (lv_at hl 0 rfl) ?_
  refine r_geti B hH hS 93 (by decide) wf_X16_742 rfl rfl dX16_seal_2 ?_
  obtain ⟨σ51, eσ51⟩ : ∃ z, z = pI σ rm 92 (gI σ rm 93) := ⟨_, rfl⟩
  have h := h σ51 eσ51
  refine r_puti B hH hS 92 (ty := .int) (by decide) wf_X16_745 rfl rfl rfl rfl rfl rfl dX16_seal_5 (fun H locs hH => ?_)
  have hH : Hd D cA A s (pI σ rm 92 (gI σ rm 93)) H locs := hH
  rw [← eσ51] at hH
  have hGσ51 : RG σ51 := by rw [eσ51]; exact hGσ.pI (hGσ _ _)
  have hS : Shp dm ra jx rm σ51 := by rw [eσ51]; exact hS
  have hc : CB n0 s0 σ51 := by rw [eσ51]; exact hc
  rw [show gc σ = gc σ51 by rw [eσ51], show gs σ = gs σ51 by rw [eσ51]]
  refine lv_aload_n B.1 B.2.1 dX16_seal_8 rfl (lv_at hl 0 rfl) ?_
  refine lv_iconst (v := i32 0) B.1 B.2.1 dX16_seal_9 (by decide) ?_
  obtain ⟨σ52, eσ52⟩ : ∃ z, z = pI σ51 rm 93 0 := ⟨_, rfl⟩
  have h := h σ52 eσ52
  refine r_puti B hH hS 93 (ty := .int) (by decide) wf_X16_742 rfl rfl rfl rfl rfl rfl dX16_seal_10 (fun H locs hH => ?_)
  have hH : Hd D cA A s (pI σ51 rm 93 0) H locs := hH
  rw [← eσ52] at hH
  have hGσ52 : RG σ52 := by rw [eσ52]; exact hGσ51.pI (by unfold rng; omega)
  have hS : Shp dm ra jx rm σ52 := by rw [eσ52]; exact hS
  have hc : CB n0 s0 σ52 := by rw [eσ52]; exact hc
  rw [show gc σ51 = gc σ52 by rw [eσ52], show gs σ51 = gs σ52 by rw [eσ52]]
  refine lv_aload_n B.1 B.2.1 dX16_seal_13 rfl (lv_at hl 0 rfl) ?_
  refine r_arr B hH hS 97 (kd := 100) (n := 2) (by decide) (by decide) wf_X16_748 rfl rfl dX16_seal_14 ?_
  refine lv_iconst (v := i32 0) B.1 B.2.1 dX16_seal_17 (by decide) ?_
  refine lv_aload_n B.1 B.2.1 dX16_seal_18 rfl (lv_at hl 0 rfl) ?_
  refine r_arr B hH hS 97 (kd := 100) (n := 2) (by decide) (by decide) wf_X16_748 rfl rfl dX16_seal_19 ?_
  refine lv_iconst (v := i32 1) B.1 B.2.1 dX16_seal_22 (by decide) ?_
  refine x_iald B K.2.1 hH (hS.ar (k := 97) (kd := 100) (n := 2) (by decide)) (by decide) (by decide) dX16_seal_23 ?_
  refine W.eq (g2 := F0 m 24 ls [.int (i32 (gI σ52 (ra 97) 1)), .int (i32 0), .ref (ra 97)]) (rfl) ?_
  obtain ⟨σ53, eσ53⟩ : ∃ z, z = pI σ52 (ra 97) 0 (gI σ52 (ra 97) 1) := ⟨_, rfl⟩
  have h := h σ53 eσ53
  refine x_iast B K.2.1 hH (hS.ar (k := 97) (kd := 100) (n := 2) (by decide)) (by decide) (by decide) dX16_seal_24 (fun H locs hH => ?_)
  have hH : Hd D cA A s (pI σ52 (ra 97) 0 (gI σ52 (ra 97) 1)) H locs := hH
  rw [← eσ53] at hH
  have hGσ53 : RG σ53 := by rw [eσ53]; exact hGσ52.pI (hGσ52 _ _)
  have hS : Shp dm ra jx rm σ53 := by rw [eσ53]; exact hS
  have hc : CB n0 s0 σ53 := by rw [eσ53]; exact hc
  rw [show gc σ52 = gc σ53 by rw [eσ53], show gs σ52 = gs σ53 by rw [eσ53]]
  refine lv_aload_n B.1 B.2.1 dX16_seal_25 rfl (lv_at hl 0 rfl) ?_
  refine r_arr B hH hS 98 (kd := 100) (n := 2) (by decide) (by decide) wf_X16_703 rfl rfl dX16_seal_26 ?_
  refine lv_iconst (v := i32 0) B.1 B.2.1 dX16_seal_29 (by decide) ?_
  refine lv_aload_n B.1 B.2.1 dX16_seal_30 rfl (lv_at hl 0 rfl) ?_
  refine r_arr B hH hS 98 (kd := 100) (n := 2) (by decide) (by decide) wf_X16_703 rfl rfl dX16_seal_31 ?_
  refine lv_iconst (v := i32 1) B.1 B.2.1 dX16_seal_34 (by decide) ?_
  refine x_iald B K.2.1 hH (hS.ar (k := 98) (kd := 100) (n := 2) (by decide)) (by decide) (by decide) dX16_seal_35 ?_
  refine W.eq (g2 := F0 m 36 ls [.int (i32 (gI σ53 (ra 98) 1)), .int (i32 0), .ref (ra 98)]) (rfl) ?_
  obtain ⟨σ54, eσ54⟩ : ∃ z, z = pI σ53 (ra 98) 0 (gI σ53 (ra 98) 1) := ⟨_, rfl⟩
  have h := h σ54 eσ54
  refine x_iast B K.2.1 hH (hS.ar (k := 98) (kd := 100) (n := 2) (by decide)) (by decide) (by decide) dX16_seal_36 (fun H locs hH => ?_)
  have hH : Hd D cA A s (pI σ53 (ra 98) 0 (gI σ53 (ra 98) 1)) H locs := hH
  rw [← eσ54] at hH
  have hGσ54 : RG σ54 := by rw [eσ54]; exact hGσ53.pI (hGσ53 _ _)
  have hS : Shp dm ra jx rm σ54 := by rw [eσ54]; exact hS
  have hc : CB n0 s0 σ54 := by rw [eσ54]; exact hc
  rw [show gc σ53 = gc σ54 by rw [eσ54], show gs σ53 = gs σ54 by rw [eσ54]]
  refine lv_iconst (v := i32 0) B.1 B.2.1 dX16_seal_37 (by decide) ?_
  refine lv_istore_n (lv' := [(1, .int (i32 0)), (0, .ref rm)]) B.1 B.2.1 dX16_seal_38 rfl hl (by decide) rfl (fun ls hl => ?_)
  obtain ⟨n9, h⟩ := h
  exact al_X16_seal_39 K hQ hX n9 _ _ (by unfold rng; omega) h hGσ54 hS _ _ _ hH (lv_sub (l' := [(0, .ref rm), (1, .int (i32 0))]) hl [1, 0] rfl) hc
theorem ok_X16_seal (hT : Tys cA tys) {Q : Sg → Unit → Prop} {X : Sg → String → Prop} (σ : Sg) (hG : RG σ) (hS : Shp dm ra jx rm σ) (h : wp_X16_seal ra jx rm σ Q X) : Ok l D cA tys A yX16_seal (.code yX16_seal cX16_seal 4 none) 2 57 [.ref rm] σ (QnV dm ra jx rm Q) (QxR dm ra jx rm X) := by
  unfold wp_X16_seal at h
  exact ok_V (plainFor_of_name (by decide)) (by exact Nat.le_of_ble_eq_true rfl) hT (fun p e R s m args below meth c K hQ hX H locs ls hH hl hc => a_X16_seal_0 K hQ hX σ h hG hS H locs ls hH (lv_sub (l' := [(0, .ref rm)]) hl [0] rfl) hc)
theorem dX16_write_0 : decode cX16_write 0 = .ok (.aload_n 0, 1) := by decide +kernel
theorem dX16_write_1 : decode cX16_write 1 = .ok (.getfield 685, 3) := by decide +kernel
theorem dX16_write_4 : decode cX16_write 4 = .ok (.ifCond .ne 13, 3) := by decide +kernel
theorem dX16_write_7 : decode cX16_write 7 = .ok (.aload_n 0, 1) := by decide +kernel
theorem dX16_write_8 : decode cX16_write 8 = .ok (.iconst 1, 1) := by decide +kernel
theorem dX16_write_9 : decode cX16_write 9 = .ok (.putfield 688, 3) := by decide +kernel
theorem dX16_write_12 : decode cX16_write 12 = .ok (.aload_n 0, 1) := by decide +kernel
theorem dX16_write_13 : decode cX16_write 13 = .ok (.getfield 691, 3) := by decide +kernel
theorem dX16_write_16 : decode cX16_write 16 = .ok (.athrow, 1) := by decide +kernel
theorem dX16_write_17 : decode cX16_write 17 = .ok (.aload_n 0, 1) := by decide +kernel
theorem dX16_write_18 : decode cX16_write 18 = .ok (.dup, 1) := by decide +kernel
theorem dX16_write_19 : decode cX16_write 19 = .ok (.getfield 685, 3) := by decide +kernel
theorem dX16_write_22 : decode cX16_write 22 = .ok (.aload_n 0, 1) := by decide +kernel
theorem dX16_write_23 : decode cX16_write 23 = .ok (.getfield 685, 3) := by decide +kernel
theorem dX16_write_26 : decode cX16_write 26 = .ok (.ifCond .le 7, 3) := by decide +kernel
theorem dX16_write_29 : decode cX16_write 29 = .ok (.iconst 1, 1) := by decide +kernel
theorem dX16_write_30 : decode cX16_write 30 = .ok (.goto 4, 3) := by decide +kernel
theorem dX16_write_33 : decode cX16_write 33 = .ok (.iconst 0, 1) := by decide +kernel
theorem dX16_write_34 : decode cX16_write 34 = .ok (.isub, 1) := by decide +kernel
theorem dX16_write_35 : decode cX16_write 35 = .ok (.putfield 685, 3) := by decide +kernel
theorem dX16_write_38 : decode cX16_write 38 = .ok (.return_, 1) := by decide +kernel
set_option maxRecDepth 20000 in
theorem a_X16_write_34 {Q : Sg → Unit → Prop} {X : Sg → String → Prop} (K : MC R p s m args c cX16_write 1 RX16 D cA tys A n0 s0 0 0 []) (hQ : HQV p l e R s m args below meth c cX16_write D cA A n0 s0 QM dm ra jx rm Q) (hX : HX p l e R s m args below meth c 1 D cA A n0 s0 QM dm ra jx rm X) : ∀ (σ : Sg) (u0 : Int) (u1 : Int) (gu0 : rng u0) (gu1 : rng u1), w_X16_write_34 ra jx rm Q X σ u0 u1 → RG σ → Shp dm ra jx rm σ → JJ p l e R s m args below meth c 1 D cA A n0 s0 QM σ 34 [(0, .ref rm)] [.int (i32 u0), .int (i32 u1), .ref rm] := by
  intro σ u0 u1 gu0 gu1 h hGσ hS H locs ls hH hl hc
  have B := K.1
  unfold w_X16_write_34 at h
  obtain ⟨q1, h⟩ := h
  refine lv_isub B.1 B.2.1 dX16_write_34 ?_
  rw [i32_sub]
  obtain ⟨σ5, eσ5⟩ : ∃ z, z = pI σ rm 96 (u1 - u0) := ⟨_, rfl⟩
  have h := h σ5 eσ5
  refine r_puti B hH hS 96 (ty := .int) (by decide) wf_X16_685 rfl rfl rfl rfl rfl rfl dX16_write_35 (fun H locs hH => ?_)
  have hH : Hd D cA A s (pI σ rm 96 (u1 - u0)) H locs := hH
  rw [← eσ5] at hH
  have hGσ5 : RG σ5 := by rw [eσ5]; exact hGσ.pI q1
  have hS : Shp dm ra jx rm σ5 := by rw [eσ5]; exact hS
  have hc : CB n0 s0 σ5 := by rw [eσ5]; exact hc
  rw [show gc σ = gc σ5 by rw [eσ5], show gs σ = gs σ5 by rw [eσ5]]
  exact hQ _ _ _ _ _ dX16_write_38 hH hc h hGσ5 hS
set_option maxRecDepth 20000 in
theorem a_X16_write_33 {Q : Sg → Unit → Prop} {X : Sg → String → Prop} (K : MC R p s m args c cX16_write 1 RX16 D cA tys A n0 s0 0 0 []) (hQ : HQV p l e R s m args below meth c cX16_write D cA A n0 s0 QM dm ra jx rm Q) (hX : HX p l e R s m args below meth c 1 D cA A n0 s0 QM dm ra jx rm X) : ∀ (σ : Sg) (u0 : Int) (gu0 : rng u0), w_X16_write_33 ra jx rm Q X σ u0 → RG σ → Shp dm ra jx rm σ → JJ p l e R s m args below meth c 1 D cA A n0 s0 QM σ 33 [(0, .ref rm)] [.int (i32 u0), .ref rm] := by
  intro σ u0 gu0 h hGσ hS H locs ls hH hl hc
  have B := K.1
  unfold w_X16_write_33 at h
  refine lv_iconst (v := i32 0) B.1 B.2.1 dX16_write_33 (by decide) ?_
  exact a_X16_write_34 K hQ hX _ _ _ (by unfold rng; omega) gu0 h hGσ hS _ _ _ hH (lv_sub (l' := [(0, .ref rm)]) hl [0] rfl) hc
set_option maxRecDepth 20000 in
theorem a_X16_write_29 {Q : Sg → Unit → Prop} {X : Sg → String → Prop} (K : MC R p s m args c cX16_write 1 RX16 D cA tys A n0 s0 0 0 []) (hQ : HQV p l e R s m args below meth c cX16_write D cA A n0 s0 QM dm ra jx rm Q) (hX : HX p l e R s m args below meth c 1 D cA A n0 s0 QM dm ra jx rm X) : ∀ (σ : Sg) (u0 : Int) (gu0 : rng u0), w_X16_write_29 ra jx rm Q X σ u0 → RG σ → Shp dm ra jx rm σ → JJ p l e R s m args below meth c 1 D cA A n0 s0 QM σ 29 [(0, .ref rm)] [.int (i32 u0), .ref rm] := by
  intro σ u0 gu0 h hGσ hS H locs ls hH hl hc
  have B := K.1
  unfold w_X16_write_29 at h
  refine lv_iconst (v := i32 1) B.1 B.2.1 dX16_write_29 (by decide) ?_
  refine lv_goto (tgt := 34) B.1 B.2.1 dX16_write_30 (by decide) ?_
  exact a_X16_write_34 K hQ hX _ _ _ (by unfold rng; omega) gu0 h hGσ hS _ _ _ hH (lv_sub (l' := [(0, .ref rm)]) hl [0] rfl) hc
set_option maxRecDepth 20000 in
theorem a_X16_write_17 {Q : Sg → Unit → Prop} {X : Sg → String → Prop} (K : MC R p s m args c cX16_write 1 RX16 D cA tys A n0 s0 0 0 []) (hQ : HQV p l e R s m args below meth c cX16_write D cA A n0 s0 QM dm ra jx rm Q) (hX : HX p l e R s m args below meth c 1 D cA A n0 s0 QM dm ra jx rm X) : ∀ (σ : Sg), w_X16_write_17 ra jx rm Q X σ → RG σ → Shp dm ra jx rm σ → JJ p l e R s m args below meth c 1 D cA A n0 s0 QM σ 17 [(0, .ref rm)] [] := by
  intro σ h hGσ hS H locs ls hH hl hc
  have B := K.1
  unfold w_X16_write_17 at h
  refine lv_aload_n B.1 B.2.1 dX16_write_17 rfl (lv_at hl 0 rfl) ?_
  refine lv_dup B.1 B.2.1 dX16_write_18 rfl ?_
  refine r_geti B hH hS 96 (by decide) wf_X16_685 rfl rfl dX16_write_19 ?_
  refine lv_aload_n B.1 B.2.1 dX16_write_22 rfl (lv_at hl 0 rfl) ?_
  refine r_geti B hH hS 96 (by decide) wf_X16_685 rfl rfl dX16_write_23 ?_
  refine lv_if_le (tgt := 33) B.1 B.2.1 dX16_write_26 (by decide) (fun h9 => ?_) (fun h9 => ?_)
  · rw [if_pos ((z_le (hGσ _ _)).mp h9)] at h
    exact a_X16_write_33 K hQ hX _ _ (hGσ _ _) h hGσ hS _ _ _ hH (lv_sub (l' := [(0, .ref rm)]) hl [0] rfl) hc
  · rw [if_neg (fun q => h9 ((z_le (hGσ _ _)).mpr q))] at h
    exact a_X16_write_29 K hQ hX _ _ (hGσ _ _) h hGσ hS _ _ _ hH (lv_sub (l' := [(0, .ref rm)]) hl [0] rfl) hc
set_option maxRecDepth 20000 in
theorem a_X16_write_7 {Q : Sg → Unit → Prop} {X : Sg → String → Prop} (K : MC R p s m args c cX16_write 1 RX16 D cA tys A n0 s0 0 0 []) (hQ : HQV p l e R s m args below meth c cX16_write D cA A n0 s0 QM dm ra jx rm Q) (hX : HX p l e R s m args below meth c 1 D cA A n0 s0 QM dm ra jx rm X) : ∀ (σ : Sg), w_X16_write_7 ra jx rm Q X σ → RG σ → Shp dm ra jx rm σ → JJ p l e R s m args below meth c 1 D cA A n0 s0 QM σ 7 [(0, .ref rm)] [] := by
  intro σ h hGσ hS H locs ls hH hl hc
  have B := K.1
  unfold w_X16_write_7 at h
  refine lv_aload_n B.1 B.2.1 dX16_write_7 rfl (lv_at hl 0 rfl) ?_
  refine lv_iconst (v := i32 1) B.1 B.2.1 dX16_write_8 (by decide) ?_
  obtain ⟨σ6, eσ6⟩ : ∃ z, z = pI σ rm 32 1 := ⟨_, rfl⟩
  have h := h σ6 eσ6
  refine r_puti B hH hS 32 (ty := .boolean) (by decide) wf_X16_688 rfl rfl rfl rfl rfl rfl dX16_write_9 (fun H locs hH => ?_)
  have hH : Hd D cA A s (pI σ rm 32 1) H locs := hH
  rw [← eσ6] at hH
  have hGσ6 : RG σ6 := by rw [eσ6]; exact hGσ.pI (by unfold rng; omega)
  have hS : Shp dm ra jx rm σ6 := by rw [eσ6]; exact hS
  have hc : CB n0 s0 σ6 := by rw [eσ6]; exact hc
  rw [show gc σ = gc σ6 by rw [eσ6], show gs σ = gs σ6 by rw [eσ6]]
  refine lv_aload_n B.1 B.2.1 dX16_write_12 rfl (lv_at hl 0 rfl) ?_
  refine r_obj B hH hS 29 (ci := 13) (by decide) (by decide) wf_X16_691 rfl rfl dX16_write_13 ?_
  refine W.eq (g2 := F0 m 16 ls [va_rf (some (ra 29))]) (rfl) ?_
  obtain ⟨qt, h⟩ := h
  rcases qt with qt | qt
  · refine W.eq (g2 := F0 m 16 ls [.ref (ra 28)]) (by rw [qt]; rfl) ?_
    have hx9 := And.intro h (And.intro hGσ6 hS)
    refine h_athrow B hH hl hc (ci := 13) (hS.ob (k := 28) (ci := 13) (by decide)).1 (hS.ob (k := 28) (ci := 13) (by decide)).2 (by decide) rfl dX16_write_16 ?_
    exact hX σ6 _ _ _ _ (tb_out K.2.2.2.2.2 rfl) hx9.1 hx9.2.1 hx9.2.2
  · refine W.eq (g2 := F0 m 16 ls [.ref (ra 29)]) (by rw [qt]; rfl) ?_
    have hx9 := And.intro h (And.intro hGσ6 hS)
    refine h_athrow B hH hl hc (ci := 13) (hS.ob (k := 29) (ci := 13) (by decide)).1 (hS.ob (k := 29) (ci := 13) (by decide)).2 (by decide) rfl dX16_write_16 ?_
    exact hX σ6 _ _ _ _ (tb_out K.2.2.2.2.2 rfl) hx9.1 hx9.2.1 hx9.2.2
set_option maxRecDepth 20000 in
theorem a_X16_write_0 {Q : Sg → Unit → Prop} {X : Sg → String → Prop} (K : MC R p s m args c cX16_write 1 RX16 D cA tys A n0 s0 0 0 []) (hQ : HQV p l e R s m args below meth c cX16_write D cA A n0 s0 QM dm ra jx rm Q) (hX : HX p l e R s m args below meth c 1 D cA A n0 s0 QM dm ra jx rm X) : ∀ (σ : Sg), w_X16_write_0 ra jx rm Q X σ → RG σ → Shp dm ra jx rm σ → JJ p l e R s m args below meth c 1 D cA A n0 s0 QM σ 0 [(0, .ref rm)] [] := by
  intro σ h hGσ hS H locs ls hH hl hc
  have B := K.1
  unfold w_X16_write_0 at h
  refine lv_aload_n B.1 B.2.1 dX16_write_0 rfl (lv_at hl 0 rfl) ?_
  refine r_geti B hH hS 96 (by decide) wf_X16_685 rfl rfl dX16_write_1 ?_
  refine lv_if_ne (tgt := 17) B.1 B.2.1 dX16_write_4 (by decide) (fun h9 => ?_) (fun h9 => ?_)
  · rw [if_pos (fun q => h9 ((z_eq (hGσ _ _)).mpr q))] at h
    exact a_X16_write_17 K hQ hX _ h hGσ hS _ _ _ hH (lv_sub (l' := [(0, .ref rm)]) hl [0] rfl) hc
  · rw [if_neg (fun q => q ((z_eq (hGσ _ _)).mp h9))] at h
    exact a_X16_write_7 K hQ hX _ h hGσ hS _ _ _ hH (lv_sub (l' := [(0, .ref rm)]) hl [0] rfl) hc
theorem ok_X16_write (hT : Tys cA tys) {Q : Sg → Unit → Prop} {X : Sg → String → Prop} (σ : Sg) (hG : RG σ) (hS : Shp dm ra jx rm σ) (h : wp_X16_write ra jx rm σ Q X) : Ok l D cA tys A yX16_write (.code yX16_write cX16_write 1 none) 0 0 [.ref rm] σ (QnV dm ra jx rm Q) (QxR dm ra jx rm X) := by
  unfold wp_X16_write at h
  exact ok_V (plainFor_of_name (by decide)) (by exact Nat.le_of_ble_eq_true rfl) hT (fun p e R s m args below meth c K hQ hX H locs ls hH hl hc => a_X16_write_0 K hQ hX σ h hG hS H locs ls hH (lv_sub (l' := [(0, .ref rm)]) hl [0] rfl) hc)
theorem dX16_part_0 : decode cX16_part 0 = .ok (.aload_n 0, 1) := by decide +kernel
theorem dX16_part_1 : decode cX16_part 1 = .ok (.getfield 703, 3) := by decide +kernel
theorem dX16_part_4 : decode cX16_part 4 = .ok (.iconst 1, 1) := by decide +kernel
theorem dX16_part_5 : decode cX16_part 5 = .ok (.iaload, 1) := by decide +kernel
theorem dX16_part_6 : decode cX16_part 6 = .ok (.aload_n 0, 1) := by decide +kernel
theorem dX16_part_7 : decode cX16_part 7 = .ok (.getfield 510, 3) := by decide +kernel
theorem dX16_part_10 : decode cX16_part 10 = .ok (.iload_n 1, 1) := by decide +kernel
theorem dX16_part_11 : decode cX16_part 11 = .ok (.iaload, 1) := by decide +kernel
theorem dX16_part_12 : decode cX16_part 12 = .ok (.iadd, 1) := by decide +kernel
theorem dX16_part_13 : decode cX16_part 13 = .ok (.sipush 4000, 3) := by decide +kernel
theorem dX16_part_16 : decode cX16_part 16 = .ok (.if_icmp .le 8, 3) := by decide +kernel
theorem dX16_part_19 : decode cX16_part 19 = .ok (.aload_n 0, 1) := by decide +kernel
theorem dX16_part_20 : decode cX16_part 20 = .ok (.getfield 346, 3) := by decide +kernel
theorem dX16_part_23 : decode cX16_part 23 = .ok (.athrow, 1) := by decide +kernel
theorem dX16_part_24 : decode cX16_part 24 = .ok (.aload_n 0, 1) := by decide +kernel
theorem dX16_part_25 : decode cX16_part 25 = .ok (.invokevirtual 730, 3) := by decide +kernel
theorem dX16_part_28 : decode cX16_part 28 = .ok (.aload_n 0, 1) := by decide +kernel
theorem dX16_part_29 : decode cX16_part 29 = .ok (.iload_n 1, 1) := by decide +kernel
theorem dX16_part_30 : decode cX16_part 30 = .ok (.invokevirtual 733, 3) := by decide +kernel
theorem dX16_part_33 : decode cX16_part 33 = .ok (.aload_n 0, 1) := by decide +kernel
theorem dX16_part_34 : decode cX16_part 34 = .ok (.getfield 380, 3) := by decide +kernel
theorem dX16_part_37 : decode cX16_part 37 = .ok (.iload_n 1, 1) := by decide +kernel
theorem dX16_part_38 : decode cX16_part 38 = .ok (.iaload, 1) := by decide +kernel
theorem dX16_part_39 : decode cX16_part 39 = .ok (.istore_n 2, 1) := by decide +kernel
theorem dX16_part_40 : decode cX16_part 40 = .ok (.aload_n 0, 1) := by decide +kernel
theorem dX16_part_41 : decode cX16_part 41 = .ok (.getfield 356, 3) := by decide +kernel
theorem dX16_part_44 : decode cX16_part 44 = .ok (.getfield 246, 3) := by decide +kernel
theorem dX16_part_47 : decode cX16_part 47 = .ok (.iload_n 2, 1) := by decide +kernel
theorem dX16_part_48 : decode cX16_part 48 = .ok (.iaload, 1) := by decide +kernel
theorem dX16_part_49 : decode cX16_part 49 = .ok (.bipush 11, 2) := by decide +kernel
theorem dX16_part_51 : decode cX16_part 51 = .ok (.if_icmp .ne 23, 3) := by decide +kernel
theorem dX16_part_54 : decode cX16_part 54 = .ok (.aload_n 0, 1) := by decide +kernel
theorem dX16_part_55 : decode cX16_part 55 = .ok (.iconst 3, 1) := by decide +kernel
theorem dX16_part_56 : decode cX16_part 56 = .ok (.aload_n 0, 1) := by decide +kernel
theorem dX16_part_57 : decode cX16_part 57 = .ok (.iload_n 2, 1) := by decide +kernel
theorem dX16_part_58 : decode cX16_part 58 = .ok (.invokevirtual 571, 3) := by decide +kernel
theorem dX16_part_61 : decode cX16_part 61 = .ok (.imul, 1) := by decide +kernel
theorem dX16_part_62 : decode cX16_part 62 = .ok (.iconst 3, 1) := by decide +kernel
theorem dX16_part_63 : decode cX16_part 63 = .ok (.aload_n 0, 1) := by decide +kernel
theorem dX16_part_64 : decode cX16_part 64 = .ok (.iload_n 2, 1) := by decide +kernel
theorem dX16_part_65 : decode cX16_part 65 = .ok (.invokevirtual 571, 3) := by decide +kernel
theorem dX16_part_68 : decode cX16_part 68 = .ok (.imul, 1) := by decide +kernel
theorem dX16_part_69 : decode cX16_part 69 = .ok (.iconst 1, 1) := by decide +kernel
theorem dX16_part_70 : decode cX16_part 70 = .ok (.iadd, 1) := by decide +kernel
theorem dX16_part_71 : decode cX16_part 71 = .ok (.invokevirtual 736, 3) := by decide +kernel
theorem dX16_part_74 : decode cX16_part 74 = .ok (.iconst 1, 1) := by decide +kernel
theorem dX16_part_75 : decode cX16_part 75 = .ok (.istore_n 3, 1) := by decide +kernel
theorem dX16_part_76 : decode cX16_part 76 = .ok (.iconst 0, 1) := by decide +kernel
theorem dX16_part_77 : decode cX16_part 77 = .ok (.istore 4, 2) := by decide +kernel
theorem dX16_part_79 : decode cX16_part 79 = .ok (.iload 4, 2) := by decide +kernel
theorem dX16_part_81 : decode cX16_part 81 = .ok (.aload_n 0, 1) := by decide +kernel
theorem dX16_part_82 : decode cX16_part 82 = .ok (.getfield 399, 3) := by decide +kernel
theorem dX16_part_85 : decode cX16_part 85 = .ok (.if_icmp .ge 29, 3) := by decide +kernel
theorem dX16_part_88 : decode cX16_part 88 = .ok (.iload_n 3, 1) := by decide +kernel
theorem dX16_part_89 : decode cX16_part 89 = .ok (.ifCond .eq 17, 3) := by decide +kernel
theorem dX16_part_92 : decode cX16_part 92 = .ok (.aload_n 0, 1) := by decide +kernel
theorem dX16_part_93 : decode cX16_part 93 = .ok (.getfield 428, 3) := by decide +kernel
theorem dX16_part_96 : decode cX16_part 96 = .ok (.iload 4, 2) := by decide +kernel
theorem dX16_part_98 : decode cX16_part 98 = .ok (.baload, 1) := by decide +kernel
theorem dX16_part_99 : decode cX16_part 99 = .ok (.ifCond .eq 7, 3) := by decide +kernel
theorem dX16_part_102 : decode cX16_part 102 = .ok (.iconst 1, 1) := by decide +kernel
theorem dX16_part_103 : decode cX16_part 103 = .ok (.goto 4, 3) := by decide +kernel
theorem dX16_part_106 : decode cX16_part 106 = .ok (.iconst 0, 1) := by decide +kernel
theorem dX16_part_107 : decode cX16_part 107 = .ok (.istore_n 3, 1) := by decide +kernel
theorem dX16_part_108 : decode cX16_part 108 = .ok (.iinc 4 1, 3) := by decide +kernel
theorem dX16_part_111 : decode cX16_part 111 = .ok (.goto (-32), 3) := by decide +kernel
theorem dX16_part_114 : decode cX16_part 114 = .ok (.iload_n 3, 1) := by decide +kernel
theorem dX16_part_115 : decode cX16_part 115 = .ok (.ifCond .eq 11, 3) := by decide +kernel
theorem dX16_part_118 : decode cX16_part 118 = .ok (.aload_n 0, 1) := by decide +kernel
theorem dX16_part_119 : decode cX16_part 119 = .ok (.invokevirtual 730, 3) := by decide +kernel
theorem dX16_part_122 : decode cX16_part 122 = .ok (.aload_n 0, 1) := by decide +kernel
theorem dX16_part_123 : decode cX16_part 123 = .ok (.invokevirtual 739, 3) := by decide +kernel
theorem dX16_part_126 : decode cX16_part 126 = .ok (.return_, 1) := by decide +kernel
set_option maxRecDepth 20000 in
theorem a_X16_part_126 {Q : Sg → Unit → Prop} {X : Sg → String → Prop} (K : MC R p s m args c cX16_part 5 RX16 D cA tys A n0 s0 3 80 []) (hQ : HQV p l e R s m args below meth c cX16_part D cA A n0 s0 QM dm ra jx rm Q) (hX : HX p l e R s m args below meth c 5 D cA A n0 s0 QM dm ra jx rm X) : ∀ (σ : Sg), w_X16_part_126 ra jx rm Q X σ → RG σ → Shp dm ra jx rm σ → JJ p l e R s m args below meth c 5 D cA A n0 s0 QM σ 126 [(0, .ref rm)] [] := by
  intro σ h hGσ hS H locs ls hH hl hc
  have B := K.1
  unfold w_X16_part_126 at h
  exact hQ _ _ _ _ _ dX16_part_126 hH hc h hGσ hS
set_option maxRecDepth 20000 in
theorem a_X16_part_118 {Q : Sg → Unit → Prop} {X : Sg → String → Prop} (K : MC R p s m args c cX16_part 5 RX16 D cA tys A n0 s0 3 80 []) (hQ : HQV p l e R s m args below meth c cX16_part D cA A n0 s0 QM dm ra jx rm Q) (hX : HX p l e R s m args below meth c 5 D cA A n0 s0 QM dm ra jx rm X) : ∀ (σ : Sg), w_X16_part_118 ra jx rm Q X σ → RG σ → Shp dm ra jx rm σ → JJ p l e R s m args below meth c 5 D cA A n0 s0 QM σ 118 [(0, .ref rm)] [] := by
  intro σ h hGσ hS H locs ls hH hl hc
  have B := K.1
  unfold w_X16_part_118 at h
  refine lv_aload_n B.1 B.2.1 dX16_part_118 rfl (lv_at hl 0 rfl) ?_
  refine c_V B hH hl hc K.2.2.1 (C := RX16) (T := TX16) (N := 123) (ci := 16) (As := []) (ok_X16_write K.2.1 σ hGσ hS h) wc_X16_730 0 hd_X16_write ⟨Nat.le_trans (Nat.le_of_ble_eq_true rfl) K.2.2.2.1, Nat.le_trans (Nat.le_of_ble_eq_true rfl) K.2.2.2.2.1⟩ hS.1.1 hS.1.2 (by decide) rfl rfl (rest := []) rfl (Nat.le_of_ble_eq_true rfl) dX16_part_119 (fun σ21 w hq => ?_) (fun σ9 E9 hx9 => hX σ9 E9 _ _ _ (tb_out K.2.2.2.2.2 rfl) hx9.1 hx9.2.1 hx9.2.2)
  obtain ⟨rfl, h, hGσ21, hS⟩ := hq
  intro H locs ls hH hl hc
  refine W.eq (g2 := F0 m 122 ls []) (rfl) ?_
  try dsimp only at h
  refine lv_aload_n B.1 B.2.1 dX16_part_122 rfl (lv_at hl 0 rfl) ?_
  refine c_V B hH hl hc K.2.2.1 (C := RX16) (T := TX16) (N := 123) (ci := 16) (As := []) (ok_X16_seal K.2.1 σ21 hGσ21 hS h) wc_X16_739 0 hd_X16_seal ⟨Nat.le_trans (Nat.le_of_ble_eq_true rfl) K.2.2.2.1, Nat.le_trans (Nat.le_of_ble_eq_true rfl) K.2.2.2.2.1⟩ hS.1.1 hS.1.2 (by decide) rfl rfl (rest := []) rfl (Nat.le_of_ble_eq_true rfl) dX16_part_123 (fun σ22 w hq => ?_) (fun σ9 E9 hx9 => hX σ9 E9 _ _ _ (tb_out K.2.2.2.2.2 rfl) hx9.1 hx9.2.1 hx9.2.2)
  obtain ⟨rfl, h, hGσ22, hS⟩ := hq
  intro H locs ls hH hl hc
  refine W.eq (g2 := F0 m 126 ls []) (rfl) ?_
  try dsimp only at h
  exact a_X16_part_126 K hQ hX _ h hGσ22 hS _ _ _ hH (lv_sub (l' := [(0, .ref rm)]) hl [0] rfl) hc
set_option maxRecDepth 20000 in
theorem a_X16_part_114 {Q : Sg → Unit → Prop} {X : Sg → String → Prop} (K : MC R p s m args c cX16_part 5 RX16 D cA tys A n0 s0 3 80 []) (hQ : HQV p l e R s m args below meth c cX16_part D cA A n0 s0 QM dm ra jx rm Q) (hX : HX p l e R s m args below meth c 5 D cA A n0 s0 QM dm ra jx rm X) : ∀ (σ : Sg) (v3 : Int) (g3 : rng v3), w_X16_part_114 ra jx rm Q X σ v3 → RG σ → Shp dm ra jx rm σ → JJ p l e R s m args below meth c 5 D cA A n0 s0 QM σ 114 [(0, .ref rm), (3, .int (i32 v3))] [] := by
  intro σ v3 g3 h hGσ hS H locs ls hH hl hc
  have B := K.1
  unfold w_X16_part_114 at h
  refine lv_iload_n B.1 B.2.1 dX16_part_114 rfl (lv_at hl 1 rfl) ?_
  refine lv_if_eq (tgt := 126) B.1 B.2.1 dX16_part_115 (by decide) (fun h9 => ?_) (fun h9 => ?_)
  · rw [if_pos ((z_eq g3).mp h9)] at h
    exact a_X16_part_126 K hQ hX _ h hGσ hS _ _ _ hH (lv_sub (l' := [(0, .ref rm)]) hl [0] rfl) hc
  · rw [if_neg (fun q => h9 ((z_eq g3).mpr q))] at h
    exact a_X16_part_118 K hQ hX _ h hGσ hS _ _ _ hH (lv_sub (l' := [(0, .ref rm)]) hl [0] rfl) hc
set_option maxRecDepth 20000 in
theorem a_X16_part_107 {Q : Sg → Unit → Prop} {X : Sg → String → Prop} (K : MC R p s m args c cX16_part 5 RX16 D cA tys A n0 s0 3 80 []) (hQ : HQV p l e R s m args below meth c cX16_part D cA A n0 s0 QM dm ra jx rm Q) (hX : HX p l e R s m args below meth c 5 D cA A n0 s0 QM dm ra jx rm X) {K79 : Sg → Int → Int → Prop} (hK79 : ∀ (σ : Sg) (v3 : Int) (v4 : Int) (g3 : rng v3) (g4 : rng v4), K79 σ v3 v4 → RG σ → Shp dm ra jx rm σ → JJ p l e R s m args below meth c 5 D cA A n0 s0 QM σ 79 [(0, .ref rm), (3, .int (i32 v3)), (4, .int (i32 v4))] []) : ∀ (σ : Sg) (v4 : Int) (u0 : Int) (g4 : rng v4) (gu0 : rng u0), w_X16_part_107 ra jx rm K79 Q X σ v4 u0 → RG σ → Shp dm ra jx rm σ → JJ p l e R s m args below meth c 5 D cA A n0 s0 QM σ 107 [(0, .ref rm), (4, .int (i32 v4))] [.int (i32 u0)] := by
  intro σ v4 u0 g4 gu0 h hGσ hS H locs ls hH hl hc
  have B := K.1
  unfold w_X16_part_107 at h
  refine lv_istore_n (lv' := [(3, .int (i32 u0)), (0, .ref rm), (4, .int (i32 v4))]) B.1 B.2.1 dX16_part_107 rfl hl (by decide) rfl (fun ls hl => ?_)
  obtain ⟨q1, h⟩ := h
  refine lv_iinc (k := 2) (v := i32 (v4 + 1)) (lv' := [(4, .int (i32 (v4 + 1))), (3, .int (i32 u0)), (0, .ref rm)]) B.1 B.2.1 dX16_part_108 hl rfl (i32_add _ _) (by decide) rfl (fun ls hl => ?_)
  refine lv_goto (tgt := 79) B.1 B.2.1 dX16_part_111 (by decide) ?_
  exact hK79 _ _ _ gu0 q1 h hGσ hS _ _ _ hH (lv_sub (l' := [(0, .ref rm), (3, .int (i32 u0)), (4, .int (i32 (v4 + 1)))]) hl [2, 1, 0] rfl) hc
set_option maxRecDepth 20000 in
theorem a_X16_part_106 {Q : Sg → Unit → Prop} {X : Sg → String → Prop} (K : MC R p s m args c cX16_part 5 RX16 D cA tys A n0 s0 3 80 []) (hQ : HQV p l e R s m args below meth c cX16_part D cA A n0 s0 QM dm ra jx rm Q) (hX : HX p l e R s m args below meth c 5 D cA A n0 s0 QM dm ra jx rm X) {K79 : Sg → Int → Int → Prop} (hK79 : ∀ (σ : Sg) (v3 : Int) (v4 : Int) (g3 : rng v3) (g4 : rng v4), K79 σ v3 v4 → RG σ → Shp dm ra jx rm σ → JJ p l e R s m args below meth c 5 D cA A n0 s0 QM σ 79 [(0, .ref rm), (3, .int (i32 v3)), (4, .int (i32 v4))] []) : ∀ (σ : Sg) (v4 : Int) (g4 : rng v4), w_X16_part_106 ra jx rm K79 Q X σ v4 → RG σ → Shp dm ra jx rm σ → JJ p l e R s m args below meth c 5 D cA A n0 s0 QM σ 106 [(0, .ref rm), (4, .int (i32 v4))] [] := by
  intro σ v4 g4 h hGσ hS H locs ls hH hl hc
  have B := K.1
  unfold w_X16_part_106 at h
  refine lv_iconst (v := i32 0) B.1 B.2.1 dX16_part_106 (by decide) ?_
  exact a_X16_part_107 K hQ hX hK79 _ _ _ g4 (by unfold rng; omega) h hGσ hS _ _ _ hH (lv_sub (l' := [(0, .ref rm), (4, .int (i32 v4))]) hl [0, 1] rfl) hc
set_option maxRecDepth 20000 in
theorem a_X16_part_102 {Q : Sg → Unit → Prop} {X : Sg → String → Prop} (K : MC R p s m args c cX16_part 5 RX16 D cA tys A n0 s0 3 80 []) (hQ : HQV p l e R s m args below meth c cX16_part D cA A n0 s0 QM dm ra jx rm Q) (hX : HX p l e R s m args below meth c 5 D cA A n0 s0 QM dm ra jx rm X) {K79 : Sg → Int → Int → Prop} (hK79 : ∀ (σ : Sg) (v3 : Int) (v4 : Int) (g3 : rng v3) (g4 : rng v4), K79 σ v3 v4 → RG σ → Shp dm ra jx rm σ → JJ p l e R s m args below meth c 5 D cA A n0 s0 QM σ 79 [(0, .ref rm), (3, .int (i32 v3)), (4, .int (i32 v4))] []) : ∀ (σ : Sg) (v4 : Int) (g4 : rng v4), w_X16_part_102 ra jx rm K79 Q X σ v4 → RG σ → Shp dm ra jx rm σ → JJ p l e R s m args below meth c 5 D cA A n0 s0 QM σ 102 [(0, .ref rm), (4, .int (i32 v4))] [] := by
  intro σ v4 g4 h hGσ hS H locs ls hH hl hc
  have B := K.1
  unfold w_X16_part_102 at h
  refine lv_iconst (v := i32 1) B.1 B.2.1 dX16_part_102 (by decide) ?_
  refine lv_goto (tgt := 107) B.1 B.2.1 dX16_part_103 (by decide) ?_
  exact a_X16_part_107 K hQ hX hK79 _ _ _ g4 (by unfold rng; omega) h hGσ hS _ _ _ hH (lv_sub (l' := [(0, .ref rm), (4, .int (i32 v4))]) hl [0, 1] rfl) hc
set_option maxRecDepth 20000 in
theorem a_X16_part_92 {Q : Sg → Unit → Prop} {X : Sg → String → Prop} (K : MC R p s m args c cX16_part 5 RX16 D cA tys A n0 s0 3 80 []) (hQ : HQV p l e R s m args below meth c cX16_part D cA A n0 s0 QM dm ra jx rm Q) (hX : HX p l e R s m args below meth c 5 D cA A n0 s0 QM dm ra jx rm X) {K79 : Sg → Int → Int → Prop} (hK79 : ∀ (σ : Sg) (v3 : Int) (v4 : Int) (g3 : rng v3) (g4 : rng v4), K79 σ v3 v4 → RG σ → Shp dm ra jx rm σ → JJ p l e R s m args below meth c 5 D cA A n0 s0 QM σ 79 [(0, .ref rm), (3, .int (i32 v3)), (4, .int (i32 v4))] []) : ∀ (σ : Sg) (v4 : Int) (g4 : rng v4), w_X16_part_92 ra jx rm K79 Q X σ v4 → RG σ → Shp dm ra jx rm σ → JJ p l e R s m args below meth c 5 D cA A n0 s0 QM σ 92 [(0, .ref rm), (4, .int (i32 v4))] [] := by
  intro σ v4 g4 h hGσ hS H locs ls hH hl hc
  have B := K.1
  unfold w_X16_part_92 at h
  refine lv_aload_n B.1 B.2.1 dX16_part_92 rfl (lv_at hl 0 rfl) ?_
  refine r_arr B hH hS 44 (kd := 103) (n := 64) (by decide) (by decide) wf_X16_428 rfl rfl dX16_part_93 ?_
  refine lv_iload B.1 B.2.1 dX16_part_96 (lv_at hl 1 rfl) ?_
  obtain ⟨q1, h⟩ := h
  refine x_zald B K.2.1 hH (hS.ar (k := 44) (kd := 103) (n := 64) (by decide)) (by decide) q1 dX16_part_98 ?_
  refine lv_if_eq (tgt := 106) B.1 B.2.1 dX16_part_99 (by decide) (fun h9 => ?_) (fun h9 => ?_)
  · rw [if_pos ((z_eq (hGσ _ _)).mp h9)] at h
    exact a_X16_part_106 K hQ hX hK79 _ _ g4 h hGσ hS _ _ _ hH (lv_sub (l' := [(0, .ref rm), (4, .int (i32 v4))]) hl [0, 1] rfl) hc
  · rw [if_neg (fun q => h9 ((z_eq (hGσ _ _)).mpr q))] at h
    exact a_X16_part_102 K hQ hX hK79 _ _ g4 h hGσ hS _ _ _ hH (lv_sub (l' := [(0, .ref rm), (4, .int (i32 v4))]) hl [0, 1] rfl) hc
set_option maxRecDepth 20000 in
theorem a_X16_part_88 {Q : Sg → Unit → Prop} {X : Sg → String → Prop} (K : MC R p s m args c cX16_part 5 RX16 D cA tys A n0 s0 3 80 []) (hQ : HQV p l e R s m args below meth c cX16_part D cA A n0 s0 QM dm ra jx rm Q) (hX : HX p l e R s m args below meth c 5 D cA A n0 s0 QM dm ra jx rm X) {K79 : Sg → Int → Int → Prop} (hK79 : ∀ (σ : Sg) (v3 : Int) (v4 : Int) (g3 : rng v3) (g4 : rng v4), K79 σ v3 v4 → RG σ → Shp dm ra jx rm σ → JJ p l e R s m args below meth c 5 D cA A n0 s0 QM σ 79 [(0, .ref rm), (3, .int (i32 v3)), (4, .int (i32 v4))] []) : ∀ (σ : Sg) (v3 : Int) (v4 : Int) (g3 : rng v3) (g4 : rng v4), w_X16_part_88 ra jx rm K79 Q X σ v3 v4 → RG σ → Shp dm ra jx rm σ → JJ p l e R s m args below meth c 5 D cA A n0 s0 QM σ 88 [(0, .ref rm), (3, .int (i32 v3)), (4, .int (i32 v4))] [] := by
  intro σ v3 v4 g3 g4 h hGσ hS H locs ls hH hl hc
  have B := K.1
  unfold w_X16_part_88 at h
  refine lv_iload_n B.1 B.2.1 dX16_part_88 rfl (lv_at hl 1 rfl) ?_
  refine lv_if_eq (tgt := 106) B.1 B.2.1 dX16_part_89 (by decide) (fun h9 => ?_) (fun h9 => ?_)
  · rw [if_pos ((z_eq g3).mp h9)] at h
    exact a_X16_part_106 K hQ hX hK79 _ _ g4 h hGσ hS _ _ _ hH (lv_sub (l' := [(0, .ref rm), (4, .int (i32 v4))]) hl [0, 2] rfl) hc
  · rw [if_neg (fun q => h9 ((z_eq g3).mpr q))] at h
    exact a_X16_part_92 K hQ hX hK79 _ _ g4 h hGσ hS _ _ _ hH (lv_sub (l' := [(0, .ref rm), (4, .int (i32 v4))]) hl [0, 2] rfl) hc
set_option maxRecDepth 20000 in
theorem a_X16_part_79 {Q : Sg → Unit → Prop} {X : Sg → String → Prop} (K : MC R p s m args c cX16_part 5 RX16 D cA tys A n0 s0 3 80 []) (hQ : HQV p l e R s m args below meth c cX16_part D cA A n0 s0 QM dm ra jx rm Q) (hX : HX p l e R s m args below meth c 5 D cA A n0 s0 QM dm ra jx rm X) {K79 : Sg → Int → Int → Prop} (hK79 : ∀ (σ : Sg) (v3 : Int) (v4 : Int) (g3 : rng v3) (g4 : rng v4), K79 σ v3 v4 → RG σ → Shp dm ra jx rm σ → JJ p l e R s m args below meth c 5 D cA A n0 s0 QM σ 79 [(0, .ref rm), (3, .int (i32 v3)), (4, .int (i32 v4))] []) : ∀ (σ : Sg) (v3 : Int) (v4 : Int) (g3 : rng v3) (g4 : rng v4), w_X16_part_79 ra jx rm K79 Q X σ v3 v4 → RG σ → Shp dm ra jx rm σ → JJ p l e R s m args below meth c 5 D cA A n0 s0 QM σ 79 [(0, .ref rm), (3, .int (i32 v3)), (4, .int (i32 v4))] [] := by
  intro σ v3 v4 g3 g4 h hGσ hS H locs ls hH hl hc
  have B := K.1
  unfold w_X16_part_79 at h
  refine lv_iload B.1 B.2.1 dX16_part_79 (lv_at hl 2 rfl) ?_
  refine lv_aload_n B.1 B.2.1 dX16_part_81 rfl (lv_at hl 0 rfl) ?_
  refine r_geti B hH hS 36 (by decide) wf_X16_399 rfl rfl dX16_part_82 ?_
  refine lv_icmp_ge (tgt := 114) B.1 B.2.1 dX16_part_85 (by decide) (fun h9 => ?_) (fun h9 => ?_)
  · rw [if_pos ((i32_le (hGσ _ _) g4).mp h9)] at h
    exact a_X16_part_114 K hQ hX _ _ g3 h hGσ hS _ _ _ hH (lv_sub (l' := [(0, .ref rm), (3, .int (i32 v3))]) hl [0, 1] rfl) hc
  · rw [if_neg (fun q => h9 ((i32_le (hGσ _ _) g4).mpr q))] at h
    exact a_X16_part_88 K hQ hX hK79 _ _ _ g3 g4 h hGσ hS _ _ _ hH (lv_sub (l' := [(0, .ref rm), (3, .int (i32 v3)), (4, .int (i32 v4))]) hl [0, 1, 2] rfl) hc
theorem al_X16_part_79 {Q : Sg → Unit → Prop} {X : Sg → String → Prop} (K : MC R p s m args c cX16_part 5 RX16 D cA tys A n0 s0 3 80 []) (hQ : HQV p l e R s m args below meth c cX16_part D cA A n0 s0 QM dm ra jx rm Q) (hX : HX p l e R s m args below meth c 5 D cA A n0 s0 QM dm ra jx rm X) : ∀ (n : Nat), ∀ (σ : Sg) (v3 : Int) (v4 : Int) (g3 : rng v3) (g4 : rng v4), wl_X16_part_79 ra jx rm Q X n σ v3 v4 → RG σ → Shp dm ra jx rm σ → JJ p l e R s m args below meth c 5 D cA A n0 s0 QM σ 79 [(0, .ref rm), (3, .int (i32 v3)), (4, .int (i32 v4))] [] := by
  intro n
  induction n with
  | zero => intro σ v3 v4 g3 g4 h; exact h.elim
  | succ n ih => exact fun σ v3 v4 g3 g4 h => a_X16_part_79 K hQ hX ih σ v3 v4 g3 g4 h
set_option maxRecDepth 20000 in
theorem a_X16_part_74 {Q : Sg → Unit → Prop} {X : Sg → String → Prop} (K : MC R p s m args c cX16_part 5 RX16 D cA tys A n0 s0 3 80 []) (hQ : HQV p l e R s m args below meth c cX16_part D cA A n0 s0 QM dm ra jx rm Q) (hX : HX p l e R s m args below meth c 5 D cA A n0 s0 QM dm ra jx rm X) : ∀ (σ : Sg), w_X16_part_74 ra jx rm Q X σ → RG σ → Shp dm ra jx rm σ → JJ p l e R s m args below meth c 5 D cA A n0 s0 QM σ 74 [(0, .ref rm)] [] := by
  intro σ h hGσ hS H locs ls hH hl hc
  have B := K.1
  unfold w_X16_part_74 at h
  refine lv_iconst (v := i32 1) B.1 B.2.1 dX16_part_74 (by decide) ?_
  refine lv_istore_n (lv' := [(3, .int (i32 1)), (0, .ref rm)]) B.1 B.2.1 dX16_part_75 rfl hl (by decide) rfl (fun ls hl => ?_)
  refine lv_iconst (v := i32 0) B.1 B.2.1 dX16_part_76 (by decide) ?_
  refine lv_istore (lv' := [(4, .int (i32 0)), (3, .int (i32 1)), (0, .ref rm)]) B.1 B.2.1 dX16_part_77 hl (by decide) rfl (fun ls hl => ?_)
  obtain ⟨n9, h⟩ := h
  exact al_X16_part_79 K hQ hX n9 _ _ _ (by unfold rng; omega) (by unfold rng; omega) h hGσ hS _ _ _ hH (lv_sub (l' := [(0, .ref rm), (3, .int (i32 1)), (4, .int (i32 0))]) hl [2, 1, 0] rfl) hc
set_option maxRecDepth 20000 in
theorem a_X16_part_54 {Q : Sg → Unit → Prop} {X : Sg → String → Prop} (K : MC R p s m args c cX16_part 5 RX16 D cA tys A n0 s0 3 80 []) (hQ : HQV p l e R s m args below meth c cX16_part D cA A n0 s0 QM dm ra jx rm Q) (hX : HX p l e R s m args below meth c 5 D cA A n0 s0 QM dm ra jx rm X) : ∀ (σ : Sg) (v2 : Int) (g2 : rng v2), w_X16_part_54 ra jx rm Q X σ v2 → RG σ → Shp dm ra jx rm σ → JJ p l e R s m args below meth c 5 D cA A n0 s0 QM σ 54 [(0, .ref rm), (2, .int (i32 v2))] [] := by
  intro σ v2 g2 h hGσ hS H locs ls hH hl hc
  have B := K.1
  unfold w_X16_part_54 at h
  refine lv_aload_n B.1 B.2.1 dX16_part_54 rfl (lv_at hl 0 rfl) ?_
  refine lv_iconst (v := i32 3) B.1 B.2.1 dX16_part_55 (by decide) ?_
  refine lv_aload_n B.1 B.2.1 dX16_part_56 rfl (lv_at hl 0 rfl) ?_
  refine lv_iload_n B.1 B.2.1 dX16_part_57 rfl (lv_at hl 1 rfl) ?_
  refine c_V B hH hl hc K.2.2.1 (C := RX16) (T := TX16) (N := 123) (ci := 16) (As := [.int (i32 v2)]) (ok_X16_outputOf K.2.1 σ v2 g2 hGσ hS h) wc_X16_571 1 hd_X16_outputOf ⟨Nat.le_trans (Nat.le_of_ble_eq_true rfl) K.2.2.2.1, Nat.le_trans (Nat.le_of_ble_eq_true rfl) K.2.2.2.2.1⟩ hS.1.1 hS.1.2 (by decide) rfl rfl (rest := [.int (i32 3), .ref rm]) rfl (Nat.le_of_ble_eq_true rfl) dX16_part_58 (fun σ23 w hq => ?_) (fun σ9 E9 hx9 => hX σ9 E9 _ _ _ (tb_out K.2.2.2.2.2 rfl) hx9.1 hx9.2.1 hx9.2.2)
  obtain ⟨r24, rfl, gr24, h, hGσ23, hS⟩ := hq
  intro H locs ls hH hl hc
  refine W.eq (g2 := F0 m 61 ls [.int (i32 r24), .int (i32 3), .ref rm]) (rfl) ?_
  try dsimp only at h
  obtain ⟨q1, h⟩ := h
  refine lv_imul B.1 B.2.1 dX16_part_61 ?_
  rw [i32_mul]
  refine lv_iconst (v := i32 3) B.1 B.2.1 dX16_part_62 (by decide) ?_
  refine lv_aload_n B.1 B.2.1 dX16_part_63 rfl (lv_at hl 0 rfl) ?_
  refine lv_iload_n B.1 B.2.1 dX16_part_64 rfl (lv_at hl 1 rfl) ?_
  refine c_V B hH hl hc K.2.2.1 (C := RX16) (T := TX16) (N := 123) (ci := 16) (As := [.int (i32 v2)]) (ok_X16_outputOf K.2.1 σ23 v2 g2 hGσ23 hS h) wc_X16_571 1 hd_X16_outputOf ⟨Nat.le_trans (Nat.le_of_ble_eq_true rfl) K.2.2.2.1, Nat.le_trans (Nat.le_of_ble_eq_true rfl) K.2.2.2.2.1⟩ hS.1.1 hS.1.2 (by decide) rfl rfl (rest := [.int (i32 3), .int (i32 (3 * r24)), .ref rm]) rfl (Nat.le_of_ble_eq_true rfl) dX16_part_65 (fun σ25 w hq => ?_) (fun σ9 E9 hx9 => hX σ9 E9 _ _ _ (tb_out K.2.2.2.2.2 rfl) hx9.1 hx9.2.1 hx9.2.2)
  obtain ⟨r26, rfl, gr26, h, hGσ25, hS⟩ := hq
  intro H locs ls hH hl hc
  refine W.eq (g2 := F0 m 68 ls [.int (i32 r26), .int (i32 3), .int (i32 (3 * r24)), .ref rm]) (rfl) ?_
  try dsimp only at h
  obtain ⟨q2, h⟩ := h
  refine lv_imul B.1 B.2.1 dX16_part_68 ?_
  rw [i32_mul]
  refine lv_iconst (v := i32 1) B.1 B.2.1 dX16_part_69 (by decide) ?_
  obtain ⟨q3, h⟩ := h
  refine lv_iadd B.1 B.2.1 dX16_part_70 ?_
  rw [i32_add]
  refine c_V B hH hl hc K.2.2.1 (C := RX16) (T := TX16) (N := 123) (ci := 16) (As := [.int (i32 (3 * r24)), .int (i32 ((3 * r26) + 1))]) (ok_X16_passOn K.2.1 σ25 (3 * r24) ((3 * r26) + 1) q1 q3 hGσ25 hS h) wc_X16_736 2 hd_X16_passOn ⟨Nat.le_trans (Nat.le_of_ble_eq_true rfl) K.2.2.2.1, Nat.le_trans (Nat.le_of_ble_eq_true rfl) K.2.2.2.2.1⟩ hS.1.1 hS.1.2 (by decide) rfl rfl (rest := []) rfl (Nat.le_of_ble_eq_true rfl) dX16_part_71 (fun σ27 w hq => ?_) (fun σ9 E9 hx9 => hX σ9 E9 _ _ _ (tb_out K.2.2.2.2.2 rfl) hx9.1 hx9.2.1 hx9.2.2)
  obtain ⟨rfl, h, hGσ27, hS⟩ := hq
  intro H locs ls hH hl hc
  refine W.eq (g2 := F0 m 74 ls []) (rfl) ?_
  try dsimp only at h
  exact a_X16_part_74 K hQ hX _ h hGσ27 hS _ _ _ hH (lv_sub (l' := [(0, .ref rm)]) hl [0] rfl) hc
set_option maxRecDepth 20000 in
theorem a_X16_part_24 {Q : Sg → Unit → Prop} {X : Sg → String → Prop} (K : MC R p s m args c cX16_part 5 RX16 D cA tys A n0 s0 3 80 []) (hQ : HQV p l e R s m args below meth c cX16_part D cA A n0 s0 QM dm ra jx rm Q) (hX : HX p l e R s m args below meth c 5 D cA A n0 s0 QM dm ra jx rm X) : ∀ (σ : Sg) (v1 : Int) (g1 : rng v1), w_X16_part_24 ra jx rm Q X σ v1 → RG σ → Shp dm ra jx rm σ → JJ p l e R s m args below meth c 5 D cA A n0 s0 QM σ 24 [(0, .ref rm), (1, .int (i32 v1))] [] := by
  intro σ v1 g1 h hGσ hS H locs ls hH hl hc
  have B := K.1
  unfold w_X16_part_24 at h
  refine lv_aload_n B.1 B.2.1 dX16_part_24 rfl (lv_at hl 0 rfl) ?_
  refine c_V B hH hl hc K.2.2.1 (C := RX16) (T := TX16) (N := 123) (ci := 16) (As := []) (ok_X16_write K.2.1 σ hGσ hS h) wc_X16_730 0 hd_X16_write ⟨Nat.le_trans (Nat.le_of_ble_eq_true rfl) K.2.2.2.1, Nat.le_trans (Nat.le_of_ble_eq_true rfl) K.2.2.2.2.1⟩ hS.1.1 hS.1.2 (by decide) rfl rfl (rest := []) rfl (Nat.le_of_ble_eq_true rfl) dX16_part_25 (fun σ28 w hq => ?_) (fun σ9 E9 hx9 => hX σ9 E9 _ _ _ (tb_out K.2.2.2.2.2 rfl) hx9.1 hx9.2.1 hx9.2.2)
  obtain ⟨rfl, h, hGσ28, hS⟩ := hq
  intro H locs ls hH hl hc
  refine W.eq (g2 := F0 m 28 ls []) (rfl) ?_
  try dsimp only at h
  refine lv_aload_n B.1 B.2.1 dX16_part_28 rfl (lv_at hl 0 rfl) ?_
  refine lv_iload_n B.1 B.2.1 dX16_part_29 rfl (lv_at hl 1 rfl) ?_
  refine c_V B hH hl hc K.2.2.1 (C := RX16) (T := TX16) (N := 123) (ci := 16) (As := [.int (i32 v1)]) (ok_X16_keepPart K.2.1 σ28 v1 g1 hGσ28 hS h) wc_X16_733 1 hd_X16_keepPart ⟨Nat.le_trans (Nat.le_of_ble_eq_true rfl) K.2.2.2.1, Nat.le_trans (Nat.le_of_ble_eq_true rfl) K.2.2.2.2.1⟩ hS.1.1 hS.1.2 (by decide) rfl rfl (rest := []) rfl (Nat.le_of_ble_eq_true rfl) dX16_part_30 (fun σ29 w hq => ?_) (fun σ9 E9 hx9 => hX σ9 E9 _ _ _ (tb_out K.2.2.2.2.2 rfl) hx9.1 hx9.2.1 hx9.2.2)
  obtain ⟨rfl, h, hGσ29, hS⟩ := hq
  intro H locs ls hH hl hc
  refine W.eq (g2 := F0 m 33 ls []) (rfl) ?_
  try dsimp only at h
  refine lv_aload_n B.1 B.2.1 dX16_part_33 rfl (lv_at hl 0 rfl) ?_
  refine r_arr B hH hS 38 (kd := 100) (n := 64) (by decide) (by decide) wf_X16_380 rfl rfl dX16_part_34 ?_
  refine lv_iload_n B.1 B.2.1 dX16_part_37 rfl (lv_at hl 1 rfl) ?_
  obtain ⟨q1, h⟩ := h
  refine x_iald B K.2.1 hH (hS.ar (k := 38) (kd := 100) (n := 64) (by decide)) (by decide) q1 dX16_part_38 ?_
  refine lv_istore_n (lv' := [(2, .int (i32 (gI σ29 (ra 38) v1.toNat))), (0, .ref rm), (1, .int (i32 v1))]) B.1 B.2.1 dX16_part_39 rfl hl (by decide) rfl (fun ls hl => ?_)
  refine lv_aload_n B.1 B.2.1 dX16_part_40 rfl (lv_at hl 1 rfl) ?_
  refine r_getp B hH hS 17 (by decide) wf_X16_356 rfl rfl dX16_part_41 ?_
  obtain ⟨a30, ea30, ja30, h⟩ := h
  refine W.eq (g2 := F0 m 44 ls [.ref a30]) (by rw [ea30]; rfl) ?_
  refine n_arr B hH hS ja30 2 (kd := 100) (n := 16) (by decide) (by decide) (List.mem_of_getElem? (i := 2) rfl) rfl dX16_part_44 ?_
  refine lv_iload_n B.1 B.2.1 dX16_part_47 rfl (lv_at hl 0 rfl) ?_
  obtain ⟨q3, h⟩ := h
  refine x_iald B K.2.1 hH (hS.ja ja30 (k := 2) (kd := 100) (n := 16) (by decide)) (by decide) q3 dX16_part_48 ?_
  refine lv_bipush (v := i32 11) B.1 B.2.1 dX16_part_49 (by decide) ?_
  refine lv_icmp_ne (tgt := 74) B.1 B.2.1 dX16_part_51 (by decide) (fun h9 => ?_) (fun h9 => ?_)
  · rw [if_pos (fun q => h9 ((i32_eq (hGσ29 _ _) (by unfold rng; omega)).mpr q))] at h
    exact a_X16_part_74 K hQ hX _ h hGσ29 hS _ _ _ hH (lv_sub (l' := [(0, .ref rm)]) hl [1] rfl) hc
  · rw [if_neg (fun q => q ((i32_eq (hGσ29 _ _) (by unfold rng; omega)).mp h9))] at h
    exact a_X16_part_54 K hQ hX _ _ (hGσ29 _ _) h hGσ29 hS _ _ _ hH (lv_sub (l' := [(0, .ref rm), (2, .int (i32 (gI σ29 (ra 38) v1.toNat)))]) hl [1, 0] rfl) hc
set_option maxRecDepth 20000 in
theorem a_X16_part_19 {Q : Sg → Unit → Prop} {X : Sg → String → Prop} (K : MC R p s m args c cX16_part 5 RX16 D cA tys A n0 s0 3 80 []) (hQ : HQV p l e R s m args below meth c cX16_part D cA A n0 s0 QM dm ra jx rm Q) (hX : HX p l e R s m args below meth c 5 D cA A n0 s0 QM dm ra jx rm X) : ∀ (σ : Sg), w_X16_part_19 ra jx rm Q X σ → RG σ → Shp dm ra jx rm σ → JJ p l e R s m args below meth c 5 D cA A n0 s0 QM σ 19 [(0, .ref rm)] [] := by
  intro σ h hGσ hS H locs ls hH hl hc
  have B := K.1
  unfold w_X16_part_19 at h
  refine lv_aload_n B.1 B.2.1 dX16_part_19 rfl (lv_at hl 0 rfl) ?_
  refine r_obj B hH hS 28 (ci := 13) (by decide) (by decide) wf_X16_346 rfl rfl dX16_part_20 ?_
  refine W.eq (g2 := F0 m 23 ls [va_rf (some (ra 28))]) (rfl) ?_
  obtain ⟨qt, h⟩ := h
  rcases qt with qt | qt
  · refine W.eq (g2 := F0 m 23 ls [.ref (ra 28)]) (by rw [qt]; rfl) ?_
    have hx9 := And.intro h (And.intro hGσ hS)
    refine h_athrow B hH hl hc (ci := 13) (hS.ob (k := 28) (ci := 13) (by decide)).1 (hS.ob (k := 28) (ci := 13) (by decide)).2 (by decide) rfl dX16_part_23 ?_
    exact hX σ _ _ _ _ (tb_out K.2.2.2.2.2 rfl) hx9.1 hx9.2.1 hx9.2.2
  · refine W.eq (g2 := F0 m 23 ls [.ref (ra 29)]) (by rw [qt]; rfl) ?_
    have hx9 := And.intro h (And.intro hGσ hS)
    refine h_athrow B hH hl hc (ci := 13) (hS.ob (k := 29) (ci := 13) (by decide)).1 (hS.ob (k := 29) (ci := 13) (by decide)).2 (by decide) rfl dX16_part_23 ?_
    exact hX σ _ _ _ _ (tb_out K.2.2.2.2.2 rfl) hx9.1 hx9.2.1 hx9.2.2
set_option maxRecDepth 20000 in
theorem a_X16_part_0 {Q : Sg → Unit → Prop} {X : Sg → String → Prop} (K : MC R p s m args c cX16_part 5 RX16 D cA tys A n0 s0 3 80 []) (hQ : HQV p l e R s m args below meth c cX16_part D cA A n0 s0 QM dm ra jx rm Q) (hX : HX p l e R s m args below meth c 5 D cA A n0 s0 QM dm ra jx rm X) : ∀ (σ : Sg) (v1 : Int) (g1 : rng v1), w_X16_part_0 ra jx rm Q X σ v1 → RG σ → Shp dm ra jx rm σ → JJ p l e R s m args below meth c 5 D cA A n0 s0 QM σ 0 [(0, .ref rm), (1, .int (i32 v1))] [] := by
  intro σ v1 g1 h hGσ hS H locs ls hH hl hc
  have B := K.1
  unfold w_X16_part_0 at h
  refine lv_aload_n B.1 B.2.1 dX16_part_0 rfl (lv_at hl 0 rfl) ?_
  refine r_arr B hH hS 98 (kd := 100) (n := 2) (by decide) (by decide) wf_X16_703 rfl rfl dX16_part_1 ?_
  refine lv_iconst (v := i32 1) B.1 B.2.1 dX16_part_4 (by decide) ?_
  refine x_iald B K.2.1 hH (hS.ar (k := 98) (kd := 100) (n := 2) (by decide)) (by decide) (by decide) dX16_part_5 ?_
  refine W.eq (g2 := F0 m 6 ls [.int (i32 (gI σ (ra 98) 1))]) (rfl) ?_
  refine lv_aload_n B.1 B.2.1 dX16_part_6 rfl (lv_at hl 0 rfl) ?_
  refine r_arr B hH hS 78 (kd := 100) (n := 64) (by decide) (by decide) wf_X16_510 rfl rfl dX16_part_7 ?_
  refine lv_iload_n B.1 B.2.1 dX16_part_10 rfl (lv_at hl 1 rfl) ?_
  obtain ⟨q1, h⟩ := h
  refine x_iald B K.2.1 hH (hS.ar (k := 78) (kd := 100) (n := 64) (by decide)) (by decide) q1 dX16_part_11 ?_
  obtain ⟨q2, h⟩ := h
  refine lv_iadd B.1 B.2.1 dX16_part_12 ?_
  rw [i32_add]
  refine lv_sipush (v := i32 4000) B.1 B.2.1 dX16_part_13 (by decide) ?_
  refine lv_icmp_le (tgt := 24) B.1 B.2.1 dX16_part_16 (by decide) (fun h9 => ?_) (fun h9 => ?_)
  · rw [if_pos ((i32_le q2 (by unfold rng; omega)).mp h9)] at h
    exact a_X16_part_24 K hQ hX _ _ g1 h hGσ hS _ _ _ hH (lv_sub (l' := [(0, .ref rm), (1, .int (i32 v1))]) hl [0, 1] rfl) hc
  · rw [if_neg (fun q => h9 ((i32_le q2 (by unfold rng; omega)).mpr q))] at h
    exact a_X16_part_19 K hQ hX _ h hGσ hS _ _ _ hH (lv_sub (l' := [(0, .ref rm)]) hl [0] rfl) hc
theorem ok_X16_part (hT : Tys cA tys) {Q : Sg → Unit → Prop} {X : Sg → String → Prop} (σ : Sg) (v1 : Int) (g1 : rng v1) (hG : RG σ) (hS : Shp dm ra jx rm σ) (h : wp_X16_part ra jx rm v1 σ Q X) : Ok l D cA tys A yX16_part (.code yX16_part cX16_part 5 none) 3 80 [.ref rm, .int (i32 v1)] σ (QnV dm ra jx rm Q) (QxR dm ra jx rm X) := by
  unfold wp_X16_part at h
  exact ok_V (plainFor_of_name (by decide)) (by exact Nat.le_of_ble_eq_true rfl) hT (fun p e R s m args below meth c K hQ hX H locs ls hH hl hc => a_X16_part_0 K hQ hX σ v1 g1 h hG hS H locs ls hH (lv_sub (l' := [(0, .ref rm), (1, .int (i32 v1))]) hl [0, 1] rfl) hc)
theorem dX16_readSoFar_0 : decode cX16_readSoFar 0 = .ok (.ldc2_w 417, 3) := by decide +kernel
theorem dX16_readSoFar_3 : decode cX16_readSoFar 3 = .ok (.lstore_n 3, 1) := by decide +kernel
theorem dX16_readSoFar_4 : decode cX16_readSoFar 4 = .ok (.iconst 0, 1) := by decide +kernel
theorem dX16_readSoFar_5 : decode cX16_readSoFar 5 = .ok (.istore 5, 2) := by decide +kernel
theorem dX16_readSoFar_7 : decode cX16_readSoFar 7 = .ok (.iload 5, 2) := by decide +kernel
theorem dX16_readSoFar_9 : decode cX16_readSoFar 9 = .ok (.iload_n 2, 1) := by decide +kernel
theorem dX16_readSoFar_10 : decode cX16_readSoFar 10 = .ok (.if_icmp .ge 26, 3) := by decide +kernel
theorem dX16_readSoFar_13 : decode cX16_readSoFar 13 = .ok (.lload_n 3, 1) := by decide +kernel
theorem dX16_readSoFar_14 : decode cX16_readSoFar 14 = .ok (.aload_n 0, 1) := by decide +kernel
theorem dX16_readSoFar_15 : decode cX16_readSoFar 15 = .ok (.getfield 754, 3) := by decide +kernel
theorem dX16_readSoFar_18 : decode cX16_readSoFar 18 = .ok (.bipush 64, 2) := by decide +kernel
theorem dX16_readSoFar_20 : decode cX16_readSoFar 20 = .ok (.iload_n 1, 1) := by decide +kernel
theorem dX16_readSoFar_21 : decode cX16_readSoFar 21 = .ok (.imul, 1) := by decide +kernel
theorem dX16_readSoFar_22 : decode cX16_readSoFar 22 = .ok (.iload 5, 2) := by decide +kernel
theorem dX16_readSoFar_24 : decode cX16_readSoFar 24 = .ok (.iadd, 1) := by decide +kernel
theorem dX16_readSoFar_25 : decode cX16_readSoFar 25 = .ok (.laload, 1) := by decide +kernel
theorem dX16_readSoFar_26 : decode cX16_readSoFar 26 = .ok (.invokestatic 586, 3) := by decide +kernel
theorem dX16_readSoFar_29 : decode cX16_readSoFar 29 = .ok (.lstore_n 3, 1) := by decide +kernel
theorem dX16_readSoFar_30 : decode cX16_readSoFar 30 = .ok (.iinc 5 1, 3) := by decide +kernel
theorem dX16_readSoFar_33 : decode cX16_readSoFar 33 = .ok (.goto (-26), 3) := by decide +kernel
theorem dX16_readSoFar_36 : decode cX16_readSoFar 36 = .ok (.lload_n 3, 1) := by decide +kernel
theorem dX16_readSoFar_37 : decode cX16_readSoFar 37 = .ok (.lreturn, 1) := by decide +kernel
set_option maxRecDepth 20000 in
theorem a_X16_readSoFar_36 {Q : Sg → Int64 → Prop} {X : Sg → String → Prop} (K : MC R p s m args c cX16_readSoFar 6 RX16 D cA tys A n0 s0 1 23 []) (hQ : HQJ p l e R s m args below meth c cX16_readSoFar D cA A n0 s0 QM dm ra jx rm Q) (hX : HX p l e R s m args below meth c 6 D cA A n0 s0 QM dm ra jx rm X) : ∀ (σ : Sg) (v3 : Int64), w_X16_readSoFar_36 ra jx rm Q X σ v3 → RG σ → Shp dm ra jx rm σ → JJ p l e R s m args below meth c 6 D cA A n0 s0 QM σ 36 [(0, .ref rm), (3, .long v3)] [] := by
  intro σ v3 h hGσ hS H locs ls hH hl hc
  have B := K.1
  unfold w_X16_readSoFar_36 at h
  refine lv_lload_n B.1 B.2.1 dX16_readSoFar_36 rfl (lv_at hl 1 rfl) ?_
  exact hQ _ _ _ _ _ _ dX16_readSoFar_37 hH hc h hGσ hS
set_option maxRecDepth 20000 in
theorem a_X16_readSoFar_13 {Q : Sg → Int64 → Prop} {X : Sg → String → Prop} (K : MC R p s m args c cX16_readSoFar 6 RX16 D cA tys A n0 s0 1 23 []) (hQ : HQJ p l e R s m args below meth c cX16_readSoFar D cA A n0 s0 QM dm ra jx rm Q) (hX : HX p l e R s m args below meth c 6 D cA A n0 s0 QM dm ra jx rm X) {K7 : Sg → Int → Int → Int64 → Int → Prop} (hK7 : ∀ (σ : Sg) (v1 : Int) (v2 : Int) (v3 : Int64) (v5 : Int) (g1 : rng v1) (g2 : rng v2) (g5 : rng v5), K7 σ v1 v2 v3 v5 → RG σ → Shp dm ra jx rm σ → JJ p l e R s m args below meth c 6 D cA A n0 s0 QM σ 7 [(0, .ref rm), (1, .int (i32 v1)), (2, .int (i32 v2)), (3, .long v3), (5, .int (i32 v5))] []) : ∀ (σ : Sg) (v1 : Int) (v2 : Int) (v3 : Int64) (v5 : Int) (g1 : rng v1) (g2 : rng v2) (g5 : rng v5), w_X16_readSoFar_13 ra jx rm K7 Q X σ v1 v2 v3 v5 → RG σ → Shp dm ra jx rm σ → JJ p l e R s m args below meth c 6 D cA A n0 s0 QM σ 13 [(0, .ref rm), (1, .int (i32 v1)), (2, .int (i32 v2)), (3, .long v3), (5, .int (i32 v5))] [] := by
  intro σ v1 v2 v3 v5 g1 g2 g5 h hGσ hS H locs ls hH hl hc
  have B := K.1
  unfold w_X16_readSoFar_13 at h
  refine lv_lload_n B.1 B.2.1 dX16_readSoFar_13 rfl (lv_at hl 3 rfl) ?_
  refine lv_aload_n B.1 B.2.1 dX16_readSoFar_14 rfl (lv_at hl 0 rfl) ?_
  refine r_arr B hH hS 23 (kd := 101) (n := 256) (by decide) (by decide) wf_X16_754 rfl rfl dX16_readSoFar_15 ?_
  refine lv_bipush (v := i32 64) B.1 B.2.1 dX16_readSoFar_18 (by decide) ?_
  refine lv_iload_n B.1 B.2.1 dX16_readSoFar_20 rfl (lv_at hl 1 rfl) ?_
  obtain ⟨q1, h⟩ := h
  refine lv_imul B.1 B.2.1 dX16_readSoFar_21 ?_
  rw [i32_mul]
  refine lv_iload B.1 B.2.1 dX16_readSoFar_22 (lv_at hl 4 rfl) ?_
  obtain ⟨q2, h⟩ := h
  refine lv_iadd B.1 B.2.1 dX16_readSoFar_24 ?_
  rw [i32_add]
  obtain ⟨q3, h⟩ := h
  refine x_lald B K.2.1 hH (hS.ar (k := 23) (kd := 101) (n := 256) (by decide)) (by decide) q3 dX16_readSoFar_25 ?_
  refine c_S B hH hl hc K.2.2.1 (As := [.long v3, .long (gJ σ (ra 23) ((64 * v1) + v5).toNat)]) (ok_J9_max_f86c9 (dm := dm) (ra := ra) (jx := jx) (rm := rm) K.2.1 σ v3 (gJ σ (ra 23) ((64 * v1) + v5).toNat) hGσ hS mj_J9_max_f86c9) wc_X16_586 2 hd_J9_max_f86c9 ⟨Nat.le_trans (Nat.le_of_ble_eq_true rfl) K.2.2.2.1, Nat.le_trans (Nat.le_of_ble_eq_true rfl) K.2.2.2.2.1⟩ rfl (rest := []) rfl (Nat.le_of_ble_eq_true rfl) dX16_readSoFar_26 (fun σm4 w hq => ?_) (fun σ9 E9 hx9 => False.elim hx9.1)
  obtain ⟨rm9, rfl, ⟨e9, rfl⟩, hG9, hS9⟩ := hq
  subst e9
  intro H locs ls hH hl hc
  refine W.eq (g2 := F0 m 29 ls [.long (maxJ v3 (gJ σ (ra 23) ((64 * v1) + v5).toNat))]) (rfl) ?_
  refine lv_lstore_n (lv' := [(3, .long (maxJ v3 (gJ σ (ra 23) ((64 * v1) + v5).toNat))), (0, .ref rm), (1, .int (i32 v1)), (2, .int (i32 v2)), (5, .int (i32 v5))]) B.1 B.2.1 dX16_readSoFar_29 rfl hl (by decide) rfl (fun ls hl => ?_)
  obtain ⟨q5, h⟩ := h
  refine lv_iinc (k := 4) (v := i32 (v5 + 1)) (lv' := [(5, .int (i32 (v5 + 1))), (3, .long (maxJ v3 (gJ σ (ra 23) ((64 * v1) + v5).toNat))), (0, .ref rm), (1, .int (i32 v1)), (2, .int (i32 v2))]) B.1 B.2.1 dX16_readSoFar_30 hl rfl (i32_add _ _) (by decide) rfl (fun ls hl => ?_)
  refine lv_goto (tgt := 7) B.1 B.2.1 dX16_readSoFar_33 (by decide) ?_
  exact hK7 _ _ _ _ _ g1 g2 q5 h hGσ hS _ _ _ hH (lv_sub (l' := [(0, .ref rm), (1, .int (i32 v1)), (2, .int (i32 v2)), (3, .long (maxJ v3 (gJ σ (ra 23) ((64 * v1) + v5).toNat))), (5, .int (i32 (v5 + 1)))]) hl [2, 3, 4, 1, 0] rfl) hc
set_option maxRecDepth 20000 in
theorem a_X16_readSoFar_7 {Q : Sg → Int64 → Prop} {X : Sg → String → Prop} (K : MC R p s m args c cX16_readSoFar 6 RX16 D cA tys A n0 s0 1 23 []) (hQ : HQJ p l e R s m args below meth c cX16_readSoFar D cA A n0 s0 QM dm ra jx rm Q) (hX : HX p l e R s m args below meth c 6 D cA A n0 s0 QM dm ra jx rm X) {K7 : Sg → Int → Int → Int64 → Int → Prop} (hK7 : ∀ (σ : Sg) (v1 : Int) (v2 : Int) (v3 : Int64) (v5 : Int) (g1 : rng v1) (g2 : rng v2) (g5 : rng v5), K7 σ v1 v2 v3 v5 → RG σ → Shp dm ra jx rm σ → JJ p l e R s m args below meth c 6 D cA A n0 s0 QM σ 7 [(0, .ref rm), (1, .int (i32 v1)), (2, .int (i32 v2)), (3, .long v3), (5, .int (i32 v5))] []) : ∀ (σ : Sg) (v1 : Int) (v2 : Int) (v3 : Int64) (v5 : Int) (g1 : rng v1) (g2 : rng v2) (g5 : rng v5), w_X16_readSoFar_7 ra jx rm K7 Q X σ v1 v2 v3 v5 → RG σ → Shp dm ra jx rm σ → JJ p l e R s m args below meth c 6 D cA A n0 s0 QM σ 7 [(0, .ref rm), (1, .int (i32 v1)), (2, .int (i32 v2)), (3, .long v3), (5, .int (i32 v5))] [] := by
  intro σ v1 v2 v3 v5 g1 g2 g5 h hGσ hS H locs ls hH hl hc
  have B := K.1
  unfold w_X16_readSoFar_7 at h
  refine lv_iload B.1 B.2.1 dX16_readSoFar_7 (lv_at hl 4 rfl) ?_
  refine lv_iload_n B.1 B.2.1 dX16_readSoFar_9 rfl (lv_at hl 2 rfl) ?_
  refine lv_icmp_ge (tgt := 36) B.1 B.2.1 dX16_readSoFar_10 (by decide) (fun h9 => ?_) (fun h9 => ?_)
  · rw [if_pos ((i32_le g2 g5).mp h9)] at h
    exact a_X16_readSoFar_36 K hQ hX _ _ h hGσ hS _ _ _ hH (lv_sub (l' := [(0, .ref rm), (3, .long v3)]) hl [0, 3] rfl) hc
  · rw [if_neg (fun q => h9 ((i32_le g2 g5).mpr q))] at h
    exact a_X16_readSoFar_13 K hQ hX hK7 _ _ _ _ _ g1 g2 g5 h hGσ hS _ _ _ hH (lv_sub (l' := [(0, .ref rm), (1, .int (i32 v1)), (2, .int (i32 v2)), (3, .long v3), (5, .int (i32 v5))]) hl [0, 1, 2, 3, 4] rfl) hc
theorem al_X16_readSoFar_7 {Q : Sg → Int64 → Prop} {X : Sg → String → Prop} (K : MC R p s m args c cX16_readSoFar 6 RX16 D cA tys A n0 s0 1 23 []) (hQ : HQJ p l e R s m args below meth c cX16_readSoFar D cA A n0 s0 QM dm ra jx rm Q) (hX : HX p l e R s m args below meth c 6 D cA A n0 s0 QM dm ra jx rm X) : ∀ (n : Nat), ∀ (σ : Sg) (v1 : Int) (v2 : Int) (v3 : Int64) (v5 : Int) (g1 : rng v1) (g2 : rng v2) (g5 : rng v5), wl_X16_readSoFar_7 ra jx rm Q X n σ v1 v2 v3 v5 → RG σ → Shp dm ra jx rm σ → JJ p l e R s m args below meth c 6 D cA A n0 s0 QM σ 7 [(0, .ref rm), (1, .int (i32 v1)), (2, .int (i32 v2)), (3, .long v3), (5, .int (i32 v5))] [] := by
  intro n
  induction n with
  | zero => intro σ v1 v2 v3 v5 g1 g2 g5 h; exact h.elim
  | succ n ih => exact fun σ v1 v2 v3 v5 g1 g2 g5 h => a_X16_readSoFar_7 K hQ hX ih σ v1 v2 v3 v5 g1 g2 g5 h
set_option maxRecDepth 20000 in
theorem a_X16_readSoFar_0 {Q : Sg → Int64 → Prop} {X : Sg → String → Prop} (K : MC R p s m args c cX16_readSoFar 6 RX16 D cA tys A n0 s0 1 23 []) (hQ : HQJ p l e R s m args below meth c cX16_readSoFar D cA A n0 s0 QM dm ra jx rm Q) (hX : HX p l e R s m args below meth c 6 D cA A n0 s0 QM dm ra jx rm X) : ∀ (σ : Sg) (v1 : Int) (v2 : Int) (g1 : rng v1) (g2 : rng v2), w_X16_readSoFar_0 ra jx rm Q X σ v1 v2 → RG σ → Shp dm ra jx rm σ → JJ p l e R s m args below meth c 6 D cA A n0 s0 QM σ 0 [(0, .ref rm), (1, .int (i32 v1)), (2, .int (i32 v2))] [] := by
  intro σ v1 v2 g1 g2 h hGσ hS H locs ls hH hl hc
  have B := K.1
  unfold w_X16_readSoFar_0 at h
  refine lv_ldc2 B.1 B.2.1 B.2.2.1 (B.2.2.2.1 _ (wk_X16_417)) dX16_readSoFar_0 ?_
  refine lv_lstore_n (lv' := [(3, .long (-1)), (0, .ref rm), (1, .int (i32 v1)), (2, .int (i32 v2))]) B.1 B.2.1 dX16_readSoFar_3 rfl hl (by decide) rfl (fun ls hl => ?_)
  refine lv_iconst (v := i32 0) B.1 B.2.1 dX16_readSoFar_4 (by decide) ?_
  refine lv_istore (lv' := [(5, .int (i32 0)), (3, .long (-1)), (0, .ref rm), (1, .int (i32 v1)), (2, .int (i32 v2))]) B.1 B.2.1 dX16_readSoFar_5 hl (by decide) rfl (fun ls hl => ?_)
  obtain ⟨n9, h⟩ := h
  exact al_X16_readSoFar_7 K hQ hX n9 _ _ _ _ _ g1 g2 (by unfold rng; omega) h hGσ hS _ _ _ hH (lv_sub (l' := [(0, .ref rm), (1, .int (i32 v1)), (2, .int (i32 v2)), (3, .long (-1)), (5, .int (i32 0))]) hl [2, 3, 4, 1, 0] rfl) hc
theorem ok_X16_readSoFar (hT : Tys cA tys) {Q : Sg → Int64 → Prop} {X : Sg → String → Prop} (σ : Sg) (v1 : Int) (v2 : Int) (g1 : rng v1) (g2 : rng v2) (hG : RG σ) (hS : Shp dm ra jx rm σ) (h : wp_X16_readSoFar ra jx rm v1 v2 σ Q X) : Ok l D cA tys A yX16_readSoFar (.code yX16_readSoFar cX16_readSoFar 6 (some .long)) 1 23 [.ref rm, .int (i32 v1), .int (i32 v2)] σ (QnJ dm ra jx rm Q) (QxR dm ra jx rm X) := by
  unfold wp_X16_readSoFar at h
  exact ok_J (plainFor_of_name (by decide)) (by exact Nat.le_of_ble_eq_true rfl) hT (fun p e R s m args below meth c K hQ hX H locs ls hH hl hc => a_X16_readSoFar_0 K hQ hX σ v1 v2 g1 g2 h hG hS H locs ls hH (lv_sub (l' := [(0, .ref rm), (1, .int (i32 v1)), (2, .int (i32 v2))]) hl [0, 1, 2] rfl) hc)
theorem dX16_setOf_0 : decode cX16_setOf 0 = .ok (.aload_n 0, 1) := by decide +kernel
theorem dX16_setOf_1 : decode cX16_setOf 1 = .ok (.invokevirtual 353, 3) := by decide +kernel
theorem dX16_setOf_4 : decode cX16_setOf 4 = .ok (.istore_n 3, 1) := by decide +kernel
theorem dX16_setOf_5 : decode cX16_setOf 5 = .ok (.aload_n 0, 1) := by decide +kernel
theorem dX16_setOf_6 : decode cX16_setOf 6 = .ok (.getfield 350, 3) := by decide +kernel
theorem dX16_setOf_9 : decode cX16_setOf 9 = .ok (.iconst 4, 1) := by decide +kernel
theorem dX16_setOf_10 : decode cX16_setOf 10 = .ok (.iload_n 3, 1) := by decide +kernel
theorem dX16_setOf_11 : decode cX16_setOf 11 = .ok (.imul, 1) := by decide +kernel
theorem dX16_setOf_12 : decode cX16_setOf 12 = .ok (.iload_n 1, 1) := by decide +kernel
theorem dX16_setOf_13 : decode cX16_setOf 13 = .ok (.iadd, 1) := by decide +kernel
theorem dX16_setOf_14 : decode cX16_setOf 14 = .ok (.lconst 1, 1) := by decide +kernel
theorem dX16_setOf_15 : decode cX16_setOf 15 = .ok (.iload_n 2, 1) := by decide +kernel
theorem dX16_setOf_16 : decode cX16_setOf 16 = .ok (.lshl, 1) := by decide +kernel
theorem dX16_setOf_17 : decode cX16_setOf 17 = .ok (.lastore, 1) := by decide +kernel
theorem dX16_setOf_18 : decode cX16_setOf 18 = .ok (.iload_n 3, 1) := by decide +kernel
theorem dX16_setOf_19 : decode cX16_setOf 19 = .ok (.ireturn, 1) := by decide +kernel
set_option maxRecDepth 20000 in
theorem a_X16_setOf_0 {Q : Sg → Int → Prop} {X : Sg → String → Prop} (K : MC R p s m args c cX16_setOf 4 RX16 D cA tys A n0 s0 1 21 []) (hQ : HQI p l e R s m args below meth c cX16_setOf D cA A n0 s0 QM dm ra jx rm Q) (hX : HX p l e R s m args below meth c 4 D cA A n0 s0 QM dm ra jx rm X) : ∀ (σ : Sg) (v1 : Int) (v2 : Int) (g1 : rng v1) (g2 : rng v2), w_X16_setOf_0 ra jx rm Q X σ v1 v2 → RG σ → Shp dm ra jx rm σ → JJ p l e R s m args below meth c 4 D cA A n0 s0 QM σ 0 [(0, .ref rm), (1, .int (i32 v1)), (2, .int (i32 v2))] [] := by
  intro σ v1 v2 g1 g2 h hGσ hS H locs ls hH hl hc
  have B := K.1
  unfold w_X16_setOf_0 at h
  refine lv_aload_n B.1 B.2.1 dX16_setOf_0 rfl (lv_at hl 0 rfl) ?_
  refine c_V B hH hl hc K.2.2.1 (C := RX16) (T := TX16) (N := 123) (ci := 16) (As := []) (ok_X16_newSet K.2.1 σ hGσ hS h) wc_X16_353 0 hd_X16_newSet ⟨Nat.le_trans (Nat.le_of_ble_eq_true rfl) K.2.2.2.1, Nat.le_trans (Nat.le_of_ble_eq_true rfl) K.2.2.2.2.1⟩ hS.1.1 hS.1.2 (by decide) rfl rfl (rest := []) rfl (Nat.le_of_ble_eq_true rfl) dX16_setOf_1 (fun σ7 w hq => ?_) (fun σ9 E9 hx9 => hX σ9 E9 _ _ _ (tb_out K.2.2.2.2.2 rfl) hx9.1 hx9.2.1 hx9.2.2)
  obtain ⟨r8, rfl, gr8, h, hGσ7, hS⟩ := hq
  intro H locs ls hH hl hc
  refine W.eq (g2 := F0 m 4 ls [.int (i32 r8)]) (rfl) ?_
  try dsimp only at h
  refine lv_istore_n (lv' := [(3, .int (i32 r8)), (0, .ref rm), (1, .int (i32 v1)), (2, .int (i32 v2))]) B.1 B.2.1 dX16_setOf_4 rfl hl (by decide) rfl (fun ls hl => ?_)
  refine lv_aload_n B.1 B.2.1 dX16_setOf_5 rfl (lv_at hl 1 rfl) ?_
  refine r_arr B hH hS 26 (kd := 101) (n := 120000) (by decide) (by decide) wf_X16_350 rfl rfl dX16_setOf_6 ?_
  refine lv_iconst (v := i32 4) B.1 B.2.1 dX16_setOf_9 (by decide) ?_
  refine lv_iload_n B.1 B.2.1 dX16_setOf_10 rfl (lv_at hl 0 rfl) ?_
  obtain ⟨q1, h⟩ := h
  refine lv_imul B.1 B.2.1 dX16_setOf_11 ?_
  rw [i32_mul]
  refine lv_iload_n B.1 B.2.1 dX16_setOf_12 rfl (lv_at hl 2 rfl) ?_
  obtain ⟨q2, h⟩ := h
  refine lv_iadd B.1 B.2.1 dX16_setOf_13 ?_
  rw [i32_add]
  refine lv_lconst (v := 1) B.1 B.2.1 dX16_setOf_14 (by decide) ?_
  refine lv_iload_n B.1 B.2.1 dX16_setOf_15 rfl (lv_at hl 3 rfl) ?_
  refine lv_lshl B.1 B.2.1 dX16_setOf_16 rfl ?_
  obtain ⟨q3, h⟩ := h
  obtain ⟨σ9, eσ9⟩ : ∃ z, z = pJ σ7 (ra 26) ((4 * r8) + v1).toNat (1 <<< ((i32 v2).toInt64 &&& 63)) := ⟨_, rfl⟩
  have h := h σ9 eσ9
  refine x_last B K.2.1 hH (hS.ar (k := 26) (kd := 101) (n := 120000) (by decide)) (by decide) q3 dX16_setOf_17 (fun H locs hH => ?_)
  have hH : Hd D cA A s (pJ σ7 (ra 26) ((4 * r8) + v1).toNat (1 <<< ((i32 v2).toInt64 &&& 63))) H locs := hH
  rw [← eσ9] at hH
  have hGσ9 : RG σ9 := by rw [eσ9]; exact hGσ7.pJ
  have hS : Shp dm ra jx rm σ9 := by rw [eσ9]; exact hS
  have hc : CB n0 s0 σ9 := by rw [eσ9]; exact hc
  rw [show gc σ7 = gc σ9 by rw [eσ9], show gs σ7 = gs σ9 by rw [eσ9]]
  refine lv_iload_n B.1 B.2.1 dX16_setOf_18 rfl (lv_at hl 0 rfl) ?_
  exact hQ _ _ _ _ _ _ gr8 dX16_setOf_19 hH hc h hGσ9 hS
theorem ok_X16_setOf (hT : Tys cA tys) {Q : Sg → Int → Prop} {X : Sg → String → Prop} (σ : Sg) (v1 : Int) (v2 : Int) (g1 : rng v1) (g2 : rng v2) (hG : RG σ) (hS : Shp dm ra jx rm σ) (h : wp_X16_setOf ra jx rm v1 v2 σ Q X) : Ok l D cA tys A yX16_setOf (.code yX16_setOf cX16_setOf 4 (some .int)) 1 21 [.ref rm, .int (i32 v1), .int (i32 v2)] σ (QnI dm ra jx rm Q) (QxR dm ra jx rm X) := by
  unfold wp_X16_setOf at h
  exact ok_I (plainFor_of_name (by decide)) (by exact Nat.le_of_ble_eq_true rfl) hT (fun p e R s m args below meth c K hQ hX H locs ls hH hl hc => a_X16_setOf_0 K hQ hX σ v1 v2 g1 g2 h hG hS H locs ls hH (lv_sub (l' := [(0, .ref rm), (1, .int (i32 v1)), (2, .int (i32 v2))]) hl [0, 1, 2] rfl) hc)
theorem dX16_sourceTurn_0 : decode cX16_sourceTurn 0 = .ok (.aload_n 0, 1) := by decide +kernel
theorem dX16_sourceTurn_1 : decode cX16_sourceTurn 1 = .ok (.getfield 380, 3) := by decide +kernel
theorem dX16_sourceTurn_4 : decode cX16_sourceTurn 4 = .ok (.iload_n 1, 1) := by decide +kernel
theorem dX16_sourceTurn_5 : decode cX16_sourceTurn 5 = .ok (.iaload, 1) := by decide +kernel
theorem dX16_sourceTurn_6 : decode cX16_sourceTurn 6 = .ok (.istore_n 2, 1) := by decide +kernel
theorem dX16_sourceTurn_7 : decode cX16_sourceTurn 7 = .ok (.aload_n 0, 1) := by decide +kernel
theorem dX16_sourceTurn_8 : decode cX16_sourceTurn 8 = .ok (.getfield 356, 3) := by decide +kernel
theorem dX16_sourceTurn_11 : decode cX16_sourceTurn 11 = .ok (.getfield 191, 3) := by decide +kernel
theorem dX16_sourceTurn_14 : decode cX16_sourceTurn 14 = .ok (.iload_n 2, 1) := by decide +kernel
theorem dX16_sourceTurn_15 : decode cX16_sourceTurn 15 = .ok (.laload, 1) := by decide +kernel
theorem dX16_sourceTurn_16 : decode cX16_sourceTurn 16 = .ok (.l2i, 1) := by decide +kernel
theorem dX16_sourceTurn_17 : decode cX16_sourceTurn 17 = .ok (.istore_n 3, 1) := by decide +kernel
theorem dX16_sourceTurn_18 : decode cX16_sourceTurn 18 = .ok (.aload_n 0, 1) := by decide +kernel
theorem dX16_sourceTurn_19 : decode cX16_sourceTurn 19 = .ok (.getfield 742, 3) := by decide +kernel
theorem dX16_sourceTurn_22 : decode cX16_sourceTurn 22 = .ok (.ifCond .le 26, 3) := by decide +kernel
theorem dX16_sourceTurn_25 : decode cX16_sourceTurn 25 = .ok (.aload_n 0, 1) := by decide +kernel
theorem dX16_sourceTurn_26 : decode cX16_sourceTurn 26 = .ok (.getfield 428, 3) := by decide +kernel
theorem dX16_sourceTurn_29 : decode cX16_sourceTurn 29 = .ok (.iload_n 1, 1) := by decide +kernel
theorem dX16_sourceTurn_30 : decode cX16_sourceTurn 30 = .ok (.baload, 1) := by decide +kernel
theorem dX16_sourceTurn_31 : decode cX16_sourceTurn 31 = .ok (.ifCond .ne 17, 3) := by decide +kernel
theorem dX16_sourceTurn_34 : decode cX16_sourceTurn 34 = .ok (.aload_n 0, 1) := by decide +kernel
theorem dX16_sourceTurn_35 : decode cX16_sourceTurn 35 = .ok (.iload_n 1, 1) := by decide +kernel
theorem dX16_sourceTurn_36 : decode cX16_sourceTurn 36 = .ok (.invokevirtual 757, 3) := by decide +kernel
theorem dX16_sourceTurn_39 : decode cX16_sourceTurn 39 = .ok (.aload_n 0, 1) := by decide +kernel
theorem dX16_sourceTurn_40 : decode cX16_sourceTurn 40 = .ok (.iload_n 1, 1) := by decide +kernel
theorem dX16_sourceTurn_41 : decode cX16_sourceTurn 41 = .ok (.iconst 2, 1) := by decide +kernel
theorem dX16_sourceTurn_42 : decode cX16_sourceTurn 42 = .ok (.lconst 0, 1) := by decide +kernel
theorem dX16_sourceTurn_43 : decode cX16_sourceTurn 43 = .ok (.invokevirtual 760, 3) := by decide +kernel
theorem dX16_sourceTurn_46 : decode cX16_sourceTurn 46 = .ok (.iconst 0, 1) := by decide +kernel
theorem dX16_sourceTurn_47 : decode cX16_sourceTurn 47 = .ok (.ireturn, 1) := by decide +kernel
theorem dX16_sourceTurn_48 : decode cX16_sourceTurn 48 = .ok (.aload_n 0, 1) := by decide +kernel
theorem dX16_sourceTurn_49 : decode cX16_sourceTurn 49 = .ok (.getfield 425, 3) := by decide +kernel
theorem dX16_sourceTurn_52 : decode cX16_sourceTurn 52 = .ok (.iload_n 1, 1) := by decide +kernel
theorem dX16_sourceTurn_53 : decode cX16_sourceTurn 53 = .ok (.iaload, 1) := by decide +kernel
theorem dX16_sourceTurn_54 : decode cX16_sourceTurn 54 = .ok (.aload_n 0, 1) := by decide +kernel
theorem dX16_sourceTurn_55 : decode cX16_sourceTurn 55 = .ok (.getfield 763, 3) := by decide +kernel
theorem dX16_sourceTurn_58 : decode cX16_sourceTurn 58 = .ok (.iload_n 3, 1) := by decide +kernel
theorem dX16_sourceTurn_59 : decode cX16_sourceTurn 59 = .ok (.iaload, 1) := by decide +kernel
theorem dX16_sourceTurn_60 : decode cX16_sourceTurn 60 = .ok (.if_icmp .ge 212, 3) := by decide +kernel
theorem dX16_sourceTurn_63 : decode cX16_sourceTurn 63 = .ok (.bipush 64, 2) := by decide +kernel
theorem dX16_sourceTurn_65 : decode cX16_sourceTurn 65 = .ok (.iload_n 3, 1) := by decide +kernel
theorem dX16_sourceTurn_66 : decode cX16_sourceTurn 66 = .ok (.imul, 1) := by decide +kernel
theorem dX16_sourceTurn_67 : decode cX16_sourceTurn 67 = .ok (.aload_n 0, 1) := by decide +kernel
theorem dX16_sourceTurn_68 : decode cX16_sourceTurn 68 = .ok (.getfield 425, 3) := by decide +kernel
theorem dX16_sourceTurn_71 : decode cX16_sourceTurn 71 = .ok (.iload_n 1, 1) := by decide +kernel
theorem dX16_sourceTurn_72 : decode cX16_sourceTurn 72 = .ok (.iaload, 1) := by decide +kernel
theorem dX16_sourceTurn_73 : decode cX16_sourceTurn 73 = .ok (.iadd, 1) := by decide +kernel
theorem dX16_sourceTurn_74 : decode cX16_sourceTurn 74 = .ok (.istore 4, 2) := by decide +kernel
theorem dX16_sourceTurn_76 : decode cX16_sourceTurn 76 = .ok (.aload_n 0, 1) := by decide +kernel
theorem dX16_sourceTurn_77 : decode cX16_sourceTurn 77 = .ok (.iconst 1, 1) := by decide +kernel
theorem dX16_sourceTurn_78 : decode cX16_sourceTurn 78 = .ok (.putfield 766, 3) := by decide +kernel
theorem dX16_sourceTurn_81 : decode cX16_sourceTurn 81 = .ok (.aload_n 0, 1) := by decide +kernel
theorem dX16_sourceTurn_82 : decode cX16_sourceTurn 82 = .ok (.getfield 425, 3) := by decide +kernel
theorem dX16_sourceTurn_85 : decode cX16_sourceTurn 85 = .ok (.iload_n 1, 1) := by decide +kernel
theorem dX16_sourceTurn_86 : decode cX16_sourceTurn 86 = .ok (.dup2, 1) := by decide +kernel
theorem dX16_sourceTurn_87 : decode cX16_sourceTurn 87 = .ok (.iaload, 1) := by decide +kernel
theorem dX16_sourceTurn_88 : decode cX16_sourceTurn 88 = .ok (.iconst 1, 1) := by decide +kernel
theorem dX16_sourceTurn_89 : decode cX16_sourceTurn 89 = .ok (.iadd, 1) := by decide +kernel
theorem dX16_sourceTurn_90 : decode cX16_sourceTurn 90 = .ok (.iastore, 1) := by decide +kernel
theorem dX16_sourceTurn_91 : decode cX16_sourceTurn 91 = .ok (.aload_n 0, 1) := by decide +kernel
theorem dX16_sourceTurn_92 : decode cX16_sourceTurn 92 = .ok (.getfield 419, 3) := by decide +kernel
theorem dX16_sourceTurn_95 : decode cX16_sourceTurn 95 = .ok (.iload_n 1, 1) := by decide +kernel
theorem dX16_sourceTurn_96 : decode cX16_sourceTurn 96 = .ok (.dup2, 1) := by decide +kernel
theorem dX16_sourceTurn_97 : decode cX16_sourceTurn 97 = .ok (.iaload, 1) := by decide +kernel
theorem dX16_sourceTurn_98 : decode cX16_sourceTurn 98 = .ok (.iconst 1, 1) := by decide +kernel
theorem dX16_sourceTurn_99 : decode cX16_sourceTurn 99 = .ok (.iadd, 1) := by decide +kernel
theorem dX16_sourceTurn_100 : decode cX16_sourceTurn 100 = .ok (.iastore, 1) := by decide +kernel
theorem dX16_sourceTurn_101 : decode cX16_sourceTurn 101 = .ok (.aload_n 0, 1) := by decide +kernel
theorem dX16_sourceTurn_102 : decode cX16_sourceTurn 102 = .ok (.getfield 754, 3) := by decide +kernel
theorem dX16_sourceTurn_105 : decode cX16_sourceTurn 105 = .ok (.iload 4, 2) := by decide +kernel
theorem dX16_sourceTurn_107 : decode cX16_sourceTurn 107 = .ok (.laload, 1) := by decide +kernel
theorem dX16_sourceTurn_108 : decode cX16_sourceTurn 108 = .ok (.aload_n 0, 1) := by decide +kernel
theorem dX16_sourceTurn_109 : decode cX16_sourceTurn 109 = .ok (.getfield 414, 3) := by decide +kernel
theorem dX16_sourceTurn_112 : decode cX16_sourceTurn 112 = .ok (.iload_n 1, 1) := by decide +kernel
theorem dX16_sourceTurn_113 : decode cX16_sourceTurn 113 = .ok (.laload, 1) := by decide +kernel
theorem dX16_sourceTurn_114 : decode cX16_sourceTurn 114 = .ok (.lcmp, 1) := by decide +kernel
theorem dX16_sourceTurn_115 : decode cX16_sourceTurn 115 = .ok (.ifCond .gt 15, 3) := by decide +kernel
theorem dX16_sourceTurn_118 : decode cX16_sourceTurn 118 = .ok (.aload_n 0, 1) := by decide +kernel
theorem dX16_sourceTurn_119 : decode cX16_sourceTurn 119 = .ok (.getfield 422, 3) := by decide +kernel
theorem dX16_sourceTurn_122 : decode cX16_sourceTurn 122 = .ok (.iload_n 1, 1) := by decide +kernel
theorem dX16_sourceTurn_123 : decode cX16_sourceTurn 123 = .ok (.dup2, 1) := by decide +kernel
theorem dX16_sourceTurn_124 : decode cX16_sourceTurn 124 = .ok (.iaload, 1) := by decide +kernel
theorem dX16_sourceTurn_125 : decode cX16_sourceTurn 125 = .ok (.iconst 1, 1) := by decide +kernel
theorem dX16_sourceTurn_126 : decode cX16_sourceTurn 126 = .ok (.iadd, 1) := by decide +kernel
theorem dX16_sourceTurn_127 : decode cX16_sourceTurn 127 = .ok (.iastore, 1) := by decide +kernel
theorem dX16_sourceTurn_128 : decode cX16_sourceTurn 128 = .ok (.iconst 1, 1) := by decide +kernel
theorem dX16_sourceTurn_129 : decode cX16_sourceTurn 129 = .ok (.ireturn, 1) := by decide +kernel
theorem dX16_sourceTurn_130 : decode cX16_sourceTurn 130 = .ok (.aload_n 0, 1) := by decide +kernel
theorem dX16_sourceTurn_131 : decode cX16_sourceTurn 131 = .ok (.iload_n 3, 1) := by decide +kernel
theorem dX16_sourceTurn_132 : decode cX16_sourceTurn 132 = .ok (.aload_n 0, 1) := by decide +kernel
theorem dX16_sourceTurn_133 : decode cX16_sourceTurn 133 = .ok (.getfield 425, 3) := by decide +kernel
theorem dX16_sourceTurn_136 : decode cX16_sourceTurn 136 = .ok (.iload_n 1, 1) := by decide +kernel
theorem dX16_sourceTurn_137 : decode cX16_sourceTurn 137 = .ok (.iaload, 1) := by decide +kernel
theorem dX16_sourceTurn_138 : decode cX16_sourceTurn 138 = .ok (.iconst 1, 1) := by decide +kernel
theorem dX16_sourceTurn_139 : decode cX16_sourceTurn 139 = .ok (.isub, 1) := by decide +kernel
theorem dX16_sourceTurn_140 : decode cX16_sourceTurn 140 = .ok (.invokevirtual 769, 3) := by decide +kernel
theorem dX16_sourceTurn_143 : decode cX16_sourceTurn 143 = .ok (.istore 5, 2) := by decide +kernel
theorem dX16_sourceTurn_145 : decode cX16_sourceTurn 145 = .ok (.iconst 0, 1) := by decide +kernel
theorem dX16_sourceTurn_146 : decode cX16_sourceTurn 146 = .ok (.istore 6, 2) := by decide +kernel
theorem dX16_sourceTurn_148 : decode cX16_sourceTurn 148 = .ok (.iload 6, 2) := by decide +kernel
theorem dX16_sourceTurn_150 : decode cX16_sourceTurn 150 = .ok (.bipush 8, 2) := by decide +kernel
theorem dX16_sourceTurn_152 : decode cX16_sourceTurn 152 = .ok (.if_icmp .ge 46, 3) := by decide +kernel
theorem dX16_sourceTurn_155 : decode cX16_sourceTurn 155 = .ok (.aload_n 0, 1) := by decide +kernel
theorem dX16_sourceTurn_156 : decode cX16_sourceTurn 156 = .ok (.getfield 542, 3) := by decide +kernel
theorem dX16_sourceTurn_159 : decode cX16_sourceTurn 159 = .ok (.iload 6, 2) := by decide +kernel
theorem dX16_sourceTurn_161 : decode cX16_sourceTurn 161 = .ok (.iload 6, 2) := by decide +kernel
theorem dX16_sourceTurn_163 : decode cX16_sourceTurn 163 = .ok (.aload_n 0, 1) := by decide +kernel
theorem dX16_sourceTurn_164 : decode cX16_sourceTurn 164 = .ok (.getfield 356, 3) := by decide +kernel
theorem dX16_sourceTurn_167 : decode cX16_sourceTurn 167 = .ok (.getfield 178, 3) := by decide +kernel
theorem dX16_sourceTurn_170 : decode cX16_sourceTurn 170 = .ok (.iload_n 2, 1) := by decide +kernel
theorem dX16_sourceTurn_171 : decode cX16_sourceTurn 171 = .ok (.iaload, 1) := by decide +kernel
theorem dX16_sourceTurn_172 : decode cX16_sourceTurn 172 = .ok (.if_icmp .ge 18, 3) := by decide +kernel
theorem dX16_sourceTurn_175 : decode cX16_sourceTurn 175 = .ok (.aload_n 0, 1) := by decide +kernel
theorem dX16_sourceTurn_176 : decode cX16_sourceTurn 176 = .ok (.getfield 772, 3) := by decide +kernel
theorem dX16_sourceTurn_179 : decode cX16_sourceTurn 179 = .ok (.iconst 4, 1) := by decide +kernel
theorem dX16_sourceTurn_180 : decode cX16_sourceTurn 180 = .ok (.iload 4, 2) := by decide +kernel
theorem dX16_sourceTurn_182 : decode cX16_sourceTurn 182 = .ok (.imul, 1) := by decide +kernel
theorem dX16_sourceTurn_183 : decode cX16_sourceTurn 183 = .ok (.iload 6, 2) := by decide +kernel
theorem dX16_sourceTurn_185 : decode cX16_sourceTurn 185 = .ok (.iadd, 1) := by decide +kernel
theorem dX16_sourceTurn_186 : decode cX16_sourceTurn 186 = .ok (.laload, 1) := by decide +kernel
theorem dX16_sourceTurn_187 : decode cX16_sourceTurn 187 = .ok (.goto 4, 3) := by decide +kernel
theorem dX16_sourceTurn_190 : decode cX16_sourceTurn 190 = .ok (.lconst 0, 1) := by decide +kernel
theorem dX16_sourceTurn_191 : decode cX16_sourceTurn 191 = .ok (.lastore, 1) := by decide +kernel
theorem dX16_sourceTurn_192 : decode cX16_sourceTurn 192 = .ok (.iinc 6 1, 3) := by decide +kernel
theorem dX16_sourceTurn_195 : decode cX16_sourceTurn 195 = .ok (.goto (-47), 3) := by decide +kernel
theorem dX16_sourceTurn_198 : decode cX16_sourceTurn 198 = .ok (.aload_n 0, 1) := by decide +kernel
theorem dX16_sourceTurn_199 : decode cX16_sourceTurn 199 = .ok (.iload_n 1, 1) := by decide +kernel
theorem dX16_sourceTurn_200 : decode cX16_sourceTurn 200 = .ok (.aload_n 0, 1) := by decide +kernel
theorem dX16_sourceTurn_201 : decode cX16_sourceTurn 201 = .ok (.getfield 754, 3) := by decide +kernel
theorem dX16_sourceTurn_204 : decode cX16_sourceTurn 204 = .ok (.iload 4, 2) := by decide +kernel
theorem dX16_sourceTurn_206 : decode cX16_sourceTurn 206 = .ok (.laload, 1) := by decide +kernel
theorem dX16_sourceTurn_207 : decode cX16_sourceTurn 207 = .ok (.aload_n 0, 1) := by decide +kernel
theorem dX16_sourceTurn_208 : decode cX16_sourceTurn 208 = .ok (.getfield 542, 3) := by decide +kernel
theorem dX16_sourceTurn_211 : decode cX16_sourceTurn 211 = .ok (.iconst 0, 1) := by decide +kernel
theorem dX16_sourceTurn_212 : decode cX16_sourceTurn 212 = .ok (.iload 5, 2) := by decide +kernel
theorem dX16_sourceTurn_214 : decode cX16_sourceTurn 214 = .ok (.invokevirtual 549, 3) := by decide +kernel
theorem dX16_sourceTurn_217 : decode cX16_sourceTurn 217 = .ok (.aload_n 0, 1) := by decide +kernel
theorem dX16_sourceTurn_218 : decode cX16_sourceTurn 218 = .ok (.iload_n 3, 1) := by decide +kernel
theorem dX16_sourceTurn_219 : decode cX16_sourceTurn 219 = .ok (.aload_n 0, 1) := by decide +kernel
theorem dX16_sourceTurn_220 : decode cX16_sourceTurn 220 = .ok (.getfield 425, 3) := by decide +kernel
theorem dX16_sourceTurn_223 : decode cX16_sourceTurn 223 = .ok (.iload_n 1, 1) := by decide +kernel
theorem dX16_sourceTurn_224 : decode cX16_sourceTurn 224 = .ok (.iaload, 1) := by decide +kernel
theorem dX16_sourceTurn_225 : decode cX16_sourceTurn 225 = .ok (.invokevirtual 775, 3) := by decide +kernel
theorem dX16_sourceTurn_228 : decode cX16_sourceTurn 228 = .ok (.aload_n 0, 1) := by decide +kernel
theorem dX16_sourceTurn_229 : decode cX16_sourceTurn 229 = .ok (.getfield 356, 3) := by decide +kernel
theorem dX16_sourceTurn_232 : decode cX16_sourceTurn 232 = .ok (.getfield 204, 3) := by decide +kernel
theorem dX16_sourceTurn_235 : decode cX16_sourceTurn 235 = .ok (.iload_n 2, 1) := by decide +kernel
theorem dX16_sourceTurn_236 : decode cX16_sourceTurn 236 = .ok (.laload, 1) := by decide +kernel
theorem dX16_sourceTurn_237 : decode cX16_sourceTurn 237 = .ok (.lsub, 1) := by decide +kernel
theorem dX16_sourceTurn_238 : decode cX16_sourceTurn 238 = .ok (.lconst 1, 1) := by decide +kernel
theorem dX16_sourceTurn_239 : decode cX16_sourceTurn 239 = .ok (.lsub, 1) := by decide +kernel
theorem dX16_sourceTurn_240 : decode cX16_sourceTurn 240 = .ok (.lstore 6, 2) := by decide +kernel
theorem dX16_sourceTurn_242 : decode cX16_sourceTurn 242 = .ok (.lload 6, 2) := by decide +kernel
theorem dX16_sourceTurn_244 : decode cX16_sourceTurn 244 = .ok (.aload_n 0, 1) := by decide +kernel
theorem dX16_sourceTurn_245 : decode cX16_sourceTurn 245 = .ok (.getfield 414, 3) := by decide +kernel
theorem dX16_sourceTurn_248 : decode cX16_sourceTurn 248 = .ok (.iload_n 1, 1) := by decide +kernel
theorem dX16_sourceTurn_249 : decode cX16_sourceTurn 249 = .ok (.laload, 1) := by decide +kernel
theorem dX16_sourceTurn_250 : decode cX16_sourceTurn 250 = .ok (.lcmp, 1) := by decide +kernel
theorem dX16_sourceTurn_251 : decode cX16_sourceTurn 251 = .ok (.ifCond .le 19, 3) := by decide +kernel
theorem dX16_sourceTurn_254 : decode cX16_sourceTurn 254 = .ok (.aload_n 0, 1) := by decide +kernel
theorem dX16_sourceTurn_255 : decode cX16_sourceTurn 255 = .ok (.getfield 414, 3) := by decide +kernel
theorem dX16_sourceTurn_258 : decode cX16_sourceTurn 258 = .ok (.iload_n 1, 1) := by decide +kernel
theorem dX16_sourceTurn_259 : decode cX16_sourceTurn 259 = .ok (.lload 6, 2) := by decide +kernel
theorem dX16_sourceTurn_261 : decode cX16_sourceTurn 261 = .ok (.lastore, 1) := by decide +kernel
theorem dX16_sourceTurn_262 : decode cX16_sourceTurn 262 = .ok (.aload_n 0, 1) := by decide +kernel
theorem dX16_sourceTurn_263 : decode cX16_sourceTurn 263 = .ok (.iload_n 1, 1) := by decide +kernel
theorem dX16_sourceTurn_264 : decode cX16_sourceTurn 264 = .ok (.iconst 1, 1) := by decide +kernel
theorem dX16_sourceTurn_265 : decode cX16_sourceTurn 265 = .ok (.lload 6, 2) := by decide +kernel
theorem dX16_sourceTurn_267 : decode cX16_sourceTurn 267 = .ok (.invokevirtual 760, 3) := by decide +kernel
theorem dX16_sourceTurn_270 : decode cX16_sourceTurn 270 = .ok (.iconst 1, 1) := by decide +kernel
theorem dX16_sourceTurn_271 : decode cX16_sourceTurn 271 = .ok (.ireturn, 1) := by decide +kernel
theorem dX16_sourceTurn_272 : decode cX16_sourceTurn 272 = .ok (.aload_n 0, 1) := by decide +kernel
theorem dX16_sourceTurn_273 : decode cX16_sourceTurn 273 = .ok (.getfield 779, 3) := by decide +kernel
theorem dX16_sourceTurn_276 : decode cX16_sourceTurn 276 = .ok (.iload_n 3, 1) := by decide +kernel
theorem dX16_sourceTurn_277 : decode cX16_sourceTurn 277 = .ok (.baload, 1) := by decide +kernel
theorem dX16_sourceTurn_278 : decode cX16_sourceTurn 278 = .ok (.ifCond .eq 36, 3) := by decide +kernel
theorem dX16_sourceTurn_281 : decode cX16_sourceTurn 281 = .ok (.aload_n 0, 1) := by decide +kernel
theorem dX16_sourceTurn_282 : decode cX16_sourceTurn 282 = .ok (.getfield 414, 3) := by decide +kernel
theorem dX16_sourceTurn_285 : decode cX16_sourceTurn 285 = .ok (.iload_n 1, 1) := by decide +kernel
theorem dX16_sourceTurn_286 : decode cX16_sourceTurn 286 = .ok (.laload, 1) := by decide +kernel
theorem dX16_sourceTurn_287 : decode cX16_sourceTurn 287 = .ok (.ldc2_w 782, 3) := by decide +kernel
theorem dX16_sourceTurn_290 : decode cX16_sourceTurn 290 = .ok (.lcmp, 1) := by decide +kernel
theorem dX16_sourceTurn_291 : decode cX16_sourceTurn 291 = .ok (.ifCond .eq 23, 3) := by decide +kernel
theorem dX16_sourceTurn_294 : decode cX16_sourceTurn 294 = .ok (.aload_n 0, 1) := by decide +kernel
theorem dX16_sourceTurn_295 : decode cX16_sourceTurn 295 = .ok (.getfield 414, 3) := by decide +kernel
theorem dX16_sourceTurn_298 : decode cX16_sourceTurn 298 = .ok (.iload_n 1, 1) := by decide +kernel
theorem dX16_sourceTurn_299 : decode cX16_sourceTurn 299 = .ok (.ldc2_w 782, 3) := by decide +kernel
theorem dX16_sourceTurn_302 : decode cX16_sourceTurn 302 = .ok (.lastore, 1) := by decide +kernel
theorem dX16_sourceTurn_303 : decode cX16_sourceTurn 303 = .ok (.aload_n 0, 1) := by decide +kernel
theorem dX16_sourceTurn_304 : decode cX16_sourceTurn 304 = .ok (.iload_n 1, 1) := by decide +kernel
theorem dX16_sourceTurn_305 : decode cX16_sourceTurn 305 = .ok (.iconst 1, 1) := by decide +kernel
theorem dX16_sourceTurn_306 : decode cX16_sourceTurn 306 = .ok (.ldc2_w 782, 3) := by decide +kernel
theorem dX16_sourceTurn_309 : decode cX16_sourceTurn 309 = .ok (.invokevirtual 760, 3) := by decide +kernel
theorem dX16_sourceTurn_312 : decode cX16_sourceTurn 312 = .ok (.iconst 0, 1) := by decide +kernel
theorem dX16_sourceTurn_313 : decode cX16_sourceTurn 313 = .ok (.ireturn, 1) := by decide +kernel
theorem dX16_sourceTurn_314 : decode cX16_sourceTurn 314 = .ok (.iconst (-1), 1) := by decide +kernel
theorem dX16_sourceTurn_315 : decode cX16_sourceTurn 315 = .ok (.ireturn, 1) := by decide +kernel
set_option maxRecDepth 20000 in
theorem a_X16_sourceTurn_314 {Q : Sg → Int → Prop} {X : Sg → String → Prop} (K : MC R p s m args c cX16_sourceTurn 8 RX16 D cA tys A n0 s0 4 104 []) (hQ : HQI p l e R s m args below meth c cX16_sourceTurn D cA A n0 s0 QM dm ra jx rm Q) (hX : HX p l e R s m args below meth c 8 D cA A n0 s0 QM dm ra jx rm X) : ∀ (σ : Sg), w_X16_sourceTurn_314 ra jx rm Q X σ → RG σ → Shp dm ra jx rm σ → JJ p l e R s m args below meth c 8 D cA A n0 s0 QM σ 314 [(0, .ref rm)] [] := by
  intro σ h hGσ hS H locs ls hH hl hc
  have B := K.1
  unfold w_X16_sourceTurn_314 at h
  refine lv_iconst (v := i32 (-1)) B.1 B.2.1 dX16_sourceTurn_314 (by decide) ?_
  exact hQ _ _ _ _ _ _ (by unfold rng; omega) dX16_sourceTurn_315 hH hc h hGσ hS
set_option maxRecDepth 20000 in
theorem a_X16_sourceTurn_294 {Q : Sg → Int → Prop} {X : Sg → String → Prop} (K : MC R p s m args c cX16_sourceTurn 8 RX16 D cA tys A n0 s0 4 104 []) (hQ : HQI p l e R s m args below meth c cX16_sourceTurn D cA A n0 s0 QM dm ra jx rm Q) (hX : HX p l e R s m args below meth c 8 D cA A n0 s0 QM dm ra jx rm X) : ∀ (σ : Sg) (v1 : Int) (g1 : rng v1), w_X16_sourceTurn_294 ra jx rm Q X σ v1 → RG σ → Shp dm ra jx rm σ → JJ p l e R s m args below meth c 8 D cA A n0 s0 QM σ 294 [(0, .ref rm), (1, .int (i32 v1))] [] := by
  intro σ v1 g1 h hGσ hS H locs ls hH hl hc
  have B := K.1
  unfold w_X16_sourceTurn_294 at h
  refine lv_aload_n B.1 B.2.1 dX16_sourceTurn_294 rfl (lv_at hl 0 rfl) ?_
  refine r_arr B hH hS 40 (kd := 101) (n := 64) (by decide) (by decide) wf_X16_414 rfl rfl dX16_sourceTurn_295 ?_
  refine lv_iload_n B.1 B.2.1 dX16_sourceTurn_298 rfl (lv_at hl 1 rfl) ?_
  refine lv_ldc2 B.1 B.2.1 B.2.2.1 (B.2.2.2.1 _ (wk_X16_782)) dX16_sourceTurn_299 ?_
  obtain ⟨q1, h⟩ := h
  obtain ⟨σ39, eσ39⟩ : ∃ z, z = pJ σ (ra 40) v1.toNat 1099511627776 := ⟨_, rfl⟩
  have h := h σ39 eσ39
  refine x_last B K.2.1 hH (hS.ar (k := 40) (kd := 101) (n := 64) (by decide)) (by decide) q1 dX16_sourceTurn_302 (fun H locs hH => ?_)
  have hH : Hd D cA A s (pJ σ (ra 40) v1.toNat 1099511627776) H locs := hH
  rw [← eσ39] at hH
  have hGσ39 : RG σ39 := by rw [eσ39]; exact hGσ.pJ
  have hS : Shp dm ra jx rm σ39 := by rw [eσ39]; exact hS
  have hc : CB n0 s0 σ39 := by rw [eσ39]; exact hc
  rw [show gc σ = gc σ39 by rw [eσ39], show gs σ = gs σ39 by rw [eσ39]]
  refine lv_aload_n B.1 B.2.1 dX16_sourceTurn_303 rfl (lv_at hl 0 rfl) ?_
  refine lv_iload_n B.1 B.2.1 dX16_sourceTurn_304 rfl (lv_at hl 1 rfl) ?_
  refine lv_iconst (v := i32 1) B.1 B.2.1 dX16_sourceTurn_305 (by decide) ?_
  refine lv_ldc2 B.1 B.2.1 B.2.2.1 (B.2.2.2.1 _ (wk_X16_782)) dX16_sourceTurn_306 ?_
  refine c_V B hH hl hc K.2.2.1 (C := RX16) (T := TX16) (N := 123) (ci := 16) (As := [.int (i32 v1), .int (i32 1), .long 1099511627776]) (ok_X16_spread K.2.1 σ39 v1 1 1099511627776 g1 (by unfold rng; omega) hGσ39 hS h) wc_X16_760 3 hd_X16_spread ⟨Nat.le_trans (Nat.le_of_ble_eq_true rfl) K.2.2.2.1, Nat.le_trans (Nat.le_of_ble_eq_true rfl) K.2.2.2.2.1⟩ hS.1.1 hS.1.2 (by decide) rfl rfl (rest := []) rfl (Nat.le_of_ble_eq_true rfl) dX16_sourceTurn_309 (fun σ40 w hq => ?_) (fun σ9 E9 hx9 => hX σ9 E9 _ _ _ (tb_out K.2.2.2.2.2 rfl) hx9.1 hx9.2.1 hx9.2.2)
  obtain ⟨rfl, h, hGσ40, hS⟩ := hq
  intro H locs ls hH hl hc
  refine W.eq (g2 := F0 m 312 ls []) (rfl) ?_
  try dsimp only at h
  refine lv_iconst (v := i32 0) B.1 B.2.1 dX16_sourceTurn_312 (by decide) ?_
  exact hQ _ _ _ _ _ _ (by unfold rng; omega) dX16_sourceTurn_313 hH hc h hGσ40 hS
set_option maxRecDepth 20000 in
theorem a_X16_sourceTurn_281 {Q : Sg → Int → Prop} {X : Sg → String → Prop} (K : MC R p s m args c cX16_sourceTurn 8 RX16 D cA tys A n0 s0 4 104 []) (hQ : HQI p l e R s m args below meth c cX16_sourceTurn D cA A n0 s0 QM dm ra jx rm Q) (hX : HX p l e R s m args below meth c 8 D cA A n0 s0 QM dm ra jx rm X) : ∀ (σ : Sg) (v1 : Int) (g1 : rng v1), w_X16_sourceTurn_281 ra jx rm Q X σ v1 → RG σ → Shp dm ra jx rm σ → JJ p l e R s m args below meth c 8 D cA A n0 s0 QM σ 281 [(0, .ref rm), (1, .int (i32 v1))] [] := by
  intro σ v1 g1 h hGσ hS H locs ls hH hl hc
  have B := K.1
  unfold w_X16_sourceTurn_281 at h
  refine lv_aload_n B.1 B.2.1 dX16_sourceTurn_281 rfl (lv_at hl 0 rfl) ?_
  refine r_arr B hH hS 40 (kd := 101) (n := 64) (by decide) (by decide) wf_X16_414 rfl rfl dX16_sourceTurn_282 ?_
  refine lv_iload_n B.1 B.2.1 dX16_sourceTurn_285 rfl (lv_at hl 1 rfl) ?_
  obtain ⟨q1, h⟩ := h
  refine x_lald B K.2.1 hH (hS.ar (k := 40) (kd := 101) (n := 64) (by decide)) (by decide) q1 dX16_sourceTurn_286 ?_
  refine lv_ldc2 B.1 B.2.1 B.2.2.1 (B.2.2.2.1 _ (wk_X16_782)) dX16_sourceTurn_287 ?_
  refine W.lcmp B.1 B.2.1 dX16_sourceTurn_290 ?_
  refine lv_if_eq (tgt := 314) B.1 B.2.1 dX16_sourceTurn_291 (by decide) (fun h9 => ?_) (fun h9 => ?_)
  · rw [if_pos ((lg_cmp_eq _ _).mp h9)] at h
    exact a_X16_sourceTurn_314 K hQ hX _ h hGσ hS _ _ _ hH (lv_sub (l' := [(0, .ref rm)]) hl [0] rfl) hc
  · rw [if_neg (fun q => h9 ((lg_cmp_eq _ _).mpr q))] at h
    exact a_X16_sourceTurn_294 K hQ hX _ _ g1 h hGσ hS _ _ _ hH (lv_sub (l' := [(0, .ref rm), (1, .int (i32 v1))]) hl [0, 1] rfl) hc
set_option maxRecDepth 20000 in
theorem a_X16_sourceTurn_272 {Q : Sg → Int → Prop} {X : Sg → String → Prop} (K : MC R p s m args c cX16_sourceTurn 8 RX16 D cA tys A n0 s0 4 104 []) (hQ : HQI p l e R s m args below meth c cX16_sourceTurn D cA A n0 s0 QM dm ra jx rm Q) (hX : HX p l e R s m args below meth c 8 D cA A n0 s0 QM dm ra jx rm X) : ∀ (σ : Sg) (v1 : Int) (v3 : Int) (g1 : rng v1) (g3 : rng v3), w_X16_sourceTurn_272 ra jx rm Q X σ v1 v3 → RG σ → Shp dm ra jx rm σ → JJ p l e R s m args below meth c 8 D cA A n0 s0 QM σ 272 [(0, .ref rm), (1, .int (i32 v1)), (3, .int (i32 v3))] [] := by
  intro σ v1 v3 g1 g3 h hGσ hS H locs ls hH hl hc
  have B := K.1
  unfold w_X16_sourceTurn_272 at h
  refine lv_aload_n B.1 B.2.1 dX16_sourceTurn_272 rfl (lv_at hl 0 rfl) ?_
  refine r_arr B hH hS 25 (kd := 103) (n := 4) (by decide) (by decide) wf_X16_779 rfl rfl dX16_sourceTurn_273 ?_
  refine lv_iload_n B.1 B.2.1 dX16_sourceTurn_276 rfl (lv_at hl 2 rfl) ?_
  obtain ⟨q1, h⟩ := h
  refine x_zald B K.2.1 hH (hS.ar (k := 25) (kd := 103) (n := 4) (by decide)) (by decide) q1 dX16_sourceTurn_277 ?_
  refine lv_if_eq (tgt := 314) B.1 B.2.1 dX16_sourceTurn_278 (by decide) (fun h9 => ?_) (fun h9 => ?_)
  · rw [if_pos ((z_eq (hGσ _ _)).mp h9)] at h
    exact a_X16_sourceTurn_314 K hQ hX _ h hGσ hS _ _ _ hH (lv_sub (l' := [(0, .ref rm)]) hl [0] rfl) hc
  · rw [if_neg (fun q => h9 ((z_eq (hGσ _ _)).mpr q))] at h
    exact a_X16_sourceTurn_281 K hQ hX _ _ g1 h hGσ hS _ _ _ hH (lv_sub (l' := [(0, .ref rm), (1, .int (i32 v1))]) hl [0, 1] rfl) hc
set_option maxRecDepth 20000 in
theorem a_X16_sourceTurn_270 {Q : Sg → Int → Prop} {X : Sg → String → Prop} (K : MC R p s m args c cX16_sourceTurn 8 RX16 D cA tys A n0 s0 4 104 []) (hQ : HQI p l e R s m args below meth c cX16_sourceTurn D cA A n0 s0 QM dm ra jx rm Q) (hX : HX p l e R s m args below meth c 8 D cA A n0 s0 QM dm ra jx rm X) : ∀ (σ : Sg), w_X16_sourceTurn_270 ra jx rm Q X σ → RG σ → Shp dm ra jx rm σ → JJ p l e R s m args below meth c 8 D cA A n0 s0 QM σ 270 [(0, .ref rm)] [] := by
  intro σ h hGσ hS H locs ls hH hl hc
  have B := K.1
  unfold w_X16_sourceTurn_270 at h
  refine lv_iconst (v := i32 1) B.1 B.2.1 dX16_sourceTurn_270 (by decide) ?_
  exact hQ _ _ _ _ _ _ (by unfold rng; omega) dX16_sourceTurn_271 hH hc h hGσ hS
set_option maxRecDepth 20000 in
theorem a_X16_sourceTurn_254 {Q : Sg → Int → Prop} {X : Sg → String → Prop} (K : MC R p s m args c cX16_sourceTurn 8 RX16 D cA tys A n0 s0 4 104 []) (hQ : HQI p l e R s m args below meth c cX16_sourceTurn D cA A n0 s0 QM dm ra jx rm Q) (hX : HX p l e R s m args below meth c 8 D cA A n0 s0 QM dm ra jx rm X) : ∀ (σ : Sg) (v1 : Int) (v6 : Int64) (g1 : rng v1), w_X16_sourceTurn_254 ra jx rm Q X σ v1 v6 → RG σ → Shp dm ra jx rm σ → JJ p l e R s m args below meth c 8 D cA A n0 s0 QM σ 254 [(0, .ref rm), (1, .int (i32 v1)), (6, .long v6)] [] := by
  intro σ v1 v6 g1 h hGσ hS H locs ls hH hl hc
  have B := K.1
  unfold w_X16_sourceTurn_254 at h
  refine lv_aload_n B.1 B.2.1 dX16_sourceTurn_254 rfl (lv_at hl 0 rfl) ?_
  refine r_arr B hH hS 40 (kd := 101) (n := 64) (by decide) (by decide) wf_X16_414 rfl rfl dX16_sourceTurn_255 ?_
  refine lv_iload_n B.1 B.2.1 dX16_sourceTurn_258 rfl (lv_at hl 1 rfl) ?_
  refine lv_lload B.1 B.2.1 dX16_sourceTurn_259 (lv_at hl 2 rfl) ?_
  obtain ⟨q1, h⟩ := h
  obtain ⟨σ41, eσ41⟩ : ∃ z, z = pJ σ (ra 40) v1.toNat v6 := ⟨_, rfl⟩
  have h := h σ41 eσ41
  refine x_last B K.2.1 hH (hS.ar (k := 40) (kd := 101) (n := 64) (by decide)) (by decide) q1 dX16_sourceTurn_261 (fun H locs hH => ?_)
  have hH : Hd D cA A s (pJ σ (ra 40) v1.toNat v6) H locs := hH
  rw [← eσ41] at hH
  have hGσ41 : RG σ41 := by rw [eσ41]; exact hGσ.pJ
  have hS : Shp dm ra jx rm σ41 := by rw [eσ41]; exact hS
  have hc : CB n0 s0 σ41 := by rw [eσ41]; exact hc
  rw [show gc σ = gc σ41 by rw [eσ41], show gs σ = gs σ41 by rw [eσ41]]
  refine lv_aload_n B.1 B.2.1 dX16_sourceTurn_262 rfl (lv_at hl 0 rfl) ?_
  refine lv_iload_n B.1 B.2.1 dX16_sourceTurn_263 rfl (lv_at hl 1 rfl) ?_
  refine lv_iconst (v := i32 1) B.1 B.2.1 dX16_sourceTurn_264 (by decide) ?_
  refine lv_lload B.1 B.2.1 dX16_sourceTurn_265 (lv_at hl 2 rfl) ?_
  refine c_V B hH hl hc K.2.2.1 (C := RX16) (T := TX16) (N := 123) (ci := 16) (As := [.int (i32 v1), .int (i32 1), .long v6]) (ok_X16_spread K.2.1 σ41 v1 1 v6 g1 (by unfold rng; omega) hGσ41 hS h) wc_X16_760 3 hd_X16_spread ⟨Nat.le_trans (Nat.le_of_ble_eq_true rfl) K.2.2.2.1, Nat.le_trans (Nat.le_of_ble_eq_true rfl) K.2.2.2.2.1⟩ hS.1.1 hS.1.2 (by decide) rfl rfl (rest := []) rfl (Nat.le_of_ble_eq_true rfl) dX16_sourceTurn_267 (fun σ42 w hq => ?_) (fun σ9 E9 hx9 => hX σ9 E9 _ _ _ (tb_out K.2.2.2.2.2 rfl) hx9.1 hx9.2.1 hx9.2.2)
  obtain ⟨rfl, h, hGσ42, hS⟩ := hq
  intro H locs ls hH hl hc
  refine W.eq (g2 := F0 m 270 ls []) (rfl) ?_
  try dsimp only at h
  exact a_X16_sourceTurn_270 K hQ hX _ h hGσ42 hS _ _ _ hH (lv_sub (l' := [(0, .ref rm)]) hl [0] rfl) hc
set_option maxRecDepth 20000 in
theorem a_X16_sourceTurn_198 {Q : Sg → Int → Prop} {X : Sg → String → Prop} (K : MC R p s m args c cX16_sourceTurn 8 RX16 D cA tys A n0 s0 4 104 []) (hQ : HQI p l e R s m args below meth c cX16_sourceTurn D cA A n0 s0 QM dm ra jx rm Q) (hX : HX p l e R s m args below meth c 8 D cA A n0 s0 QM dm ra jx rm X) : ∀ (σ : Sg) (v1 : Int) (v2 : Int) (v3 : Int) (v4 : Int) (v5 : Int) (g1 : rng v1) (g2 : rng v2) (g3 : rng v3) (g4 : rng v4) (g5 : rng v5), w_X16_sourceTurn_198 ra jx rm Q X σ v1 v2 v3 v4 v5 → RG σ → Shp dm ra jx rm σ → JJ p l e R s m args below meth c 8 D cA A n0 s0 QM σ 198 [(0, .ref rm), (1, .int (i32 v1)), (2, .int (i32 v2)), (3, .int (i32 v3)), (4, .int (i32 v4)), (5, .int (i32 v5))] [] := by
  intro σ v1 v2 v3 v4 v5 g1 g2 g3 g4 g5 h hGσ hS H locs ls hH hl hc
  have B := K.1
  unfold w_X16_sourceTurn_198 at h
  refine lv_aload_n B.1 B.2.1 dX16_sourceTurn_198 rfl (lv_at hl 0 rfl) ?_
  refine lv_iload_n B.1 B.2.1 dX16_sourceTurn_199 rfl (lv_at hl 1 rfl) ?_
  refine lv_aload_n B.1 B.2.1 dX16_sourceTurn_200 rfl (lv_at hl 0 rfl) ?_
  refine r_arr B hH hS 23 (kd := 101) (n := 256) (by decide) (by decide) wf_X16_754 rfl rfl dX16_sourceTurn_201 ?_
  refine lv_iload B.1 B.2.1 dX16_sourceTurn_204 (lv_at hl 4 rfl) ?_
  obtain ⟨q1, h⟩ := h
  refine x_lald B K.2.1 hH (hS.ar (k := 23) (kd := 101) (n := 256) (by decide)) (by decide) q1 dX16_sourceTurn_206 ?_
  refine lv_aload_n B.1 B.2.1 dX16_sourceTurn_207 rfl (lv_at hl 0 rfl) ?_
  refine r_arr B hH hS 81 (kd := 101) (n := 8) (by decide) (by decide) wf_X16_542 rfl rfl dX16_sourceTurn_208 ?_
  refine lv_iconst (v := i32 0) B.1 B.2.1 dX16_sourceTurn_211 (by decide) ?_
  refine lv_iload B.1 B.2.1 dX16_sourceTurn_212 (lv_at hl 5 rfl) ?_
  refine c_V B hH hl hc K.2.2.1 (C := RX16) (T := TX16) (N := 123) (ci := 16) (As := [.int (i32 v1), .long (gJ σ (ra 23) v4.toNat), va_rf (some (ra 81)), .int (i32 0), .int (i32 v5)]) (ok_X16_emit K.2.1 σ v1 (gJ σ (ra 23) v4.toNat) (some (ra 81)) 0 v5 g1 (by unfold rng; omega) g5 hGσ hS h) wc_X16_549 5 hd_X16_emit ⟨Nat.le_trans (Nat.le_of_ble_eq_true rfl) K.2.2.2.1, Nat.le_trans (Nat.le_of_ble_eq_true rfl) K.2.2.2.2.1⟩ hS.1.1 hS.1.2 (by decide) rfl rfl (rest := []) rfl (Nat.le_of_ble_eq_true rfl) dX16_sourceTurn_214 (fun σ43 w hq => ?_) (fun σ9 E9 hx9 => hX σ9 E9 _ _ _ (tb_out K.2.2.2.2.2 rfl) hx9.1 hx9.2.1 hx9.2.2)
  obtain ⟨rfl, h, hGσ43, hS⟩ := hq
  intro H locs ls hH hl hc
  refine W.eq (g2 := F0 m 217 ls []) (rfl) ?_
  try dsimp only at h
  refine lv_aload_n B.1 B.2.1 dX16_sourceTurn_217 rfl (lv_at hl 0 rfl) ?_
  refine lv_iload_n B.1 B.2.1 dX16_sourceTurn_218 rfl (lv_at hl 3 rfl) ?_
  refine lv_aload_n B.1 B.2.1 dX16_sourceTurn_219 rfl (lv_at hl 0 rfl) ?_
  refine r_arr B hH hS 43 (kd := 100) (n := 64) (by decide) (by decide) wf_X16_425 rfl rfl dX16_sourceTurn_220 ?_
  refine lv_iload_n B.1 B.2.1 dX16_sourceTurn_223 rfl (lv_at hl 1 rfl) ?_
  obtain ⟨q2, h⟩ := h
  refine x_iald B K.2.1 hH (hS.ar (k := 43) (kd := 100) (n := 64) (by decide)) (by decide) q2 dX16_sourceTurn_224 ?_
  refine c_V B hH hl hc K.2.2.1 (C := RX16) (T := TX16) (N := 123) (ci := 16) (As := [.int (i32 v3), .int (i32 (gI σ43 (ra 43) v1.toNat))]) (ok_X16_readSoFar K.2.1 σ43 v3 (gI σ43 (ra 43) v1.toNat) g3 (hGσ43 _ _) hGσ43 hS h) wc_X16_775 2 hd_X16_readSoFar ⟨Nat.le_trans (Nat.le_of_ble_eq_true rfl) K.2.2.2.1, Nat.le_trans (Nat.le_of_ble_eq_true rfl) K.2.2.2.2.1⟩ hS.1.1 hS.1.2 (by decide) rfl rfl (rest := []) rfl (Nat.le_of_ble_eq_true rfl) dX16_sourceTurn_225 (fun σ44 w hq => ?_) (fun σ9 E9 hx9 => hX σ9 E9 _ _ _ (tb_out K.2.2.2.2.2 rfl) hx9.1 hx9.2.1 hx9.2.2)
  obtain ⟨r45, rfl, h, hGσ44, hS⟩ := hq
  intro H locs ls hH hl hc
  refine W.eq (g2 := F0 m 228 ls [.long r45]) (rfl) ?_
  try dsimp only at h
  refine lv_aload_n B.1 B.2.1 dX16_sourceTurn_228 rfl (lv_at hl 0 rfl) ?_
  refine r_getp B hH hS 17 (by decide) wf_X16_356 rfl rfl dX16_sourceTurn_229 ?_
  obtain ⟨a46, ea46, ja46, h⟩ := h
  refine W.eq (g2 := F0 m 232 ls [.ref a46, .long r45]) (by rw [ea46]; rfl) ?_
  refine n_arr B hH hS ja46 9 (kd := 101) (n := 16) (by decide) (by decide) (List.mem_of_getElem? (i := 9) rfl) rfl dX16_sourceTurn_232 ?_
  refine lv_iload_n B.1 B.2.1 dX16_sourceTurn_235 rfl (lv_at hl 2 rfl) ?_
  obtain ⟨q4, h⟩ := h
  refine x_lald B K.2.1 hH (hS.ja ja46 (k := 9) (kd := 101) (n := 16) (by decide)) (by decide) q4 dX16_sourceTurn_236 ?_
  refine lv_lsub B.1 B.2.1 dX16_sourceTurn_237 ?_
  refine lv_lconst (v := 1) B.1 B.2.1 dX16_sourceTurn_238 (by decide) ?_
  refine lv_lsub B.1 B.2.1 dX16_sourceTurn_239 ?_
  refine lv_lstore (lv' := [(6, .long ((r45 - (gJ σ44 (jx a46 9) v2.toNat)) - 1)), (0, .ref rm), (1, .int (i32 v1)), (2, .int (i32 v2)), (3, .int (i32 v3)), (4, .int (i32 v4)), (5, .int (i32 v5))]) B.1 B.2.1 dX16_sourceTurn_240 hl (by decide) rfl (fun ls hl => ?_)
  refine lv_lload B.1 B.2.1 dX16_sourceTurn_242 (lv_at hl 0 rfl) ?_
  refine lv_aload_n B.1 B.2.1 dX16_sourceTurn_244 rfl (lv_at hl 1 rfl) ?_
  refine r_arr B hH hS 40 (kd := 101) (n := 64) (by decide) (by decide) wf_X16_414 rfl rfl dX16_sourceTurn_245 ?_
  refine lv_iload_n B.1 B.2.1 dX16_sourceTurn_248 rfl (lv_at hl 2 rfl) ?_
  obtain ⟨q5, h⟩ := h
  refine x_lald B K.2.1 hH (hS.ar (k := 40) (kd := 101) (n := 64) (by decide)) (by decide) q5 dX16_sourceTurn_249 ?_
  refine W.lcmp B.1 B.2.1 dX16_sourceTurn_250 ?_
  refine lv_if_le (tgt := 270) B.1 B.2.1 dX16_sourceTurn_251 (by decide) (fun h9 => ?_) (fun h9 => ?_)
  · rw [if_pos ((lg_cmp_le _ _).mp h9)] at h
    exact a_X16_sourceTurn_270 K hQ hX _ h hGσ44 hS _ _ _ hH (lv_sub (l' := [(0, .ref rm)]) hl [1] rfl) hc
  · rw [if_neg (fun q => h9 ((lg_cmp_le _ _).mpr q))] at h
    exact a_X16_sourceTurn_254 K hQ hX _ _ _ g1 h hGσ44 hS _ _ _ hH (lv_sub (l' := [(0, .ref rm), (1, .int (i32 v1)), (6, .long ((r45 - (gJ σ44 (jx a46 9) v2.toNat)) - 1))]) hl [1, 2, 0] rfl) hc
set_option maxRecDepth 20000 in
theorem a_X16_sourceTurn_191 {Q : Sg → Int → Prop} {X : Sg → String → Prop} (K : MC R p s m args c cX16_sourceTurn 8 RX16 D cA tys A n0 s0 4 104 []) (hQ : HQI p l e R s m args below meth c cX16_sourceTurn D cA A n0 s0 QM dm ra jx rm Q) (hX : HX p l e R s m args below meth c 8 D cA A n0 s0 QM dm ra jx rm X) {K148 : Sg → Int → Int → Int → Int → Int → Int → Prop} (hK148 : ∀ (σ : Sg) (v1 : Int) (v2 : Int) (v3 : Int) (v4 : Int) (v5 : Int) (v6 : Int) (g1 : rng v1) (g2 : rng v2) (g3 : rng v3) (g4 : rng v4) (g5 : rng v5) (g6 : rng v6), K148 σ v1 v2 v3 v4 v5 v6 → RG σ → Shp dm ra jx rm σ → JJ p l e R s m args below meth c 8 D cA A n0 s0 QM σ 148 [(0, .ref rm), (1, .int (i32 v1)), (2, .int (i32 v2)), (3, .int (i32 v3)), (4, .int (i32 v4)), (5, .int (i32 v5)), (6, .int (i32 v6))] []) : ∀ (σ : Sg) (v1 : Int) (v2 : Int) (v3 : Int) (v4 : Int) (v5 : Int) (v6 : Int) (u0 : Int64) (u1 : Int) (g1 : rng v1) (g2 : rng v2) (g3 : rng v3) (g4 : rng v4) (g5 : rng v5) (g6 : rng v6) (gu1 : rng u1), w_X16_sourceTurn_191 ra jx rm K148 Q X σ v1 v2 v3 v4 v5 v6 u0 u1 → RG σ → Shp dm ra jx rm σ → JJ p l e R s m args below meth c 8 D cA A n0 s0 QM σ 191 [(0, .ref rm), (1, .int (i32 v1)), (2, .int (i32 v2)), (3, .int (i32 v3)), (4, .int (i32 v4)), (5, .int (i32 v5)), (6, .int (i32 v6))] [.long u0, .int (i32 u1), .ref (ra 81)] := by
  intro σ v1 v2 v3 v4 v5 v6 u0 u1 g1 g2 g3 g4 g5 g6 gu1 h hGσ hS H locs ls hH hl hc
  have B := K.1
  unfold w_X16_sourceTurn_191 at h
  obtain ⟨q1, h⟩ := h
  obtain ⟨σ47, eσ47⟩ : ∃ z, z = pJ σ (ra 81) u1.toNat u0 := ⟨_, rfl⟩
  have h := h σ47 eσ47
  refine x_last B K.2.1 hH (hS.ar (k := 81) (kd := 101) (n := 8) (by decide)) (by decide) q1 dX16_sourceTurn_191 (fun H locs hH => ?_)
  have hH : Hd D cA A s (pJ σ (ra 81) u1.toNat u0) H locs := hH
  rw [← eσ47] at hH
  have hGσ47 : RG σ47 := by rw [eσ47]; exact hGσ.pJ
  have hS : Shp dm ra jx rm σ47 := by rw [eσ47]; exact hS
  have hc : CB n0 s0 σ47 := by rw [eσ47]; exact hc
  rw [show gc σ = gc σ47 by rw [eσ47], show gs σ = gs σ47 by rw [eσ47]]
  obtain ⟨q3, h⟩ := h
  refine lv_iinc (k := 6) (v := i32 (v6 + 1)) (lv' := [(6, .int (i32 (v6 + 1))), (0, .ref rm), (1, .int (i32 v1)), (2, .int (i32 v2)), (3, .int (i32 v3)), (4, .int (i32 v4)), (5, .int (i32 v5))]) B.1 B.2.1 dX16_sourceTurn_192 hl rfl (i32_add _ _) (by decide) rfl (fun ls hl => ?_)
  refine lv_goto (tgt := 148) B.1 B.2.1 dX16_sourceTurn_195 (by decide) ?_
  exact hK148 _ _ _ _ _ _ _ g1 g2 g3 g4 g5 q3 h hGσ47 hS _ _ _ hH (lv_sub (l' := [(0, .ref rm), (1, .int (i32 v1)), (2, .int (i32 v2)), (3, .int (i32 v3)), (4, .int (i32 v4)), (5, .int (i32 v5)), (6, .int (i32 (v6 + 1)))]) hl [1, 2, 3, 4, 5, 6, 0] rfl) hc
set_option maxRecDepth 20000 in
theorem a_X16_sourceTurn_190 {Q : Sg → Int → Prop} {X : Sg → String → Prop} (K : MC R p s m args c cX16_sourceTurn 8 RX16 D cA tys A n0 s0 4 104 []) (hQ : HQI p l e R s m args below meth c cX16_sourceTurn D cA A n0 s0 QM dm ra jx rm Q) (hX : HX p l e R s m args below meth c 8 D cA A n0 s0 QM dm ra jx rm X) {K148 : Sg → Int → Int → Int → Int → Int → Int → Prop} (hK148 : ∀ (σ : Sg) (v1 : Int) (v2 : Int) (v3 : Int) (v4 : Int) (v5 : Int) (v6 : Int) (g1 : rng v1) (g2 : rng v2) (g3 : rng v3) (g4 : rng v4) (g5 : rng v5) (g6 : rng v6), K148 σ v1 v2 v3 v4 v5 v6 → RG σ → Shp dm ra jx rm σ → JJ p l e R s m args below meth c 8 D cA A n0 s0 QM σ 148 [(0, .ref rm), (1, .int (i32 v1)), (2, .int (i32 v2)), (3, .int (i32 v3)), (4, .int (i32 v4)), (5, .int (i32 v5)), (6, .int (i32 v6))] []) : ∀ (σ : Sg) (v1 : Int) (v2 : Int) (v3 : Int) (v4 : Int) (v5 : Int) (v6 : Int) (u0 : Int) (g1 : rng v1) (g2 : rng v2) (g3 : rng v3) (g4 : rng v4) (g5 : rng v5) (g6 : rng v6) (gu0 : rng u0), w_X16_sourceTurn_190 ra jx rm K148 Q X σ v1 v2 v3 v4 v5 v6 u0 → RG σ → Shp dm ra jx rm σ → JJ p l e R s m args below meth c 8 D cA A n0 s0 QM σ 190 [(0, .ref rm), (1, .int (i32 v1)), (2, .int (i32 v2)), (3, .int (i32 v3)), (4, .int (i32 v4)), (5, .int (i32 v5)), (6, .int (i32 v6))] [.int (i32 u0), .ref (ra 81)] := by
  intro σ v1 v2 v3 v4 v5 v6 u0 g1 g2 g3 g4 g5 g6 gu0 h hGσ hS H locs ls hH hl hc
  have B := K.1
  unfold w_X16_sourceTurn_190 at h
  refine lv_lconst (v := 0) B.1 B.2.1 dX16_sourceTurn_190 (by decide) ?_
  exact a_X16_sourceTurn_191 K hQ hX hK148 _ _ _ _ _ _ _ _ _ g1 g2 g3 g4 g5 g6 gu0 h hGσ hS _ _ _ hH (lv_sub (l' := [(0, .ref rm), (1, .int (i32 v1)), (2, .int (i32 v2)), (3, .int (i32 v3)), (4, .int (i32 v4)), (5, .int (i32 v5)), (6, .int (i32 v6))]) hl [0, 1, 2, 3, 4, 5, 6] rfl) hc
set_option maxRecDepth 20000 in
theorem a_X16_sourceTurn_175 {Q : Sg → Int → Prop} {X : Sg → String → Prop} (K : MC R p s m args c cX16_sourceTurn 8 RX16 D cA tys A n0 s0 4 104 []) (hQ : HQI p l e R s m args below meth c cX16_sourceTurn D cA A n0 s0 QM dm ra jx rm Q) (hX : HX p l e R s m args below meth c 8 D cA A n0 s0 QM dm ra jx rm X) {K148 : Sg → Int → Int → Int → Int → Int → Int → Prop} (hK148 : ∀ (σ : Sg) (v1 : Int) (v2 : Int) (v3 : Int) (v4 : Int) (v5 : Int) (v6 : Int) (g1 : rng v1) (g2 : rng v2) (g3 : rng v3) (g4 : rng v4) (g5 : rng v5) (g6 : rng v6), K148 σ v1 v2 v3 v4 v5 v6 → RG σ → Shp dm ra jx rm σ → JJ p l e R s m args below meth c 8 D cA A n0 s0 QM σ 148 [(0, .ref rm), (1, .int (i32 v1)), (2, .int (i32 v2)), (3, .int (i32 v3)), (4, .int (i32 v4)), (5, .int (i32 v5)), (6, .int (i32 v6))] []) : ∀ (σ : Sg) (v1 : Int) (v2 : Int) (v3 : Int) (v4 : Int) (v5 : Int) (v6 : Int) (u0 : Int) (g1 : rng v1) (g2 : rng v2) (g3 : rng v3) (g4 : rng v4) (g5 : rng v5) (g6 : rng v6) (gu0 : rng u0), w_X16_sourceTurn_175 ra jx rm K148 Q X σ v1 v2 v3 v4 v5 v6 u0 → RG σ → Shp dm ra jx rm σ → JJ p l e R s m args below meth c 8 D cA A n0 s0 QM σ 175 [(0, .ref rm), (1, .int (i32 v1)), (2, .int (i32 v2)), (3, .int (i32 v3)), (4, .int (i32 v4)), (5, .int (i32 v5)), (6, .int (i32 v6))] [.int (i32 u0), .ref (ra 81)] := by
  intro σ v1 v2 v3 v4 v5 v6 u0 g1 g2 g3 g4 g5 g6 gu0 h hGσ hS H locs ls hH hl hc
  have B := K.1
  unfold w_X16_sourceTurn_175 at h
  refine lv_aload_n B.1 B.2.1 dX16_sourceTurn_175 rfl (lv_at hl 0 rfl) ?_
  refine r_arr B hH hS 24 (kd := 101) (n := 1024) (by decide) (by decide) wf_X16_772 rfl rfl dX16_sourceTurn_176 ?_
  refine lv_iconst (v := i32 4) B.1 B.2.1 dX16_sourceTurn_179 (by decide) ?_
  refine lv_iload B.1 B.2.1 dX16_sourceTurn_180 (lv_at hl 4 rfl) ?_
  obtain ⟨q1, h⟩ := h
  refine lv_imul B.1 B.2.1 dX16_sourceTurn_182 ?_
  rw [i32_mul]
  refine lv_iload B.1 B.2.1 dX16_sourceTurn_183 (lv_at hl 6 rfl) ?_
  obtain ⟨q2, h⟩ := h
  refine lv_iadd B.1 B.2.1 dX16_sourceTurn_185 ?_
  rw [i32_add]
  obtain ⟨q3, h⟩ := h
  refine x_lald B K.2.1 hH (hS.ar (k := 24) (kd := 101) (n := 1024) (by decide)) (by decide) q3 dX16_sourceTurn_186 ?_
  refine lv_goto (tgt := 191) B.1 B.2.1 dX16_sourceTurn_187 (by decide) ?_
  exact a_X16_sourceTurn_191 K hQ hX hK148 _ _ _ _ _ _ _ _ _ g1 g2 g3 g4 g5 g6 gu0 h hGσ hS _ _ _ hH (lv_sub (l' := [(0, .ref rm), (1, .int (i32 v1)), (2, .int (i32 v2)), (3, .int (i32 v3)), (4, .int (i32 v4)), (5, .int (i32 v5)), (6, .int (i32 v6))]) hl [0, 1, 2, 3, 4, 5, 6] rfl) hc
set_option maxRecDepth 20000 in
theorem a_X16_sourceTurn_155 {Q : Sg → Int → Prop} {X : Sg → String → Prop} (K : MC R p s m args c cX16_sourceTurn 8 RX16 D cA tys A n0 s0 4 104 []) (hQ : HQI p l e R s m args below meth c cX16_sourceTurn D cA A n0 s0 QM dm ra jx rm Q) (hX : HX p l e R s m args below meth c 8 D cA A n0 s0 QM dm ra jx rm X) {K148 : Sg → Int → Int → Int → Int → Int → Int → Prop} (hK148 : ∀ (σ : Sg) (v1 : Int) (v2 : Int) (v3 : Int) (v4 : Int) (v5 : Int) (v6 : Int) (g1 : rng v1) (g2 : rng v2) (g3 : rng v3) (g4 : rng v4) (g5 : rng v5) (g6 : rng v6), K148 σ v1 v2 v3 v4 v5 v6 → RG σ → Shp dm ra jx rm σ → JJ p l e R s m args below meth c 8 D cA A n0 s0 QM σ 148 [(0, .ref rm), (1, .int (i32 v1)), (2, .int (i32 v2)), (3, .int (i32 v3)), (4, .int (i32 v4)), (5, .int (i32 v5)), (6, .int (i32 v6))] []) : ∀ (σ : Sg) (v1 : Int) (v2 : Int) (v3 : Int) (v4 : Int) (v5 : Int) (v6 : Int) (g1 : rng v1) (g2 : rng v2) (g3 : rng v3) (g4 : rng v4) (g5 : rng v5) (g6 : rng v6), w_X16_sourceTurn_155 ra jx rm K148 Q X σ v1 v2 v3 v4 v5 v6 → RG σ → Shp dm ra jx rm σ → JJ p l e R s m args below meth c 8 D cA A n0 s0 QM σ 155 [(0, .ref rm), (1, .int (i32 v1)), (2, .int (i32 v2)), (3, .int (i32 v3)), (4, .int (i32 v4)), (5, .int (i32 v5)), (6, .int (i32 v6))] [] := by
  intro σ v1 v2 v3 v4 v5 v6 g1 g2 g3 g4 g5 g6 h hGσ hS H locs ls hH hl hc
  have B := K.1
  unfold w_X16_sourceTurn_155 at h
  refine lv_aload_n B.1 B.2.1 dX16_sourceTurn_155 rfl (lv_at hl 0 rfl) ?_
  refine r_arr B hH hS 81 (kd := 101) (n := 8) (by decide) (by decide) wf_X16_542 rfl rfl dX16_sourceTurn_156 ?_
  refine lv_iload B.1 B.2.1 dX16_sourceTurn_159 (lv_at hl 6 rfl) ?_
  refine lv_iload B.1 B.2.1 dX16_sourceTurn_161 (lv_at hl 6 rfl) ?_
  refine lv_aload_n B.1 B.2.1 dX16_sourceTurn_163 rfl (lv_at hl 0 rfl) ?_
  refine r_getp B hH hS 17 (by decide) wf_X16_356 rfl rfl dX16_sourceTurn_164 ?_
  obtain ⟨a48, ea48, ja48, h⟩ := h
  refine W.eq (g2 := F0 m 167 ls [.ref a48, .int (i32 v6), .int (i32 v6), .ref (ra 81)]) (by rw [ea48]; rfl) ?_
  refine n_arr B hH hS ja48 6 (kd := 100) (n := 16) (by decide) (by decide) (List.mem_of_getElem? (i := 6) rfl) rfl dX16_sourceTurn_167 ?_
  refine lv_iload_n B.1 B.2.1 dX16_sourceTurn_170 rfl (lv_at hl 2 rfl) ?_
  obtain ⟨q2, h⟩ := h
  refine x_iald B K.2.1 hH (hS.ja ja48 (k := 6) (kd := 100) (n := 16) (by decide)) (by decide) q2 dX16_sourceTurn_171 ?_
  refine lv_icmp_ge (tgt := 190) B.1 B.2.1 dX16_sourceTurn_172 (by decide) (fun h9 => ?_) (fun h9 => ?_)
  · rw [if_pos ((i32_le (hGσ _ _) g6).mp h9)] at h
    exact a_X16_sourceTurn_190 K hQ hX hK148 _ _ _ _ _ _ _ _ g1 g2 g3 g4 g5 g6 g6 h hGσ hS _ _ _ hH (lv_sub (l' := [(0, .ref rm), (1, .int (i32 v1)), (2, .int (i32 v2)), (3, .int (i32 v3)), (4, .int (i32 v4)), (5, .int (i32 v5)), (6, .int (i32 v6))]) hl [0, 1, 2, 3, 4, 5, 6] rfl) hc
  · rw [if_neg (fun q => h9 ((i32_le (hGσ _ _) g6).mpr q))] at h
    exact a_X16_sourceTurn_175 K hQ hX hK148 _ _ _ _ _ _ _ _ g1 g2 g3 g4 g5 g6 g6 h hGσ hS _ _ _ hH (lv_sub (l' := [(0, .ref rm), (1, .int (i32 v1)), (2, .int (i32 v2)), (3, .int (i32 v3)), (4, .int (i32 v4)), (5, .int (i32 v5)), (6, .int (i32 v6))]) hl [0, 1, 2, 3, 4, 5, 6] rfl) hc
set_option maxRecDepth 20000 in
theorem a_X16_sourceTurn_148 {Q : Sg → Int → Prop} {X : Sg → String → Prop} (K : MC R p s m args c cX16_sourceTurn 8 RX16 D cA tys A n0 s0 4 104 []) (hQ : HQI p l e R s m args below meth c cX16_sourceTurn D cA A n0 s0 QM dm ra jx rm Q) (hX : HX p l e R s m args below meth c 8 D cA A n0 s0 QM dm ra jx rm X) {K148 : Sg → Int → Int → Int → Int → Int → Int → Prop} (hK148 : ∀ (σ : Sg) (v1 : Int) (v2 : Int) (v3 : Int) (v4 : Int) (v5 : Int) (v6 : Int) (g1 : rng v1) (g2 : rng v2) (g3 : rng v3) (g4 : rng v4) (g5 : rng v5) (g6 : rng v6), K148 σ v1 v2 v3 v4 v5 v6 → RG σ → Shp dm ra jx rm σ → JJ p l e R s m args below meth c 8 D cA A n0 s0 QM σ 148 [(0, .ref rm), (1, .int (i32 v1)), (2, .int (i32 v2)), (3, .int (i32 v3)), (4, .int (i32 v4)), (5, .int (i32 v5)), (6, .int (i32 v6))] []) : ∀ (σ : Sg) (v1 : Int) (v2 : Int) (v3 : Int) (v4 : Int) (v5 : Int) (v6 : Int) (g1 : rng v1) (g2 : rng v2) (g3 : rng v3) (g4 : rng v4) (g5 : rng v5) (g6 : rng v6), w_X16_sourceTurn_148 ra jx rm K148 Q X σ v1 v2 v3 v4 v5 v6 → RG σ → Shp dm ra jx rm σ → JJ p l e R s m args below meth c 8 D cA A n0 s0 QM σ 148 [(0, .ref rm), (1, .int (i32 v1)), (2, .int (i32 v2)), (3, .int (i32 v3)), (4, .int (i32 v4)), (5, .int (i32 v5)), (6, .int (i32 v6))] [] := by
  intro σ v1 v2 v3 v4 v5 v6 g1 g2 g3 g4 g5 g6 h hGσ hS H locs ls hH hl hc
  have B := K.1
  unfold w_X16_sourceTurn_148 at h
  refine lv_iload B.1 B.2.1 dX16_sourceTurn_148 (lv_at hl 6 rfl) ?_
  refine lv_bipush (v := i32 8) B.1 B.2.1 dX16_sourceTurn_150 (by decide) ?_
  refine lv_icmp_ge (tgt := 198) B.1 B.2.1 dX16_sourceTurn_152 (by decide) (fun h9 => ?_) (fun h9 => ?_)
  · rw [if_pos ((i32_le (by unfold rng; omega) g6).mp h9)] at h
    exact a_X16_sourceTurn_198 K hQ hX _ _ _ _ _ _ g1 g2 g3 g4 g5 h hGσ hS _ _ _ hH (lv_sub (l' := [(0, .ref rm), (1, .int (i32 v1)), (2, .int (i32 v2)), (3, .int (i32 v3)), (4, .int (i32 v4)), (5, .int (i32 v5))]) hl [0, 1, 2, 3, 4, 5] rfl) hc
  · rw [if_neg (fun q => h9 ((i32_le (by unfold rng; omega) g6).mpr q))] at h
    exact a_X16_sourceTurn_155 K hQ hX hK148 _ _ _ _ _ _ _ g1 g2 g3 g4 g5 g6 h hGσ hS _ _ _ hH (lv_sub (l' := [(0, .ref rm), (1, .int (i32 v1)), (2, .int (i32 v2)), (3, .int (i32 v3)), (4, .int (i32 v4)), (5, .int (i32 v5)), (6, .int (i32 v6))]) hl [0, 1, 2, 3, 4, 5, 6] rfl) hc
theorem al_X16_sourceTurn_148 {Q : Sg → Int → Prop} {X : Sg → String → Prop} (K : MC R p s m args c cX16_sourceTurn 8 RX16 D cA tys A n0 s0 4 104 []) (hQ : HQI p l e R s m args below meth c cX16_sourceTurn D cA A n0 s0 QM dm ra jx rm Q) (hX : HX p l e R s m args below meth c 8 D cA A n0 s0 QM dm ra jx rm X) : ∀ (n : Nat), ∀ (σ : Sg) (v1 : Int) (v2 : Int) (v3 : Int) (v4 : Int) (v5 : Int) (v6 : Int) (g1 : rng v1) (g2 : rng v2) (g3 : rng v3) (g4 : rng v4) (g5 : rng v5) (g6 : rng v6), wl_X16_sourceTurn_148 ra jx rm Q X n σ v1 v2 v3 v4 v5 v6 → RG σ → Shp dm ra jx rm σ → JJ p l e R s m args below meth c 8 D cA A n0 s0 QM σ 148 [(0, .ref rm), (1, .int (i32 v1)), (2, .int (i32 v2)), (3, .int (i32 v3)), (4, .int (i32 v4)), (5, .int (i32 v5)), (6, .int (i32 v6))] [] := by
  intro n
  induction n with
  | zero => intro σ v1 v2 v3 v4 v5 v6 g1 g2 g3 g4 g5 g6 h; exact h.elim
  | succ n ih => exact fun σ v1 v2 v3 v4 v5 v6 g1 g2 g3 g4 g5 g6 h => a_X16_sourceTurn_148 K hQ hX ih σ v1 v2 v3 v4 v5 v6 g1 g2 g3 g4 g5 g6 h
set_option maxRecDepth 20000 in
theorem a_X16_sourceTurn_130 {Q : Sg → Int → Prop} {X : Sg → String → Prop} (K : MC R p s m args c cX16_sourceTurn 8 RX16 D cA tys A n0 s0 4 104 []) (hQ : HQI p l e R s m args below meth c cX16_sourceTurn D cA A n0 s0 QM dm ra jx rm Q) (hX : HX p l e R s m args below meth c 8 D cA A n0 s0 QM dm ra jx rm X) : ∀ (σ : Sg) (v1 : Int) (v2 : Int) (v3 : Int) (v4 : Int) (g1 : rng v1) (g2 : rng v2) (g3 : rng v3) (g4 : rng v4), w_X16_sourceTurn_130 ra jx rm Q X σ v1 v2 v3 v4 → RG σ → Shp dm ra jx rm σ → JJ p l e R s m args below meth c 8 D cA A n0 s0 QM σ 130 [(0, .ref rm), (1, .int (i32 v1)), (2, .int (i32 v2)), (3, .int (i32 v3)), (4, .int (i32 v4))] [] := by
  intro σ v1 v2 v3 v4 g1 g2 g3 g4 h hGσ hS H locs ls hH hl hc
  have B := K.1
  unfold w_X16_sourceTurn_130 at h
  refine lv_aload_n B.1 B.2.1 dX16_sourceTurn_130 rfl (lv_at hl 0 rfl) ?_
  refine lv_iload_n B.1 B.2.1 dX16_sourceTurn_131 rfl (lv_at hl 3 rfl) ?_
  refine lv_aload_n B.1 B.2.1 dX16_sourceTurn_132 rfl (lv_at hl 0 rfl) ?_
  refine r_arr B hH hS 43 (kd := 100) (n := 64) (by decide) (by decide) wf_X16_425 rfl rfl dX16_sourceTurn_133 ?_
  refine lv_iload_n B.1 B.2.1 dX16_sourceTurn_136 rfl (lv_at hl 1 rfl) ?_
  obtain ⟨q1, h⟩ := h
  refine x_iald B K.2.1 hH (hS.ar (k := 43) (kd := 100) (n := 64) (by decide)) (by decide) q1 dX16_sourceTurn_137 ?_
  refine lv_iconst (v := i32 1) B.1 B.2.1 dX16_sourceTurn_138 (by decide) ?_
  obtain ⟨q2, h⟩ := h
  refine lv_isub B.1 B.2.1 dX16_sourceTurn_139 ?_
  rw [i32_sub]
  refine c_V B hH hl hc K.2.2.1 (C := RX16) (T := TX16) (N := 123) (ci := 16) (As := [.int (i32 v3), .int (i32 ((gI σ (ra 43) v1.toNat) - 1))]) (ok_X16_setOf K.2.1 σ v3 ((gI σ (ra 43) v1.toNat) - 1) g3 q2 hGσ hS h) wc_X16_769 2 hd_X16_setOf ⟨Nat.le_trans (Nat.le_of_ble_eq_true rfl) K.2.2.2.1, Nat.le_trans (Nat.le_of_ble_eq_true rfl) K.2.2.2.2.1⟩ hS.1.1 hS.1.2 (by decide) rfl rfl (rest := []) rfl (Nat.le_of_ble_eq_true rfl) dX16_sourceTurn_140 (fun σ49 w hq => ?_) (fun σ9 E9 hx9 => hX σ9 E9 _ _ _ (tb_out K.2.2.2.2.2 rfl) hx9.1 hx9.2.1 hx9.2.2)
  obtain ⟨r50, rfl, gr50, h, hGσ49, hS⟩ := hq
  intro H locs ls hH hl hc
  refine W.eq (g2 := F0 m 143 ls [.int (i32 r50)]) (rfl) ?_
  try dsimp only at h
  refine lv_istore (lv' := [(5, .int (i32 r50)), (0, .ref rm), (1, .int (i32 v1)), (2, .int (i32 v2)), (3, .int (i32 v3)), (4, .int (i32 v4))]) B.1 B.2.1 dX16_sourceTurn_143 hl (by decide) rfl (fun ls hl => ?_)
  refine lv_iconst (v := i32 0) B.1 B.2.1 dX16_sourceTurn_145 (by decide) ?_
  refine lv_istore (lv' := [(6, .int (i32 0)), (5, .int (i32 r50)), (0, .ref rm), (1, .int (i32 v1)), (2, .int (i32 v2)), (3, .int (i32 v3)), (4, .int (i32 v4))]) B.1 B.2.1 dX16_sourceTurn_146 hl (by decide) rfl (fun ls hl => ?_)
  obtain ⟨n9, h⟩ := h
  exact al_X16_sourceTurn_148 K hQ hX n9 _ _ _ _ _ _ _ g1 g2 g3 g4 gr50 (by unfold rng; omega) h hGσ49 hS _ _ _ hH (lv_sub (l' := [(0, .ref rm), (1, .int (i32 v1)), (2, .int (i32 v2)), (3, .int (i32 v3)), (4, .int (i32 v4)), (5, .int (i32 r50)), (6, .int (i32 0))]) hl [2, 3, 4, 5, 6, 1, 0] rfl) hc
set_option maxRecDepth 20000 in
theorem a_X16_sourceTurn_118 {Q : Sg → Int → Prop} {X : Sg → String → Prop} (K : MC R p s m args c cX16_sourceTurn 8 RX16 D cA tys A n0 s0 4 104 []) (hQ : HQI p l e R s m args below meth c cX16_sourceTurn D cA A n0 s0 QM dm ra jx rm Q) (hX : HX p l e R s m args below meth c 8 D cA A n0 s0 QM dm ra jx rm X) : ∀ (σ : Sg) (v1 : Int) (g1 : rng v1), w_X16_sourceTurn_118 ra jx rm Q X σ v1 → RG σ → Shp dm ra jx rm σ → JJ p l e R s m args below meth c 8 D cA A n0 s0 QM σ 118 [(0, .ref rm), (1, .int (i32 v1))] [] := by
  intro σ v1 g1 h hGσ hS H locs ls hH hl hc
  have B := K.1
  unfold w_X16_sourceTurn_118 at h
  refine lv_aload_n B.1 B.2.1 dX16_sourceTurn_118 rfl (lv_at hl 0 rfl) ?_
  refine r_arr B hH hS 42 (kd := 100) (n := 64) (by decide) (by decide) wf_X16_422 rfl rfl dX16_sourceTurn_119 ?_
  refine lv_iload_n B.1 B.2.1 dX16_sourceTurn_122 rfl (lv_at hl 1 rfl) ?_
  refine lv_dup2_11 B.1 B.2.1 dX16_sourceTurn_123 rfl rfl ?_
  obtain ⟨q1, h⟩ := h
  refine x_iald B K.2.1 hH (hS.ar (k := 42) (kd := 100) (n := 64) (by decide)) (by decide) q1 dX16_sourceTurn_124 ?_
  refine lv_iconst (v := i32 1) B.1 B.2.1 dX16_sourceTurn_125 (by decide) ?_
  refine lv_iadd B.1 B.2.1 dX16_sourceTurn_126 ?_
  rw [i32_add]
  refine W.eq (g2 := F0 m 127 ls [.int (i32 (wr ((gI σ (ra 42) v1.toNat) + 1))), .int (i32 v1), .ref (ra 42)]) (by rw [i32_wr]) ?_
  obtain ⟨q2, h⟩ := h
  obtain ⟨σ51, eσ51⟩ : ∃ z, z = pI σ (ra 42) v1.toNat (wr ((gI σ (ra 42) v1.toNat) + 1)) := ⟨_, rfl⟩
  have h := h σ51 eσ51
  refine x_iast B K.2.1 hH (hS.ar (k := 42) (kd := 100) (n := 64) (by decide)) (by decide) q2 dX16_sourceTurn_127 (fun H locs hH => ?_)
  have hH : Hd D cA A s (pI σ (ra 42) v1.toNat (wr ((gI σ (ra 42) v1.toNat) + 1))) H locs := hH
  rw [← eσ51] at hH
  have hGσ51 : RG σ51 := by rw [eσ51]; exact hGσ.pI (rng_wr _)
  have hS : Shp dm ra jx rm σ51 := by rw [eσ51]; exact hS
  have hc : CB n0 s0 σ51 := by rw [eσ51]; exact hc
  rw [show gc σ = gc σ51 by rw [eσ51], show gs σ = gs σ51 by rw [eσ51]]
  refine lv_iconst (v := i32 1) B.1 B.2.1 dX16_sourceTurn_128 (by decide) ?_
  exact hQ _ _ _ _ _ _ (by unfold rng; omega) dX16_sourceTurn_129 hH hc h hGσ51 hS
set_option maxRecDepth 20000 in
theorem a_X16_sourceTurn_63 {Q : Sg → Int → Prop} {X : Sg → String → Prop} (K : MC R p s m args c cX16_sourceTurn 8 RX16 D cA tys A n0 s0 4 104 []) (hQ : HQI p l e R s m args below meth c cX16_sourceTurn D cA A n0 s0 QM dm ra jx rm Q) (hX : HX p l e R s m args below meth c 8 D cA A n0 s0 QM dm ra jx rm X) : ∀ (σ : Sg) (v1 : Int) (v2 : Int) (v3 : Int) (g1 : rng v1) (g2 : rng v2) (g3 : rng v3), w_X16_sourceTurn_63 ra jx rm Q X σ v1 v2 v3 → RG σ → Shp dm ra jx rm σ → JJ p l e R s m args below meth c 8 D cA A n0 s0 QM σ 63 [(0, .ref rm), (1, .int (i32 v1)), (2, .int (i32 v2)), (3, .int (i32 v3))] [] := by
  intro σ v1 v2 v3 g1 g2 g3 h hGσ hS H locs ls hH hl hc
  have B := K.1
  unfold w_X16_sourceTurn_63 at h
  refine lv_bipush (v := i32 64) B.1 B.2.1 dX16_sourceTurn_63 (by decide) ?_
  refine lv_iload_n B.1 B.2.1 dX16_sourceTurn_65 rfl (lv_at hl 3 rfl) ?_
  obtain ⟨q1, h⟩ := h
  refine lv_imul B.1 B.2.1 dX16_sourceTurn_66 ?_
  rw [i32_mul]
  refine lv_aload_n B.1 B.2.1 dX16_sourceTurn_67 rfl (lv_at hl 0 rfl) ?_
  refine r_arr B hH hS 43 (kd := 100) (n := 64) (by decide) (by decide) wf_X16_425 rfl rfl dX16_sourceTurn_68 ?_
  refine lv_iload_n B.1 B.2.1 dX16_sourceTurn_71 rfl (lv_at hl 1 rfl) ?_
  obtain ⟨q2, h⟩ := h
  refine x_iald B K.2.1 hH (hS.ar (k := 43) (kd := 100) (n := 64) (by decide)) (by decide) q2 dX16_sourceTurn_72 ?_
  obtain ⟨q3, h⟩ := h
  refine lv_iadd B.1 B.2.1 dX16_sourceTurn_73 ?_
  rw [i32_add]
  refine lv_istore (lv' := [(4, .int (i32 ((64 * v3) + (gI σ (ra 43) v1.toNat)))), (0, .ref rm), (1, .int (i32 v1)), (2, .int (i32 v2)), (3, .int (i32 v3))]) B.1 B.2.1 dX16_sourceTurn_74 hl (by decide) rfl (fun ls hl => ?_)
  refine lv_aload_n B.1 B.2.1 dX16_sourceTurn_76 rfl (lv_at hl 1 rfl) ?_
  refine lv_iconst (v := i32 1) B.1 B.2.1 dX16_sourceTurn_77 (by decide) ?_
  obtain ⟨σ52, eσ52⟩ : ∃ z, z = pI σ rm 113 1 := ⟨_, rfl⟩
  have h := h σ52 eσ52
  refine r_puti B hH hS 113 (ty := .int) (by decide) wf_X16_766 rfl rfl rfl rfl rfl rfl dX16_sourceTurn_78 (fun H locs hH => ?_)
  have hH : Hd D cA A s (pI σ rm 113 1) H locs := hH
  rw [← eσ52] at hH
  have hGσ52 : RG σ52 := by rw [eσ52]; exact hGσ.pI (by unfold rng; omega)
  have hS : Shp dm ra jx rm σ52 := by rw [eσ52]; exact hS
  have hc : CB n0 s0 σ52 := by rw [eσ52]; exact hc
  rw [show gc σ = gc σ52 by rw [eσ52], show gs σ = gs σ52 by rw [eσ52]]
  refine lv_aload_n B.1 B.2.1 dX16_sourceTurn_81 rfl (lv_at hl 1 rfl) ?_
  refine r_arr B hH hS 43 (kd := 100) (n := 64) (by decide) (by decide) wf_X16_425 rfl rfl dX16_sourceTurn_82 ?_
  refine lv_iload_n B.1 B.2.1 dX16_sourceTurn_85 rfl (lv_at hl 2 rfl) ?_
  refine lv_dup2_11 B.1 B.2.1 dX16_sourceTurn_86 rfl rfl ?_
  obtain ⟨q5, h⟩ := h
  refine x_iald B K.2.1 hH (hS.ar (k := 43) (kd := 100) (n := 64) (by decide)) (by decide) q5 dX16_sourceTurn_87 ?_
  refine lv_iconst (v := i32 1) B.1 B.2.1 dX16_sourceTurn_88 (by decide) ?_
  obtain ⟨q6, h⟩ := h
  refine lv_iadd B.1 B.2.1 dX16_sourceTurn_89 ?_
  rw [i32_add]
  obtain ⟨q7, h⟩ := h
  obtain ⟨σ53, eσ53⟩ : ∃ z, z = pI σ52 (ra 43) v1.toNat ((gI σ52 (ra 43) v1.toNat) + 1) := ⟨_, rfl⟩
  have h := h σ53 eσ53
  refine x_iast B K.2.1 hH (hS.ar (k := 43) (kd := 100) (n := 64) (by decide)) (by decide) q7 dX16_sourceTurn_90 (fun H locs hH => ?_)
  have hH : Hd D cA A s (pI σ52 (ra 43) v1.toNat ((gI σ52 (ra 43) v1.toNat) + 1)) H locs := hH
  rw [← eσ53] at hH
  have hGσ53 : RG σ53 := by rw [eσ53]; exact hGσ52.pI q6
  have hS : Shp dm ra jx rm σ53 := by rw [eσ53]; exact hS
  have hc : CB n0 s0 σ53 := by rw [eσ53]; exact hc
  rw [show gc σ52 = gc σ53 by rw [eσ53], show gs σ52 = gs σ53 by rw [eσ53]]
  refine lv_aload_n B.1 B.2.1 dX16_sourceTurn_91 rfl (lv_at hl 1 rfl) ?_
  refine r_arr B hH hS 41 (kd := 100) (n := 64) (by decide) (by decide) wf_X16_419 rfl rfl dX16_sourceTurn_92 ?_
  refine lv_iload_n B.1 B.2.1 dX16_sourceTurn_95 rfl (lv_at hl 2 rfl) ?_
  refine lv_dup2_11 B.1 B.2.1 dX16_sourceTurn_96 rfl rfl ?_
  obtain ⟨q9, h⟩ := h
  refine x_iald B K.2.1 hH (hS.ar (k := 41) (kd := 100) (n := 64) (by decide)) (by decide) q9 dX16_sourceTurn_97 ?_
  refine lv_iconst (v := i32 1) B.1 B.2.1 dX16_sourceTurn_98 (by decide) ?_
  refine lv_iadd B.1 B.2.1 dX16_sourceTurn_99 ?_
  rw [i32_add]
  refine W.eq (g2 := F0 m 100 ls [.int (i32 (wr ((gI σ53 (ra 41) v1.toNat) + 1))), .int (i32 v1), .ref (ra 41)]) (by rw [i32_wr]) ?_
  obtain ⟨q10, h⟩ := h
  obtain ⟨σ54, eσ54⟩ : ∃ z, z = pI σ53 (ra 41) v1.toNat (wr ((gI σ53 (ra 41) v1.toNat) + 1)) := ⟨_, rfl⟩
  have h := h σ54 eσ54
  refine x_iast B K.2.1 hH (hS.ar (k := 41) (kd := 100) (n := 64) (by decide)) (by decide) q10 dX16_sourceTurn_100 (fun H locs hH => ?_)
  have hH : Hd D cA A s (pI σ53 (ra 41) v1.toNat (wr ((gI σ53 (ra 41) v1.toNat) + 1))) H locs := hH
  rw [← eσ54] at hH
  have hGσ54 : RG σ54 := by rw [eσ54]; exact hGσ53.pI (rng_wr _)
  have hS : Shp dm ra jx rm σ54 := by rw [eσ54]; exact hS
  have hc : CB n0 s0 σ54 := by rw [eσ54]; exact hc
  rw [show gc σ53 = gc σ54 by rw [eσ54], show gs σ53 = gs σ54 by rw [eσ54]]
  refine lv_aload_n B.1 B.2.1 dX16_sourceTurn_101 rfl (lv_at hl 1 rfl) ?_
  refine r_arr B hH hS 23 (kd := 101) (n := 256) (by decide) (by decide) wf_X16_754 rfl rfl dX16_sourceTurn_102 ?_
  refine lv_iload B.1 B.2.1 dX16_sourceTurn_105 (lv_at hl 0 rfl) ?_
  obtain ⟨q12, h⟩ := h
  refine x_lald B K.2.1 hH (hS.ar (k := 23) (kd := 101) (n := 256) (by decide)) (by decide) q12 dX16_sourceTurn_107 ?_
  refine lv_aload_n B.1 B.2.1 dX16_sourceTurn_108 rfl (lv_at hl 1 rfl) ?_
  refine r_arr B hH hS 40 (kd := 101) (n := 64) (by decide) (by decide) wf_X16_414 rfl rfl dX16_sourceTurn_109 ?_
  refine lv_iload_n B.1 B.2.1 dX16_sourceTurn_112 rfl (lv_at hl 2 rfl) ?_
  obtain ⟨q13, h⟩ := h
  refine x_lald B K.2.1 hH (hS.ar (k := 40) (kd := 101) (n := 64) (by decide)) (by decide) q13 dX16_sourceTurn_113 ?_
  refine W.lcmp B.1 B.2.1 dX16_sourceTurn_114 ?_
  refine lv_if_gt (tgt := 130) B.1 B.2.1 dX16_sourceTurn_115 (by decide) (fun h9 => ?_) (fun h9 => ?_)
  · rw [if_pos ((lg_cmp_gt _ _).mp h9)] at h
    exact a_X16_sourceTurn_130 K hQ hX _ _ _ _ _ g1 g2 g3 q3 h hGσ54 hS _ _ _ hH (lv_sub (l' := [(0, .ref rm), (1, .int (i32 v1)), (2, .int (i32 v2)), (3, .int (i32 v3)), (4, .int (i32 ((64 * v3) + (gI σ (ra 43) v1.toNat))))]) hl [1, 2, 3, 4, 0] rfl) hc
  · rw [if_neg (fun q => h9 ((lg_cmp_gt _ _).mpr q))] at h
    exact a_X16_sourceTurn_118 K hQ hX _ _ g1 h hGσ54 hS _ _ _ hH (lv_sub (l' := [(0, .ref rm), (1, .int (i32 v1))]) hl [1, 2] rfl) hc
set_option maxRecDepth 20000 in
theorem a_X16_sourceTurn_48 {Q : Sg → Int → Prop} {X : Sg → String → Prop} (K : MC R p s m args c cX16_sourceTurn 8 RX16 D cA tys A n0 s0 4 104 []) (hQ : HQI p l e R s m args below meth c cX16_sourceTurn D cA A n0 s0 QM dm ra jx rm Q) (hX : HX p l e R s m args below meth c 8 D cA A n0 s0 QM dm ra jx rm X) : ∀ (σ : Sg) (v1 : Int) (v2 : Int) (v3 : Int) (g1 : rng v1) (g2 : rng v2) (g3 : rng v3), w_X16_sourceTurn_48 ra jx rm Q X σ v1 v2 v3 → RG σ → Shp dm ra jx rm σ → JJ p l e R s m args below meth c 8 D cA A n0 s0 QM σ 48 [(0, .ref rm), (1, .int (i32 v1)), (2, .int (i32 v2)), (3, .int (i32 v3))] [] := by
  intro σ v1 v2 v3 g1 g2 g3 h hGσ hS H locs ls hH hl hc
  have B := K.1
  unfold w_X16_sourceTurn_48 at h
  refine lv_aload_n B.1 B.2.1 dX16_sourceTurn_48 rfl (lv_at hl 0 rfl) ?_
  refine r_arr B hH hS 43 (kd := 100) (n := 64) (by decide) (by decide) wf_X16_425 rfl rfl dX16_sourceTurn_49 ?_
  refine lv_iload_n B.1 B.2.1 dX16_sourceTurn_52 rfl (lv_at hl 1 rfl) ?_
  obtain ⟨q1, h⟩ := h
  refine x_iald B K.2.1 hH (hS.ar (k := 43) (kd := 100) (n := 64) (by decide)) (by decide) q1 dX16_sourceTurn_53 ?_
  refine lv_aload_n B.1 B.2.1 dX16_sourceTurn_54 rfl (lv_at hl 0 rfl) ?_
  refine r_arr B hH hS 22 (kd := 100) (n := 4) (by decide) (by decide) wf_X16_763 rfl rfl dX16_sourceTurn_55 ?_
  refine lv_iload_n B.1 B.2.1 dX16_sourceTurn_58 rfl (lv_at hl 3 rfl) ?_
  obtain ⟨q2, h⟩ := h
  refine x_iald B K.2.1 hH (hS.ar (k := 22) (kd := 100) (n := 4) (by decide)) (by decide) q2 dX16_sourceTurn_59 ?_
  refine lv_icmp_ge (tgt := 272) B.1 B.2.1 dX16_sourceTurn_60 (by decide) (fun h9 => ?_) (fun h9 => ?_)
  · rw [if_pos ((i32_le (hGσ _ _) (hGσ _ _)).mp h9)] at h
    exact a_X16_sourceTurn_272 K hQ hX _ _ _ g1 g3 h hGσ hS _ _ _ hH (lv_sub (l' := [(0, .ref rm), (1, .int (i32 v1)), (3, .int (i32 v3))]) hl [0, 1, 3] rfl) hc
  · rw [if_neg (fun q => h9 ((i32_le (hGσ _ _) (hGσ _ _)).mpr q))] at h
    exact a_X16_sourceTurn_63 K hQ hX _ _ _ _ g1 g2 g3 h hGσ hS _ _ _ hH (lv_sub (l' := [(0, .ref rm), (1, .int (i32 v1)), (2, .int (i32 v2)), (3, .int (i32 v3))]) hl [0, 1, 2, 3] rfl) hc
set_option maxRecDepth 20000 in
theorem a_X16_sourceTurn_34 {Q : Sg → Int → Prop} {X : Sg → String → Prop} (K : MC R p s m args c cX16_sourceTurn 8 RX16 D cA tys A n0 s0 4 104 []) (hQ : HQI p l e R s m args below meth c cX16_sourceTurn D cA A n0 s0 QM dm ra jx rm Q) (hX : HX p l e R s m args below meth c 8 D cA A n0 s0 QM dm ra jx rm X) : ∀ (σ : Sg) (v1 : Int) (g1 : rng v1), w_X16_sourceTurn_34 ra jx rm Q X σ v1 → RG σ → Shp dm ra jx rm σ → JJ p l e R s m args below meth c 8 D cA A n0 s0 QM σ 34 [(0, .ref rm), (1, .int (i32 v1))] [] := by
  intro σ v1 g1 h hGσ hS H locs ls hH hl hc
  have B := K.1
  unfold w_X16_sourceTurn_34 at h
  refine lv_aload_n B.1 B.2.1 dX16_sourceTurn_34 rfl (lv_at hl 0 rfl) ?_
  refine lv_iload_n B.1 B.2.1 dX16_sourceTurn_35 rfl (lv_at hl 1 rfl) ?_
  refine c_V B hH hl hc K.2.2.1 (C := RX16) (T := TX16) (N := 123) (ci := 16) (As := [.int (i32 v1)]) (ok_X16_part K.2.1 σ v1 g1 hGσ hS h) wc_X16_757 1 hd_X16_part ⟨Nat.le_trans (Nat.le_of_ble_eq_true rfl) K.2.2.2.1, Nat.le_trans (Nat.le_of_ble_eq_true rfl) K.2.2.2.2.1⟩ hS.1.1 hS.1.2 (by decide) rfl rfl (rest := []) rfl (Nat.le_of_ble_eq_true rfl) dX16_sourceTurn_36 (fun σ55 w hq => ?_) (fun σ9 E9 hx9 => hX σ9 E9 _ _ _ (tb_out K.2.2.2.2.2 rfl) hx9.1 hx9.2.1 hx9.2.2)
  obtain ⟨rfl, h, hGσ55, hS⟩ := hq
  intro H locs ls hH hl hc
  refine W.eq (g2 := F0 m 39 ls []) (rfl) ?_
  try dsimp only at h
  refine lv_aload_n B.1 B.2.1 dX16_sourceTurn_39 rfl (lv_at hl 0 rfl) ?_
  refine lv_iload_n B.1 B.2.1 dX16_sourceTurn_40 rfl (lv_at hl 1 rfl) ?_
  refine lv_iconst (v := i32 2) B.1 B.2.1 dX16_sourceTurn_41 (by decide) ?_
  refine lv_lconst (v := 0) B.1 B.2.1 dX16_sourceTurn_42 (by decide) ?_
  refine c_V B hH hl hc K.2.2.1 (C := RX16) (T := TX16) (N := 123) (ci := 16) (As := [.int (i32 v1), .int (i32 2), .long 0]) (ok_X16_spread K.2.1 σ55 v1 2 0 g1 (by unfold rng; omega) hGσ55 hS h) wc_X16_760 3 hd_X16_spread ⟨Nat.le_trans (Nat.le_of_ble_eq_true rfl) K.2.2.2.1, Nat.le_trans (Nat.le_of_ble_eq_true rfl) K.2.2.2.2.1⟩ hS.1.1 hS.1.2 (by decide) rfl rfl (rest := []) rfl (Nat.le_of_ble_eq_true rfl) dX16_sourceTurn_43 (fun σ56 w hq => ?_) (fun σ9 E9 hx9 => hX σ9 E9 _ _ _ (tb_out K.2.2.2.2.2 rfl) hx9.1 hx9.2.1 hx9.2.2)
  obtain ⟨rfl, h, hGσ56, hS⟩ := hq
  intro H locs ls hH hl hc
  refine W.eq (g2 := F0 m 46 ls []) (rfl) ?_
  try dsimp only at h
  refine lv_iconst (v := i32 0) B.1 B.2.1 dX16_sourceTurn_46 (by decide) ?_
  exact hQ _ _ _ _ _ _ (by unfold rng; omega) dX16_sourceTurn_47 hH hc h hGσ56 hS
set_option maxRecDepth 20000 in
theorem a_X16_sourceTurn_25 {Q : Sg → Int → Prop} {X : Sg → String → Prop} (K : MC R p s m args c cX16_sourceTurn 8 RX16 D cA tys A n0 s0 4 104 []) (hQ : HQI p l e R s m args below meth c cX16_sourceTurn D cA A n0 s0 QM dm ra jx rm Q) (hX : HX p l e R s m args below meth c 8 D cA A n0 s0 QM dm ra jx rm X) : ∀ (σ : Sg) (v1 : Int) (v2 : Int) (v3 : Int) (g1 : rng v1) (g2 : rng v2) (g3 : rng v3), w_X16_sourceTurn_25 ra jx rm Q X σ v1 v2 v3 → RG σ → Shp dm ra jx rm σ → JJ p l e R s m args below meth c 8 D cA A n0 s0 QM σ 25 [(0, .ref rm), (1, .int (i32 v1)), (2, .int (i32 v2)), (3, .int (i32 v3))] [] := by
  intro σ v1 v2 v3 g1 g2 g3 h hGσ hS H locs ls hH hl hc
  have B := K.1
  unfold w_X16_sourceTurn_25 at h
  refine lv_aload_n B.1 B.2.1 dX16_sourceTurn_25 rfl (lv_at hl 0 rfl) ?_
  refine r_arr B hH hS 44 (kd := 103) (n := 64) (by decide) (by decide) wf_X16_428 rfl rfl dX16_sourceTurn_26 ?_
  refine lv_iload_n B.1 B.2.1 dX16_sourceTurn_29 rfl (lv_at hl 1 rfl) ?_
  obtain ⟨q1, h⟩ := h
  refine x_zald B K.2.1 hH (hS.ar (k := 44) (kd := 103) (n := 64) (by decide)) (by decide) q1 dX16_sourceTurn_30 ?_
  refine lv_if_ne (tgt := 48) B.1 B.2.1 dX16_sourceTurn_31 (by decide) (fun h9 => ?_) (fun h9 => ?_)
  · rw [if_pos (fun q => h9 ((z_eq (hGσ _ _)).mpr q))] at h
    exact a_X16_sourceTurn_48 K hQ hX _ _ _ _ g1 g2 g3 h hGσ hS _ _ _ hH (lv_sub (l' := [(0, .ref rm), (1, .int (i32 v1)), (2, .int (i32 v2)), (3, .int (i32 v3))]) hl [0, 1, 2, 3] rfl) hc
  · rw [if_neg (fun q => q ((z_eq (hGσ _ _)).mp h9))] at h
    exact a_X16_sourceTurn_34 K hQ hX _ _ g1 h hGσ hS _ _ _ hH (lv_sub (l' := [(0, .ref rm), (1, .int (i32 v1))]) hl [0, 1] rfl) hc
set_option maxRecDepth 20000 in
theorem a_X16_sourceTurn_0 {Q : Sg → Int → Prop} {X : Sg → String → Prop} (K : MC R p s m args c cX16_sourceTurn 8 RX16 D cA tys A n0 s0 4 104 []) (hQ : HQI p l e R s m args below meth c cX16_sourceTurn D cA A n0 s0 QM dm ra jx rm Q) (hX : HX p l e R s m args below meth c 8 D cA A n0 s0 QM dm ra jx rm X) : ∀ (σ : Sg) (v1 : Int) (g1 : rng v1), w_X16_sourceTurn_0 ra jx rm Q X σ v1 → RG σ → Shp dm ra jx rm σ → JJ p l e R s m args below meth c 8 D cA A n0 s0 QM σ 0 [(0, .ref rm), (1, .int (i32 v1))] [] := by
  intro σ v1 g1 h hGσ hS H locs ls hH hl hc
  have B := K.1
  unfold w_X16_sourceTurn_0 at h
  refine lv_aload_n B.1 B.2.1 dX16_sourceTurn_0 rfl (lv_at hl 0 rfl) ?_
  refine r_arr B hH hS 38 (kd := 100) (n := 64) (by decide) (by decide) wf_X16_380 rfl rfl dX16_sourceTurn_1 ?_
  refine lv_iload_n B.1 B.2.1 dX16_sourceTurn_4 rfl (lv_at hl 1 rfl) ?_
  obtain ⟨q1, h⟩ := h
  refine x_iald B K.2.1 hH (hS.ar (k := 38) (kd := 100) (n := 64) (by decide)) (by decide) q1 dX16_sourceTurn_5 ?_
  refine lv_istore_n (lv' := [(2, .int (i32 (gI σ (ra 38) v1.toNat))), (0, .ref rm), (1, .int (i32 v1))]) B.1 B.2.1 dX16_sourceTurn_6 rfl hl (by decide) rfl (fun ls hl => ?_)
  refine lv_aload_n B.1 B.2.1 dX16_sourceTurn_7 rfl (lv_at hl 1 rfl) ?_
  refine r_getp B hH hS 17 (by decide) wf_X16_356 rfl rfl dX16_sourceTurn_8 ?_
  obtain ⟨a57, ea57, ja57, h⟩ := h
  refine W.eq (g2 := F0 m 11 ls [.ref a57]) (by rw [ea57]; rfl) ?_
  refine n_arr B hH hS ja57 8 (kd := 101) (n := 16) (by decide) (by decide) (List.mem_of_getElem? (i := 8) rfl) rfl dX16_sourceTurn_11 ?_
  refine lv_iload_n B.1 B.2.1 dX16_sourceTurn_14 rfl (lv_at hl 0 rfl) ?_
  obtain ⟨q3, h⟩ := h
  refine x_lald B K.2.1 hH (hS.ja ja57 (k := 8) (kd := 101) (n := 16) (by decide)) (by decide) q3 dX16_sourceTurn_15 ?_
  refine lv_l2i B.1 B.2.1 dX16_sourceTurn_16 rfl ?_
  refine W.eq (g2 := F0 m 17 ls [.int (i32 (((gJ σ (jx a57 8) (gI σ (ra 38) v1.toNat).toNat)).toInt32.toInt))]) (by simp only [i32_self]) ?_
  refine lv_istore_n (lv' := [(3, .int (i32 (((gJ σ (jx a57 8) (gI σ (ra 38) v1.toNat).toNat)).toInt32.toInt))), (2, .int (i32 (gI σ (ra 38) v1.toNat))), (0, .ref rm), (1, .int (i32 v1))]) B.1 B.2.1 dX16_sourceTurn_17 rfl hl (by decide) rfl (fun ls hl => ?_)
  refine lv_aload_n B.1 B.2.1 dX16_sourceTurn_18 rfl (lv_at hl 2 rfl) ?_
  refine r_geti B hH hS 93 (by decide) wf_X16_742 rfl rfl dX16_sourceTurn_19 ?_
  refine lv_if_le (tgt := 48) B.1 B.2.1 dX16_sourceTurn_22 (by decide) (fun h9 => ?_) (fun h9 => ?_)
  · rw [if_pos ((z_le (hGσ _ _)).mp h9)] at h
    exact a_X16_sourceTurn_48 K hQ hX _ _ _ _ g1 (hGσ _ _) (rng_toInt _) h hGσ hS _ _ _ hH (lv_sub (l' := [(0, .ref rm), (1, .int (i32 v1)), (2, .int (i32 (gI σ (ra 38) v1.toNat))), (3, .int (i32 (((gJ σ (jx a57 8) (gI σ (ra 38) v1.toNat).toNat)).toInt32.toInt)))]) hl [2, 3, 1, 0] rfl) hc
  · rw [if_neg (fun q => h9 ((z_le (hGσ _ _)).mpr q))] at h
    exact a_X16_sourceTurn_25 K hQ hX _ _ _ _ g1 (hGσ _ _) (rng_toInt _) h hGσ hS _ _ _ hH (lv_sub (l' := [(0, .ref rm), (1, .int (i32 v1)), (2, .int (i32 (gI σ (ra 38) v1.toNat))), (3, .int (i32 (((gJ σ (jx a57 8) (gI σ (ra 38) v1.toNat).toNat)).toInt32.toInt)))]) hl [2, 3, 1, 0] rfl) hc
theorem ok_X16_sourceTurn (hT : Tys cA tys) {Q : Sg → Int → Prop} {X : Sg → String → Prop} (σ : Sg) (v1 : Int) (g1 : rng v1) (hG : RG σ) (hS : Shp dm ra jx rm σ) (h : wp_X16_sourceTurn ra jx rm v1 σ Q X) : Ok l D cA tys A yX16_sourceTurn (.code yX16_sourceTurn cX16_sourceTurn 8 (some .int)) 4 104 [.ref rm, .int (i32 v1)] σ (QnI dm ra jx rm Q) (QxR dm ra jx rm X) := by
  unfold wp_X16_sourceTurn at h
  exact ok_I (plainFor_of_name (by decide)) (by exact Nat.le_of_ble_eq_true rfl) hT (fun p e R s m args below meth c K hQ hX H locs ls hH hl hc => a_X16_sourceTurn_0 K hQ hX σ v1 g1 h hG hS H locs ls hH (lv_sub (l' := [(0, .ref rm), (1, .int (i32 v1))]) hl [0, 1] rfl) hc)
theorem dX16_takeBarrier_0 : decode cX16_takeBarrier 0 = .ok (.aload_n 0, 1) := by decide +kernel
theorem dX16_takeBarrier_1 : decode cX16_takeBarrier 1 = .ok (.getfield 456, 3) := by decide +kernel
theorem dX16_takeBarrier_4 : decode cX16_takeBarrier 4 = .ok (.iload_n 2, 1) := by decide +kernel
theorem dX16_takeBarrier_5 : decode cX16_takeBarrier 5 = .ok (.iconst 1, 1) := by decide +kernel
theorem dX16_takeBarrier_6 : decode cX16_takeBarrier 6 = .ok (.bastore, 1) := by decide +kernel
theorem dX16_takeBarrier_7 : decode cX16_takeBarrier 7 = .ok (.iconst 1, 1) := by decide +kernel
theorem dX16_takeBarrier_8 : decode cX16_takeBarrier 8 = .ok (.istore 5, 2) := by decide +kernel
theorem dX16_takeBarrier_10 : decode cX16_takeBarrier 10 = .ok (.iload_n 3, 1) := by decide +kernel
theorem dX16_takeBarrier_11 : decode cX16_takeBarrier 11 = .ok (.istore 6, 2) := by decide +kernel
theorem dX16_takeBarrier_13 : decode cX16_takeBarrier 13 = .ok (.iload 6, 2) := by decide +kernel
theorem dX16_takeBarrier_15 : decode cX16_takeBarrier 15 = .ok (.iload_n 3, 1) := by decide +kernel
theorem dX16_takeBarrier_16 : decode cX16_takeBarrier 16 = .ok (.iload 4, 2) := by decide +kernel
theorem dX16_takeBarrier_18 : decode cX16_takeBarrier 18 = .ok (.iadd, 1) := by decide +kernel
theorem dX16_takeBarrier_19 : decode cX16_takeBarrier 19 = .ok (.if_icmp .ge 31, 3) := by decide +kernel
theorem dX16_takeBarrier_22 : decode cX16_takeBarrier 22 = .ok (.iload 5, 2) := by decide +kernel
theorem dX16_takeBarrier_24 : decode cX16_takeBarrier 24 = .ok (.ifCond .eq 17, 3) := by decide +kernel
theorem dX16_takeBarrier_27 : decode cX16_takeBarrier 27 = .ok (.aload_n 0, 1) := by decide +kernel
theorem dX16_takeBarrier_28 : decode cX16_takeBarrier 28 = .ok (.getfield 456, 3) := by decide +kernel
theorem dX16_takeBarrier_31 : decode cX16_takeBarrier 31 = .ok (.iload 6, 2) := by decide +kernel
theorem dX16_takeBarrier_33 : decode cX16_takeBarrier 33 = .ok (.baload, 1) := by decide +kernel
theorem dX16_takeBarrier_34 : decode cX16_takeBarrier 34 = .ok (.ifCond .eq 7, 3) := by decide +kernel
theorem dX16_takeBarrier_37 : decode cX16_takeBarrier 37 = .ok (.iconst 1, 1) := by decide +kernel
theorem dX16_takeBarrier_38 : decode cX16_takeBarrier 38 = .ok (.goto 4, 3) := by decide +kernel
theorem dX16_takeBarrier_41 : decode cX16_takeBarrier 41 = .ok (.iconst 0, 1) := by decide +kernel
theorem dX16_takeBarrier_42 : decode cX16_takeBarrier 42 = .ok (.istore 5, 2) := by decide +kernel
theorem dX16_takeBarrier_44 : decode cX16_takeBarrier 44 = .ok (.iinc 6 1, 3) := by decide +kernel
theorem dX16_takeBarrier_47 : decode cX16_takeBarrier 47 = .ok (.goto (-34), 3) := by decide +kernel
theorem dX16_takeBarrier_50 : decode cX16_takeBarrier 50 = .ok (.iload 5, 2) := by decide +kernel
theorem dX16_takeBarrier_52 : decode cX16_takeBarrier 52 = .ok (.ifCond .ne 4, 3) := by decide +kernel
theorem dX16_takeBarrier_55 : decode cX16_takeBarrier 55 = .ok (.return_, 1) := by decide +kernel
theorem dX16_takeBarrier_56 : decode cX16_takeBarrier 56 = .ok (.aload_n 0, 1) := by decide +kernel
theorem dX16_takeBarrier_57 : decode cX16_takeBarrier 57 = .ok (.iload_n 1, 1) := by decide +kernel
theorem dX16_takeBarrier_58 : decode cX16_takeBarrier 58 = .ok (.invokevirtual 757, 3) := by decide +kernel
theorem dX16_takeBarrier_61 : decode cX16_takeBarrier 61 = .ok (.iload_n 3, 1) := by decide +kernel
theorem dX16_takeBarrier_62 : decode cX16_takeBarrier 62 = .ok (.istore 6, 2) := by decide +kernel
theorem dX16_takeBarrier_64 : decode cX16_takeBarrier 64 = .ok (.iload 6, 2) := by decide +kernel
theorem dX16_takeBarrier_66 : decode cX16_takeBarrier 66 = .ok (.iload_n 3, 1) := by decide +kernel
theorem dX16_takeBarrier_67 : decode cX16_takeBarrier 67 = .ok (.iload 4, 2) := by decide +kernel
theorem dX16_takeBarrier_69 : decode cX16_takeBarrier 69 = .ok (.iadd, 1) := by decide +kernel
theorem dX16_takeBarrier_70 : decode cX16_takeBarrier 70 = .ok (.if_icmp .ge 17, 3) := by decide +kernel
theorem dX16_takeBarrier_73 : decode cX16_takeBarrier 73 = .ok (.aload_n 0, 1) := by decide +kernel
theorem dX16_takeBarrier_74 : decode cX16_takeBarrier 74 = .ok (.getfield 456, 3) := by decide +kernel
theorem dX16_takeBarrier_77 : decode cX16_takeBarrier 77 = .ok (.iload 6, 2) := by decide +kernel
theorem dX16_takeBarrier_79 : decode cX16_takeBarrier 79 = .ok (.iconst 0, 1) := by decide +kernel
theorem dX16_takeBarrier_80 : decode cX16_takeBarrier 80 = .ok (.bastore, 1) := by decide +kernel
theorem dX16_takeBarrier_81 : decode cX16_takeBarrier 81 = .ok (.iinc 6 1, 3) := by decide +kernel
theorem dX16_takeBarrier_84 : decode cX16_takeBarrier 84 = .ok (.goto (-20), 3) := by decide +kernel
theorem dX16_takeBarrier_87 : decode cX16_takeBarrier 87 = .ok (.aload_n 0, 1) := by decide +kernel
theorem dX16_takeBarrier_88 : decode cX16_takeBarrier 88 = .ok (.iload_n 1, 1) := by decide +kernel
theorem dX16_takeBarrier_89 : decode cX16_takeBarrier 89 = .ok (.iconst 2, 1) := by decide +kernel
theorem dX16_takeBarrier_90 : decode cX16_takeBarrier 90 = .ok (.lconst 0, 1) := by decide +kernel
theorem dX16_takeBarrier_91 : decode cX16_takeBarrier 91 = .ok (.invokevirtual 760, 3) := by decide +kernel
theorem dX16_takeBarrier_94 : decode cX16_takeBarrier 94 = .ok (.return_, 1) := by decide +kernel
set_option maxRecDepth 20000 in
theorem a_X16_takeBarrier_87 {Q : Sg → Unit → Prop} {X : Sg → String → Prop} (K : MC R p s m args c cX16_takeBarrier 7 RX16 D cA tys A n0 s0 4 104 []) (hQ : HQV p l e R s m args below meth c cX16_takeBarrier D cA A n0 s0 QM dm ra jx rm Q) (hX : HX p l e R s m args below meth c 7 D cA A n0 s0 QM dm ra jx rm X) : ∀ (σ : Sg) (v1 : Int) (g1 : rng v1), w_X16_takeBarrier_87 ra jx rm Q X σ v1 → RG σ → Shp dm ra jx rm σ → JJ p l e R s m args below meth c 7 D cA A n0 s0 QM σ 87 [(0, .ref rm), (1, .int (i32 v1))] [] := by
  intro σ v1 g1 h hGσ hS H locs ls hH hl hc
  have B := K.1
  unfold w_X16_takeBarrier_87 at h
  refine lv_aload_n B.1 B.2.1 dX16_takeBarrier_87 rfl (lv_at hl 0 rfl) ?_
  refine lv_iload_n B.1 B.2.1 dX16_takeBarrier_88 rfl (lv_at hl 1 rfl) ?_
  refine lv_iconst (v := i32 2) B.1 B.2.1 dX16_takeBarrier_89 (by decide) ?_
  refine lv_lconst (v := 0) B.1 B.2.1 dX16_takeBarrier_90 (by decide) ?_
  refine c_V B hH hl hc K.2.2.1 (C := RX16) (T := TX16) (N := 123) (ci := 16) (As := [.int (i32 v1), .int (i32 2), .long 0]) (ok_X16_spread K.2.1 σ v1 2 0 g1 (by unfold rng; omega) hGσ hS h) wc_X16_760 3 hd_X16_spread ⟨Nat.le_trans (Nat.le_of_ble_eq_true rfl) K.2.2.2.1, Nat.le_trans (Nat.le_of_ble_eq_true rfl) K.2.2.2.2.1⟩ hS.1.1 hS.1.2 (by decide) rfl rfl (rest := []) rfl (Nat.le_of_ble_eq_true rfl) dX16_takeBarrier_91 (fun σ9 w hq => ?_) (fun σ9 E9 hx9 => hX σ9 E9 _ _ _ (tb_out K.2.2.2.2.2 rfl) hx9.1 hx9.2.1 hx9.2.2)
  obtain ⟨rfl, h, hGσ9, hS⟩ := hq
  intro H locs ls hH hl hc
  refine W.eq (g2 := F0 m 94 ls []) (rfl) ?_
  try dsimp only at h
  exact hQ _ _ _ _ _ dX16_takeBarrier_94 hH hc h hGσ9 hS
set_option maxRecDepth 20000 in
theorem a_X16_takeBarrier_73 {Q : Sg → Unit → Prop} {X : Sg → String → Prop} (K : MC R p s m args c cX16_takeBarrier 7 RX16 D cA tys A n0 s0 4 104 []) (hQ : HQV p l e R s m args below meth c cX16_takeBarrier D cA A n0 s0 QM dm ra jx rm Q) (hX : HX p l e R s m args below meth c 7 D cA A n0 s0 QM dm ra jx rm X) {K64 : Sg → Int → Int → Int → Int → Prop} (hK64 : ∀ (σ : Sg) (v1 : Int) (v3 : Int) (v4 : Int) (v6 : Int) (g1 : rng v1) (g3 : rng v3) (g4 : rng v4) (g6 : rng v6), K64 σ v1 v3 v4 v6 → RG σ → Shp dm ra jx rm σ → JJ p l e R s m args below meth c 7 D cA A n0 s0 QM σ 64 [(0, .ref rm), (1, .int (i32 v1)), (3, .int (i32 v3)), (4, .int (i32 v4)), (6, .int (i32 v6))] []) : ∀ (σ : Sg) (v1 : Int) (v3 : Int) (v4 : Int) (v6 : Int) (g1 : rng v1) (g3 : rng v3) (g4 : rng v4) (g6 : rng v6), w_X16_takeBarrier_73 ra jx rm K64 Q X σ v1 v3 v4 v6 → RG σ → Shp dm ra jx rm σ → JJ p l e R s m args below meth c 7 D cA A n0 s0 QM σ 73 [(0, .ref rm), (1, .int (i32 v1)), (3, .int (i32 v3)), (4, .int (i32 v4)), (6, .int (i32 v6))] [] := by
  intro σ v1 v3 v4 v6 g1 g3 g4 g6 h hGσ hS H locs ls hH hl hc
  have B := K.1
  unfold w_X16_takeBarrier_73 at h
  refine lv_aload_n B.1 B.2.1 dX16_takeBarrier_73 rfl (lv_at hl 0 rfl) ?_
  refine r_arr B hH hS 57 (kd := 103) (n := 1100) (by decide) (by decide) wf_X16_456 rfl rfl dX16_takeBarrier_74 ?_
  refine lv_iload B.1 B.2.1 dX16_takeBarrier_77 (lv_at hl 4 rfl) ?_
  refine lv_iconst (v := i32 0) B.1 B.2.1 dX16_takeBarrier_79 (by decide) ?_
  obtain ⟨q1, h⟩ := h
  obtain ⟨σ10, eσ10⟩ : ∃ z, z = pI σ (ra 57) v6.toNat (nZ 0) := ⟨_, rfl⟩
  have h := h σ10 eσ10
  refine x_zast B K.2.1 hH (hS.ar (k := 57) (kd := 103) (n := 1100) (by decide)) (by decide) q1 dX16_takeBarrier_80 (fun H locs hH => ?_)
  have hH : Hd D cA A s (pI σ (ra 57) v6.toNat (nZ 0)) H locs := hH
  rw [← eσ10] at hH
  have hGσ10 : RG σ10 := by rw [eσ10]; exact hGσ.pI (rng_toInt _)
  have hS : Shp dm ra jx rm σ10 := by rw [eσ10]; exact hS
  have hc : CB n0 s0 σ10 := by rw [eσ10]; exact hc
  rw [show gc σ = gc σ10 by rw [eσ10], show gs σ = gs σ10 by rw [eσ10]]
  obtain ⟨q3, h⟩ := h
  refine lv_iinc (k := 4) (v := i32 (v6 + 1)) (lv' := [(6, .int (i32 (v6 + 1))), (0, .ref rm), (1, .int (i32 v1)), (3, .int (i32 v3)), (4, .int (i32 v4))]) B.1 B.2.1 dX16_takeBarrier_81 hl rfl (i32_add _ _) (by decide) rfl (fun ls hl => ?_)
  refine lv_goto (tgt := 64) B.1 B.2.1 dX16_takeBarrier_84 (by decide) ?_
  exact hK64 _ _ _ _ _ g1 g3 g4 q3 h hGσ10 hS _ _ _ hH (lv_sub (l' := [(0, .ref rm), (1, .int (i32 v1)), (3, .int (i32 v3)), (4, .int (i32 v4)), (6, .int (i32 (v6 + 1)))]) hl [1, 2, 3, 4, 0] rfl) hc
set_option maxRecDepth 20000 in
theorem a_X16_takeBarrier_64 {Q : Sg → Unit → Prop} {X : Sg → String → Prop} (K : MC R p s m args c cX16_takeBarrier 7 RX16 D cA tys A n0 s0 4 104 []) (hQ : HQV p l e R s m args below meth c cX16_takeBarrier D cA A n0 s0 QM dm ra jx rm Q) (hX : HX p l e R s m args below meth c 7 D cA A n0 s0 QM dm ra jx rm X) {K64 : Sg → Int → Int → Int → Int → Prop} (hK64 : ∀ (σ : Sg) (v1 : Int) (v3 : Int) (v4 : Int) (v6 : Int) (g1 : rng v1) (g3 : rng v3) (g4 : rng v4) (g6 : rng v6), K64 σ v1 v3 v4 v6 → RG σ → Shp dm ra jx rm σ → JJ p l e R s m args below meth c 7 D cA A n0 s0 QM σ 64 [(0, .ref rm), (1, .int (i32 v1)), (3, .int (i32 v3)), (4, .int (i32 v4)), (6, .int (i32 v6))] []) : ∀ (σ : Sg) (v1 : Int) (v3 : Int) (v4 : Int) (v6 : Int) (g1 : rng v1) (g3 : rng v3) (g4 : rng v4) (g6 : rng v6), w_X16_takeBarrier_64 ra jx rm K64 Q X σ v1 v3 v4 v6 → RG σ → Shp dm ra jx rm σ → JJ p l e R s m args below meth c 7 D cA A n0 s0 QM σ 64 [(0, .ref rm), (1, .int (i32 v1)), (3, .int (i32 v3)), (4, .int (i32 v4)), (6, .int (i32 v6))] [] := by
  intro σ v1 v3 v4 v6 g1 g3 g4 g6 h hGσ hS H locs ls hH hl hc
  have B := K.1
  unfold w_X16_takeBarrier_64 at h
  refine lv_iload B.1 B.2.1 dX16_takeBarrier_64 (lv_at hl 4 rfl) ?_
  refine lv_iload_n B.1 B.2.1 dX16_takeBarrier_66 rfl (lv_at hl 2 rfl) ?_
  refine lv_iload B.1 B.2.1 dX16_takeBarrier_67 (lv_at hl 3 rfl) ?_
  obtain ⟨q1, h⟩ := h
  refine lv_iadd B.1 B.2.1 dX16_takeBarrier_69 ?_
  rw [i32_add]
  refine lv_icmp_ge (tgt := 87) B.1 B.2.1 dX16_takeBarrier_70 (by decide) (fun h9 => ?_) (fun h9 => ?_)
  · rw [if_pos ((i32_le q1 g6).mp h9)] at h
    exact a_X16_takeBarrier_87 K hQ hX _ _ g1 h hGσ hS _ _ _ hH (lv_sub (l' := [(0, .ref rm), (1, .int (i32 v1))]) hl [0, 1] rfl) hc
  · rw [if_neg (fun q => h9 ((i32_le q1 g6).mpr q))] at h
    exact a_X16_takeBarrier_73 K hQ hX hK64 _ _ _ _ _ g1 g3 g4 g6 h hGσ hS _ _ _ hH (lv_sub (l' := [(0, .ref rm), (1, .int (i32 v1)), (3, .int (i32 v3)), (4, .int (i32 v4)), (6, .int (i32 v6))]) hl [0, 1, 2, 3, 4] rfl) hc
theorem al_X16_takeBarrier_64 {Q : Sg → Unit → Prop} {X : Sg → String → Prop} (K : MC R p s m args c cX16_takeBarrier 7 RX16 D cA tys A n0 s0 4 104 []) (hQ : HQV p l e R s m args below meth c cX16_takeBarrier D cA A n0 s0 QM dm ra jx rm Q) (hX : HX p l e R s m args below meth c 7 D cA A n0 s0 QM dm ra jx rm X) : ∀ (n : Nat), ∀ (σ : Sg) (v1 : Int) (v3 : Int) (v4 : Int) (v6 : Int) (g1 : rng v1) (g3 : rng v3) (g4 : rng v4) (g6 : rng v6), wl_X16_takeBarrier_64 ra jx rm Q X n σ v1 v3 v4 v6 → RG σ → Shp dm ra jx rm σ → JJ p l e R s m args below meth c 7 D cA A n0 s0 QM σ 64 [(0, .ref rm), (1, .int (i32 v1)), (3, .int (i32 v3)), (4, .int (i32 v4)), (6, .int (i32 v6))] [] := by
  intro n
  induction n with
  | zero => intro σ v1 v3 v4 v6 g1 g3 g4 g6 h; exact h.elim
  | succ n ih => exact fun σ v1 v3 v4 v6 g1 g3 g4 g6 h => a_X16_takeBarrier_64 K hQ hX ih σ v1 v3 v4 v6 g1 g3 g4 g6 h
set_option maxRecDepth 20000 in
theorem a_X16_takeBarrier_56 {Q : Sg → Unit → Prop} {X : Sg → String → Prop} (K : MC R p s m args c cX16_takeBarrier 7 RX16 D cA tys A n0 s0 4 104 []) (hQ : HQV p l e R s m args below meth c cX16_takeBarrier D cA A n0 s0 QM dm ra jx rm Q) (hX : HX p l e R s m args below meth c 7 D cA A n0 s0 QM dm ra jx rm X) : ∀ (σ : Sg) (v1 : Int) (v3 : Int) (v4 : Int) (g1 : rng v1) (g3 : rng v3) (g4 : rng v4), w_X16_takeBarrier_56 ra jx rm Q X σ v1 v3 v4 → RG σ → Shp dm ra jx rm σ → JJ p l e R s m args below meth c 7 D cA A n0 s0 QM σ 56 [(0, .ref rm), (1, .int (i32 v1)), (3, .int (i32 v3)), (4, .int (i32 v4))] [] := by
  intro σ v1 v3 v4 g1 g3 g4 h hGσ hS H locs ls hH hl hc
  have B := K.1
  unfold w_X16_takeBarrier_56 at h
  refine lv_aload_n B.1 B.2.1 dX16_takeBarrier_56 rfl (lv_at hl 0 rfl) ?_
  refine lv_iload_n B.1 B.2.1 dX16_takeBarrier_57 rfl (lv_at hl 1 rfl) ?_
  refine c_V B hH hl hc K.2.2.1 (C := RX16) (T := TX16) (N := 123) (ci := 16) (As := [.int (i32 v1)]) (ok_X16_part K.2.1 σ v1 g1 hGσ hS h) wc_X16_757 1 hd_X16_part ⟨Nat.le_trans (Nat.le_of_ble_eq_true rfl) K.2.2.2.1, Nat.le_trans (Nat.le_of_ble_eq_true rfl) K.2.2.2.2.1⟩ hS.1.1 hS.1.2 (by decide) rfl rfl (rest := []) rfl (Nat.le_of_ble_eq_true rfl) dX16_takeBarrier_58 (fun σ11 w hq => ?_) (fun σ9 E9 hx9 => hX σ9 E9 _ _ _ (tb_out K.2.2.2.2.2 rfl) hx9.1 hx9.2.1 hx9.2.2)
  obtain ⟨rfl, h, hGσ11, hS⟩ := hq
  intro H locs ls hH hl hc
  refine W.eq (g2 := F0 m 61 ls []) (rfl) ?_
  try dsimp only at h
  refine lv_iload_n B.1 B.2.1 dX16_takeBarrier_61 rfl (lv_at hl 2 rfl) ?_
  refine lv_istore (lv' := [(6, .int (i32 v3)), (0, .ref rm), (1, .int (i32 v1)), (3, .int (i32 v3)), (4, .int (i32 v4))]) B.1 B.2.1 dX16_takeBarrier_62 hl (by decide) rfl (fun ls hl => ?_)
  obtain ⟨n9, h⟩ := h
  exact al_X16_takeBarrier_64 K hQ hX n9 _ _ _ _ _ g1 g3 g4 g3 h hGσ11 hS _ _ _ hH (lv_sub (l' := [(0, .ref rm), (1, .int (i32 v1)), (3, .int (i32 v3)), (4, .int (i32 v4)), (6, .int (i32 v3))]) hl [1, 2, 3, 4, 0] rfl) hc
set_option maxRecDepth 20000 in
theorem a_X16_takeBarrier_55 {Q : Sg → Unit → Prop} {X : Sg → String → Prop} (K : MC R p s m args c cX16_takeBarrier 7 RX16 D cA tys A n0 s0 4 104 []) (hQ : HQV p l e R s m args below meth c cX16_takeBarrier D cA A n0 s0 QM dm ra jx rm Q) (hX : HX p l e R s m args below meth c 7 D cA A n0 s0 QM dm ra jx rm X) : ∀ (σ : Sg), w_X16_takeBarrier_55 ra jx rm Q X σ → RG σ → Shp dm ra jx rm σ → JJ p l e R s m args below meth c 7 D cA A n0 s0 QM σ 55 [(0, .ref rm)] [] := by
  intro σ h hGσ hS H locs ls hH hl hc
  have B := K.1
  unfold w_X16_takeBarrier_55 at h
  exact hQ _ _ _ _ _ dX16_takeBarrier_55 hH hc h hGσ hS
set_option maxRecDepth 20000 in
theorem a_X16_takeBarrier_50 {Q : Sg → Unit → Prop} {X : Sg → String → Prop} (K : MC R p s m args c cX16_takeBarrier 7 RX16 D cA tys A n0 s0 4 104 []) (hQ : HQV p l e R s m args below meth c cX16_takeBarrier D cA A n0 s0 QM dm ra jx rm Q) (hX : HX p l e R s m args below meth c 7 D cA A n0 s0 QM dm ra jx rm X) : ∀ (σ : Sg) (v1 : Int) (v3 : Int) (v4 : Int) (v5 : Int) (g1 : rng v1) (g3 : rng v3) (g4 : rng v4) (g5 : rng v5), w_X16_takeBarrier_50 ra jx rm Q X σ v1 v3 v4 v5 → RG σ → Shp dm ra jx rm σ → JJ p l e R s m args below meth c 7 D cA A n0 s0 QM σ 50 [(0, .ref rm), (1, .int (i32 v1)), (3, .int (i32 v3)), (4, .int (i32 v4)), (5, .int (i32 v5))] [] := by
  intro σ v1 v3 v4 v5 g1 g3 g4 g5 h hGσ hS H locs ls hH hl hc
  have B := K.1
  unfold w_X16_takeBarrier_50 at h
  refine lv_iload B.1 B.2.1 dX16_takeBarrier_50 (lv_at hl 4 rfl) ?_
  refine lv_if_ne (tgt := 56) B.1 B.2.1 dX16_takeBarrier_52 (by decide) (fun h9 => ?_) (fun h9 => ?_)
  · rw [if_pos (fun q => h9 ((z_eq g5).mpr q))] at h
    exact a_X16_takeBarrier_56 K hQ hX _ _ _ _ g1 g3 g4 h hGσ hS _ _ _ hH (lv_sub (l' := [(0, .ref rm), (1, .int (i32 v1)), (3, .int (i32 v3)), (4, .int (i32 v4))]) hl [0, 1, 2, 3] rfl) hc
  · rw [if_neg (fun q => q ((z_eq g5).mp h9))] at h
    exact a_X16_takeBarrier_55 K hQ hX _ h hGσ hS _ _ _ hH (lv_sub (l' := [(0, .ref rm)]) hl [0] rfl) hc
set_option maxRecDepth 20000 in
theorem a_X16_takeBarrier_42 {Q : Sg → Unit → Prop} {X : Sg → String → Prop} (K : MC R p s m args c cX16_takeBarrier 7 RX16 D cA tys A n0 s0 4 104 []) (hQ : HQV p l e R s m args below meth c cX16_takeBarrier D cA A n0 s0 QM dm ra jx rm Q) (hX : HX p l e R s m args below meth c 7 D cA A n0 s0 QM dm ra jx rm X) {K13 : Sg → Int → Int → Int → Int → Int → Prop} (hK13 : ∀ (σ : Sg) (v1 : Int) (v3 : Int) (v4 : Int) (v5 : Int) (v6 : Int) (g1 : rng v1) (g3 : rng v3) (g4 : rng v4) (g5 : rng v5) (g6 : rng v6), K13 σ v1 v3 v4 v5 v6 → RG σ → Shp dm ra jx rm σ → JJ p l e R s m args below meth c 7 D cA A n0 s0 QM σ 13 [(0, .ref rm), (1, .int (i32 v1)), (3, .int (i32 v3)), (4, .int (i32 v4)), (5, .int (i32 v5)), (6, .int (i32 v6))] []) : ∀ (σ : Sg) (v1 : Int) (v3 : Int) (v4 : Int) (v6 : Int) (u0 : Int) (g1 : rng v1) (g3 : rng v3) (g4 : rng v4) (g6 : rng v6) (gu0 : rng u0), w_X16_takeBarrier_42 ra jx rm K13 Q X σ v1 v3 v4 v6 u0 → RG σ → Shp dm ra jx rm σ → JJ p l e R s m args below meth c 7 D cA A n0 s0 QM σ 42 [(0, .ref rm), (1, .int (i32 v1)), (3, .int (i32 v3)), (4, .int (i32 v4)), (6, .int (i32 v6))] [.int (i32 u0)] := by
  intro σ v1 v3 v4 v6 u0 g1 g3 g4 g6 gu0 h hGσ hS H locs ls hH hl hc
  have B := K.1
  unfold w_X16_takeBarrier_42 at h
  refine lv_istore (lv' := [(5, .int (i32 u0)), (0, .ref rm), (1, .int (i32 v1)), (3, .int (i32 v3)), (4, .int (i32 v4)), (6, .int (i32 v6))]) B.1 B.2.1 dX16_takeBarrier_42 hl (by decide) rfl (fun ls hl => ?_)
  obtain ⟨q1, h⟩ := h
  refine lv_iinc (k := 5) (v := i32 (v6 + 1)) (lv' := [(6, .int (i32 (v6 + 1))), (5, .int (i32 u0)), (0, .ref rm), (1, .int (i32 v1)), (3, .int (i32 v3)), (4, .int (i32 v4))]) B.1 B.2.1 dX16_takeBarrier_44 hl rfl (i32_add _ _) (by decide) rfl (fun ls hl => ?_)
  refine lv_goto (tgt := 13) B.1 B.2.1 dX16_takeBarrier_47 (by decide) ?_
  exact hK13 _ _ _ _ _ _ g1 g3 g4 gu0 q1 h hGσ hS _ _ _ hH (lv_sub (l' := [(0, .ref rm), (1, .int (i32 v1)), (3, .int (i32 v3)), (4, .int (i32 v4)), (5, .int (i32 u0)), (6, .int (i32 (v6 + 1)))]) hl [2, 3, 4, 5, 1, 0] rfl) hc
set_option maxRecDepth 20000 in
theorem a_X16_takeBarrier_41 {Q : Sg → Unit → Prop} {X : Sg → String → Prop} (K : MC R p s m args c cX16_takeBarrier 7 RX16 D cA tys A n0 s0 4 104 []) (hQ : HQV p l e R s m args below meth c cX16_takeBarrier D cA A n0 s0 QM dm ra jx rm Q) (hX : HX p l e R s m args below meth c 7 D cA A n0 s0 QM dm ra jx rm X) {K13 : Sg → Int → Int → Int → Int → Int → Prop} (hK13 : ∀ (σ : Sg) (v1 : Int) (v3 : Int) (v4 : Int) (v5 : Int) (v6 : Int) (g1 : rng v1) (g3 : rng v3) (g4 : rng v4) (g5 : rng v5) (g6 : rng v6), K13 σ v1 v3 v4 v5 v6 → RG σ → Shp dm ra jx rm σ → JJ p l e R s m args below meth c 7 D cA A n0 s0 QM σ 13 [(0, .ref rm), (1, .int (i32 v1)), (3, .int (i32 v3)), (4, .int (i32 v4)), (5, .int (i32 v5)), (6, .int (i32 v6))] []) : ∀ (σ : Sg) (v1 : Int) (v3 : Int) (v4 : Int) (v6 : Int) (g1 : rng v1) (g3 : rng v3) (g4 : rng v4) (g6 : rng v6), w_X16_takeBarrier_41 ra jx rm K13 Q X σ v1 v3 v4 v6 → RG σ → Shp dm ra jx rm σ → JJ p l e R s m args below meth c 7 D cA A n0 s0 QM σ 41 [(0, .ref rm), (1, .int (i32 v1)), (3, .int (i32 v3)), (4, .int (i32 v4)), (6, .int (i32 v6))] [] := by
  intro σ v1 v3 v4 v6 g1 g3 g4 g6 h hGσ hS H locs ls hH hl hc
  have B := K.1
  unfold w_X16_takeBarrier_41 at h
  refine lv_iconst (v := i32 0) B.1 B.2.1 dX16_takeBarrier_41 (by decide) ?_
  exact a_X16_takeBarrier_42 K hQ hX hK13 _ _ _ _ _ _ g1 g3 g4 g6 (by unfold rng; omega) h hGσ hS _ _ _ hH (lv_sub (l' := [(0, .ref rm), (1, .int (i32 v1)), (3, .int (i32 v3)), (4, .int (i32 v4)), (6, .int (i32 v6))]) hl [0, 1, 2, 3, 4] rfl) hc
set_option maxRecDepth 20000 in
theorem a_X16_takeBarrier_37 {Q : Sg → Unit → Prop} {X : Sg → String → Prop} (K : MC R p s m args c cX16_takeBarrier 7 RX16 D cA tys A n0 s0 4 104 []) (hQ : HQV p l e R s m args below meth c cX16_takeBarrier D cA A n0 s0 QM dm ra jx rm Q) (hX : HX p l e R s m args below meth c 7 D cA A n0 s0 QM dm ra jx rm X) {K13 : Sg → Int → Int → Int → Int → Int → Prop} (hK13 : ∀ (σ : Sg) (v1 : Int) (v3 : Int) (v4 : Int) (v5 : Int) (v6 : Int) (g1 : rng v1) (g3 : rng v3) (g4 : rng v4) (g5 : rng v5) (g6 : rng v6), K13 σ v1 v3 v4 v5 v6 → RG σ → Shp dm ra jx rm σ → JJ p l e R s m args below meth c 7 D cA A n0 s0 QM σ 13 [(0, .ref rm), (1, .int (i32 v1)), (3, .int (i32 v3)), (4, .int (i32 v4)), (5, .int (i32 v5)), (6, .int (i32 v6))] []) : ∀ (σ : Sg) (v1 : Int) (v3 : Int) (v4 : Int) (v6 : Int) (g1 : rng v1) (g3 : rng v3) (g4 : rng v4) (g6 : rng v6), w_X16_takeBarrier_37 ra jx rm K13 Q X σ v1 v3 v4 v6 → RG σ → Shp dm ra jx rm σ → JJ p l e R s m args below meth c 7 D cA A n0 s0 QM σ 37 [(0, .ref rm), (1, .int (i32 v1)), (3, .int (i32 v3)), (4, .int (i32 v4)), (6, .int (i32 v6))] [] := by
  intro σ v1 v3 v4 v6 g1 g3 g4 g6 h hGσ hS H locs ls hH hl hc
  have B := K.1
  unfold w_X16_takeBarrier_37 at h
  refine lv_iconst (v := i32 1) B.1 B.2.1 dX16_takeBarrier_37 (by decide) ?_
  refine lv_goto (tgt := 42) B.1 B.2.1 dX16_takeBarrier_38 (by decide) ?_
  exact a_X16_takeBarrier_42 K hQ hX hK13 _ _ _ _ _ _ g1 g3 g4 g6 (by unfold rng; omega) h hGσ hS _ _ _ hH (lv_sub (l' := [(0, .ref rm), (1, .int (i32 v1)), (3, .int (i32 v3)), (4, .int (i32 v4)), (6, .int (i32 v6))]) hl [0, 1, 2, 3, 4] rfl) hc
set_option maxRecDepth 20000 in
theorem a_X16_takeBarrier_27 {Q : Sg → Unit → Prop} {X : Sg → String → Prop} (K : MC R p s m args c cX16_takeBarrier 7 RX16 D cA tys A n0 s0 4 104 []) (hQ : HQV p l e R s m args below meth c cX16_takeBarrier D cA A n0 s0 QM dm ra jx rm Q) (hX : HX p l e R s m args below meth c 7 D cA A n0 s0 QM dm ra jx rm X) {K13 : Sg → Int → Int → Int → Int → Int → Prop} (hK13 : ∀ (σ : Sg) (v1 : Int) (v3 : Int) (v4 : Int) (v5 : Int) (v6 : Int) (g1 : rng v1) (g3 : rng v3) (g4 : rng v4) (g5 : rng v5) (g6 : rng v6), K13 σ v1 v3 v4 v5 v6 → RG σ → Shp dm ra jx rm σ → JJ p l e R s m args below meth c 7 D cA A n0 s0 QM σ 13 [(0, .ref rm), (1, .int (i32 v1)), (3, .int (i32 v3)), (4, .int (i32 v4)), (5, .int (i32 v5)), (6, .int (i32 v6))] []) : ∀ (σ : Sg) (v1 : Int) (v3 : Int) (v4 : Int) (v6 : Int) (g1 : rng v1) (g3 : rng v3) (g4 : rng v4) (g6 : rng v6), w_X16_takeBarrier_27 ra jx rm K13 Q X σ v1 v3 v4 v6 → RG σ → Shp dm ra jx rm σ → JJ p l e R s m args below meth c 7 D cA A n0 s0 QM σ 27 [(0, .ref rm), (1, .int (i32 v1)), (3, .int (i32 v3)), (4, .int (i32 v4)), (6, .int (i32 v6))] [] := by
  intro σ v1 v3 v4 v6 g1 g3 g4 g6 h hGσ hS H locs ls hH hl hc
  have B := K.1
  unfold w_X16_takeBarrier_27 at h
  refine lv_aload_n B.1 B.2.1 dX16_takeBarrier_27 rfl (lv_at hl 0 rfl) ?_
  refine r_arr B hH hS 57 (kd := 103) (n := 1100) (by decide) (by decide) wf_X16_456 rfl rfl dX16_takeBarrier_28 ?_
  refine lv_iload B.1 B.2.1 dX16_takeBarrier_31 (lv_at hl 4 rfl) ?_
  obtain ⟨q1, h⟩ := h
  refine x_zald B K.2.1 hH (hS.ar (k := 57) (kd := 103) (n := 1100) (by decide)) (by decide) q1 dX16_takeBarrier_33 ?_
  refine lv_if_eq (tgt := 41) B.1 B.2.1 dX16_takeBarrier_34 (by decide) (fun h9 => ?_) (fun h9 => ?_)
  · rw [if_pos ((z_eq (hGσ _ _)).mp h9)] at h
    exact a_X16_takeBarrier_41 K hQ hX hK13 _ _ _ _ _ g1 g3 g4 g6 h hGσ hS _ _ _ hH (lv_sub (l' := [(0, .ref rm), (1, .int (i32 v1)), (3, .int (i32 v3)), (4, .int (i32 v4)), (6, .int (i32 v6))]) hl [0, 1, 2, 3, 4] rfl) hc
  · rw [if_neg (fun q => h9 ((z_eq (hGσ _ _)).mpr q))] at h
    exact a_X16_takeBarrier_37 K hQ hX hK13 _ _ _ _ _ g1 g3 g4 g6 h hGσ hS _ _ _ hH (lv_sub (l' := [(0, .ref rm), (1, .int (i32 v1)), (3, .int (i32 v3)), (4, .int (i32 v4)), (6, .int (i32 v6))]) hl [0, 1, 2, 3, 4] rfl) hc
set_option maxRecDepth 20000 in
theorem a_X16_takeBarrier_22 {Q : Sg → Unit → Prop} {X : Sg → String → Prop} (K : MC R p s m args c cX16_takeBarrier 7 RX16 D cA tys A n0 s0 4 104 []) (hQ : HQV p l e R s m args below meth c cX16_takeBarrier D cA A n0 s0 QM dm ra jx rm Q) (hX : HX p l e R s m args below meth c 7 D cA A n0 s0 QM dm ra jx rm X) {K13 : Sg → Int → Int → Int → Int → Int → Prop} (hK13 : ∀ (σ : Sg) (v1 : Int) (v3 : Int) (v4 : Int) (v5 : Int) (v6 : Int) (g1 : rng v1) (g3 : rng v3) (g4 : rng v4) (g5 : rng v5) (g6 : rng v6), K13 σ v1 v3 v4 v5 v6 → RG σ → Shp dm ra jx rm σ → JJ p l e R s m args below meth c 7 D cA A n0 s0 QM σ 13 [(0, .ref rm), (1, .int (i32 v1)), (3, .int (i32 v3)), (4, .int (i32 v4)), (5, .int (i32 v5)), (6, .int (i32 v6))] []) : ∀ (σ : Sg) (v1 : Int) (v3 : Int) (v4 : Int) (v5 : Int) (v6 : Int) (g1 : rng v1) (g3 : rng v3) (g4 : rng v4) (g5 : rng v5) (g6 : rng v6), w_X16_takeBarrier_22 ra jx rm K13 Q X σ v1 v3 v4 v5 v6 → RG σ → Shp dm ra jx rm σ → JJ p l e R s m args below meth c 7 D cA A n0 s0 QM σ 22 [(0, .ref rm), (1, .int (i32 v1)), (3, .int (i32 v3)), (4, .int (i32 v4)), (5, .int (i32 v5)), (6, .int (i32 v6))] [] := by
  intro σ v1 v3 v4 v5 v6 g1 g3 g4 g5 g6 h hGσ hS H locs ls hH hl hc
  have B := K.1
  unfold w_X16_takeBarrier_22 at h
  refine lv_iload B.1 B.2.1 dX16_takeBarrier_22 (lv_at hl 4 rfl) ?_
  refine lv_if_eq (tgt := 41) B.1 B.2.1 dX16_takeBarrier_24 (by decide) (fun h9 => ?_) (fun h9 => ?_)
  · rw [if_pos ((z_eq g5).mp h9)] at h
    exact a_X16_takeBarrier_41 K hQ hX hK13 _ _ _ _ _ g1 g3 g4 g6 h hGσ hS _ _ _ hH (lv_sub (l' := [(0, .ref rm), (1, .int (i32 v1)), (3, .int (i32 v3)), (4, .int (i32 v4)), (6, .int (i32 v6))]) hl [0, 1, 2, 3, 5] rfl) hc
  · rw [if_neg (fun q => h9 ((z_eq g5).mpr q))] at h
    exact a_X16_takeBarrier_27 K hQ hX hK13 _ _ _ _ _ g1 g3 g4 g6 h hGσ hS _ _ _ hH (lv_sub (l' := [(0, .ref rm), (1, .int (i32 v1)), (3, .int (i32 v3)), (4, .int (i32 v4)), (6, .int (i32 v6))]) hl [0, 1, 2, 3, 5] rfl) hc
set_option maxRecDepth 20000 in
theorem a_X16_takeBarrier_13 {Q : Sg → Unit → Prop} {X : Sg → String → Prop} (K : MC R p s m args c cX16_takeBarrier 7 RX16 D cA tys A n0 s0 4 104 []) (hQ : HQV p l e R s m args below meth c cX16_takeBarrier D cA A n0 s0 QM dm ra jx rm Q) (hX : HX p l e R s m args below meth c 7 D cA A n0 s0 QM dm ra jx rm X) {K13 : Sg → Int → Int → Int → Int → Int → Prop} (hK13 : ∀ (σ : Sg) (v1 : Int) (v3 : Int) (v4 : Int) (v5 : Int) (v6 : Int) (g1 : rng v1) (g3 : rng v3) (g4 : rng v4) (g5 : rng v5) (g6 : rng v6), K13 σ v1 v3 v4 v5 v6 → RG σ → Shp dm ra jx rm σ → JJ p l e R s m args below meth c 7 D cA A n0 s0 QM σ 13 [(0, .ref rm), (1, .int (i32 v1)), (3, .int (i32 v3)), (4, .int (i32 v4)), (5, .int (i32 v5)), (6, .int (i32 v6))] []) : ∀ (σ : Sg) (v1 : Int) (v3 : Int) (v4 : Int) (v5 : Int) (v6 : Int) (g1 : rng v1) (g3 : rng v3) (g4 : rng v4) (g5 : rng v5) (g6 : rng v6), w_X16_takeBarrier_13 ra jx rm K13 Q X σ v1 v3 v4 v5 v6 → RG σ → Shp dm ra jx rm σ → JJ p l e R s m args below meth c 7 D cA A n0 s0 QM σ 13 [(0, .ref rm), (1, .int (i32 v1)), (3, .int (i32 v3)), (4, .int (i32 v4)), (5, .int (i32 v5)), (6, .int (i32 v6))] [] := by
  intro σ v1 v3 v4 v5 v6 g1 g3 g4 g5 g6 h hGσ hS H locs ls hH hl hc
  have B := K.1
  unfold w_X16_takeBarrier_13 at h
  refine lv_iload B.1 B.2.1 dX16_takeBarrier_13 (lv_at hl 5 rfl) ?_
  refine lv_iload_n B.1 B.2.1 dX16_takeBarrier_15 rfl (lv_at hl 2 rfl) ?_
  refine lv_iload B.1 B.2.1 dX16_takeBarrier_16 (lv_at hl 3 rfl) ?_
  obtain ⟨q1, h⟩ := h
  refine lv_iadd B.1 B.2.1 dX16_takeBarrier_18 ?_
  rw [i32_add]
  refine lv_icmp_ge (tgt := 50) B.1 B.2.1 dX16_takeBarrier_19 (by decide) (fun h9 => ?_) (fun h9 => ?_)
  · rw [if_pos ((i32_le q1 g6).mp h9)] at h
    exact a_X16_takeBarrier_50 K hQ hX _ _ _ _ _ g1 g3 g4 g5 h hGσ hS _ _ _ hH (lv_sub (l' := [(0, .ref rm), (1, .int (i32 v1)), (3, .int (i32 v3)), (4, .int (i32 v4)), (5, .int (i32 v5))]) hl [0, 1, 2, 3, 4] rfl) hc
  · rw [if_neg (fun q => h9 ((i32_le q1 g6).mpr q))] at h
    exact a_X16_takeBarrier_22 K hQ hX hK13 _ _ _ _ _ _ g1 g3 g4 g5 g6 h hGσ hS _ _ _ hH (lv_sub (l' := [(0, .ref rm), (1, .int (i32 v1)), (3, .int (i32 v3)), (4, .int (i32 v4)), (5, .int (i32 v5)), (6, .int (i32 v6))]) hl [0, 1, 2, 3, 4, 5] rfl) hc
theorem al_X16_takeBarrier_13 {Q : Sg → Unit → Prop} {X : Sg → String → Prop} (K : MC R p s m args c cX16_takeBarrier 7 RX16 D cA tys A n0 s0 4 104 []) (hQ : HQV p l e R s m args below meth c cX16_takeBarrier D cA A n0 s0 QM dm ra jx rm Q) (hX : HX p l e R s m args below meth c 7 D cA A n0 s0 QM dm ra jx rm X) : ∀ (n : Nat), ∀ (σ : Sg) (v1 : Int) (v3 : Int) (v4 : Int) (v5 : Int) (v6 : Int) (g1 : rng v1) (g3 : rng v3) (g4 : rng v4) (g5 : rng v5) (g6 : rng v6), wl_X16_takeBarrier_13 ra jx rm Q X n σ v1 v3 v4 v5 v6 → RG σ → Shp dm ra jx rm σ → JJ p l e R s m args below meth c 7 D cA A n0 s0 QM σ 13 [(0, .ref rm), (1, .int (i32 v1)), (3, .int (i32 v3)), (4, .int (i32 v4)), (5, .int (i32 v5)), (6, .int (i32 v6))] [] := by
  intro n
  induction n with
  | zero => intro σ v1 v3 v4 v5 v6 g1 g3 g4 g5 g6 h; exact h.elim
  | succ n ih => exact fun σ v1 v3 v4 v5 v6 g1 g3 g4 g5 g6 h => a_X16_takeBarrier_13 K hQ hX ih σ v1 v3 v4 v5 v6 g1 g3 g4 g5 g6 h
set_option maxRecDepth 20000 in
theorem a_X16_takeBarrier_0 {Q : Sg → Unit → Prop} {X : Sg → String → Prop} (K : MC R p s m args c cX16_takeBarrier 7 RX16 D cA tys A n0 s0 4 104 []) (hQ : HQV p l e R s m args below meth c cX16_takeBarrier D cA A n0 s0 QM dm ra jx rm Q) (hX : HX p l e R s m args below meth c 7 D cA A n0 s0 QM dm ra jx rm X) : ∀ (σ : Sg) (v1 : Int) (v2 : Int) (v3 : Int) (v4 : Int) (g1 : rng v1) (g2 : rng v2) (g3 : rng v3) (g4 : rng v4), w_X16_takeBarrier_0 ra jx rm Q X σ v1 v2 v3 v4 → RG σ → Shp dm ra jx rm σ → JJ p l e R s m args below meth c 7 D cA A n0 s0 QM σ 0 [(0, .ref rm), (1, .int (i32 v1)), (2, .int (i32 v2)), (3, .int (i32 v3)), (4, .int (i32 v4))] [] := by
  intro σ v1 v2 v3 v4 g1 g2 g3 g4 h hGσ hS H locs ls hH hl hc
  have B := K.1
  unfold w_X16_takeBarrier_0 at h
  refine lv_aload_n B.1 B.2.1 dX16_takeBarrier_0 rfl (lv_at hl 0 rfl) ?_
  refine r_arr B hH hS 57 (kd := 103) (n := 1100) (by decide) (by decide) wf_X16_456 rfl rfl dX16_takeBarrier_1 ?_
  refine lv_iload_n B.1 B.2.1 dX16_takeBarrier_4 rfl (lv_at hl 2 rfl) ?_
  refine lv_iconst (v := i32 1) B.1 B.2.1 dX16_takeBarrier_5 (by decide) ?_
  obtain ⟨q1, h⟩ := h
  obtain ⟨σ12, eσ12⟩ : ∃ z, z = pI σ (ra 57) v2.toNat (nZ 1) := ⟨_, rfl⟩
  have h := h σ12 eσ12
  refine x_zast B K.2.1 hH (hS.ar (k := 57) (kd := 103) (n := 1100) (by decide)) (by decide) q1 dX16_takeBarrier_6 (fun H locs hH => ?_)
  have hH : Hd D cA A s (pI σ (ra 57) v2.toNat (nZ 1)) H locs := hH
  rw [← eσ12] at hH
  have hGσ12 : RG σ12 := by rw [eσ12]; exact hGσ.pI (rng_toInt _)
  have hS : Shp dm ra jx rm σ12 := by rw [eσ12]; exact hS
  have hc : CB n0 s0 σ12 := by rw [eσ12]; exact hc
  rw [show gc σ = gc σ12 by rw [eσ12], show gs σ = gs σ12 by rw [eσ12]]
  refine lv_iconst (v := i32 1) B.1 B.2.1 dX16_takeBarrier_7 (by decide) ?_
  refine lv_istore (lv' := [(5, .int (i32 1)), (0, .ref rm), (1, .int (i32 v1)), (2, .int (i32 v2)), (3, .int (i32 v3)), (4, .int (i32 v4))]) B.1 B.2.1 dX16_takeBarrier_8 hl (by decide) rfl (fun ls hl => ?_)
  refine lv_iload_n B.1 B.2.1 dX16_takeBarrier_10 rfl (lv_at hl 4 rfl) ?_
  refine lv_istore (lv' := [(6, .int (i32 v3)), (5, .int (i32 1)), (0, .ref rm), (1, .int (i32 v1)), (2, .int (i32 v2)), (3, .int (i32 v3)), (4, .int (i32 v4))]) B.1 B.2.1 dX16_takeBarrier_11 hl (by decide) rfl (fun ls hl => ?_)
  obtain ⟨n9, h⟩ := h
  exact al_X16_takeBarrier_13 K hQ hX n9 _ _ _ _ _ _ g1 g3 g4 (by unfold rng; omega) g3 h hGσ12 hS _ _ _ hH (lv_sub (l' := [(0, .ref rm), (1, .int (i32 v1)), (3, .int (i32 v3)), (4, .int (i32 v4)), (5, .int (i32 1)), (6, .int (i32 v3))]) hl [2, 3, 5, 6, 1, 0] rfl) hc
theorem ok_X16_takeBarrier (hT : Tys cA tys) {Q : Sg → Unit → Prop} {X : Sg → String → Prop} (σ : Sg) (v1 : Int) (v2 : Int) (v3 : Int) (v4 : Int) (g1 : rng v1) (g2 : rng v2) (g3 : rng v3) (g4 : rng v4) (hG : RG σ) (hS : Shp dm ra jx rm σ) (h : wp_X16_takeBarrier ra jx rm v1 v2 v3 v4 σ Q X) : Ok l D cA tys A yX16_takeBarrier (.code yX16_takeBarrier cX16_takeBarrier 7 none) 4 104 [.ref rm, .int (i32 v1), .int (i32 v2), .int (i32 v3), .int (i32 v4)] σ (QnV dm ra jx rm Q) (QxR dm ra jx rm X) := by
  unfold wp_X16_takeBarrier at h
  exact ok_V (plainFor_of_name (by decide)) (by exact Nat.le_of_ble_eq_true rfl) hT (fun p e R s m args below meth c K hQ hX H locs ls hH hl hc => a_X16_takeBarrier_0 K hQ hX σ v1 v2 v3 v4 g1 g2 g3 g4 h hG hS H locs ls hH (lv_sub (l' := [(0, .ref rm), (1, .int (i32 v1)), (2, .int (i32 v2)), (3, .int (i32 v3)), (4, .int (i32 v4))]) hl [0, 1, 2, 3, 4] rfl) hc)
theorem dX16_pend_0 : decode cX16_pend 0 = .ok (.aload_n 0, 1) := by decide +kernel
theorem dX16_pend_1 : decode cX16_pend 1 = .ok (.getfield 658, 3) := by decide +kernel
theorem dX16_pend_4 : decode cX16_pend 4 = .ok (.sipush 2000, 3) := by decide +kernel
theorem dX16_pend_7 : decode cX16_pend 7 = .ok (.if_icmp .ne 8, 3) := by decide +kernel
theorem dX16_pend_10 : decode cX16_pend 10 = .ok (.aload_n 0, 1) := by decide +kernel
theorem dX16_pend_11 : decode cX16_pend 11 = .ok (.getfield 346, 3) := by decide +kernel
theorem dX16_pend_14 : decode cX16_pend 14 = .ok (.athrow, 1) := by decide +kernel
theorem dX16_pend_15 : decode cX16_pend 15 = .ok (.aload_n 0, 1) := by decide +kernel
theorem dX16_pend_16 : decode cX16_pend 16 = .ok (.getfield 655, 3) := by decide +kernel
theorem dX16_pend_19 : decode cX16_pend 19 = .ok (.istore 6, 2) := by decide +kernel
theorem dX16_pend_21 : decode cX16_pend 21 = .ok (.aload_n 0, 1) := by decide +kernel
theorem dX16_pend_22 : decode cX16_pend 22 = .ok (.aload_n 0, 1) := by decide +kernel
theorem dX16_pend_23 : decode cX16_pend 23 = .ok (.getfield 652, 3) := by decide +kernel
theorem dX16_pend_26 : decode cX16_pend 26 = .ok (.iload 6, 2) := by decide +kernel
theorem dX16_pend_28 : decode cX16_pend 28 = .ok (.iaload, 1) := by decide +kernel
theorem dX16_pend_29 : decode cX16_pend 29 = .ok (.putfield 655, 3) := by decide +kernel
theorem dX16_pend_32 : decode cX16_pend 32 = .ok (.aload_n 0, 1) := by decide +kernel
theorem dX16_pend_33 : decode cX16_pend 33 = .ok (.dup, 1) := by decide +kernel
theorem dX16_pend_34 : decode cX16_pend 34 = .ok (.getfield 658, 3) := by decide +kernel
theorem dX16_pend_37 : decode cX16_pend 37 = .ok (.iconst 1, 1) := by decide +kernel
theorem dX16_pend_38 : decode cX16_pend 38 = .ok (.iadd, 1) := by decide +kernel
theorem dX16_pend_39 : decode cX16_pend 39 = .ok (.putfield 658, 3) := by decide +kernel
theorem dX16_pend_42 : decode cX16_pend 42 = .ok (.aload_n 0, 1) := by decide +kernel
theorem dX16_pend_43 : decode cX16_pend 43 = .ok (.getfield 670, 3) := by decide +kernel
theorem dX16_pend_46 : decode cX16_pend 46 = .ok (.iload 6, 2) := by decide +kernel
theorem dX16_pend_48 : decode cX16_pend 48 = .ok (.lload_n 2, 1) := by decide +kernel
theorem dX16_pend_49 : decode cX16_pend 49 = .ok (.lastore, 1) := by decide +kernel
theorem dX16_pend_50 : decode cX16_pend 50 = .ok (.iconst 0, 1) := by decide +kernel
theorem dX16_pend_51 : decode cX16_pend 51 = .ok (.istore 7, 2) := by decide +kernel
theorem dX16_pend_53 : decode cX16_pend 53 = .ok (.iload 7, 2) := by decide +kernel
theorem dX16_pend_55 : decode cX16_pend 55 = .ok (.bipush 8, 2) := by decide +kernel
theorem dX16_pend_57 : decode cX16_pend 57 = .ok (.if_icmp .ge 29, 3) := by decide +kernel
theorem dX16_pend_60 : decode cX16_pend 60 = .ok (.aload_n 0, 1) := by decide +kernel
theorem dX16_pend_61 : decode cX16_pend 61 = .ok (.getfield 673, 3) := by decide +kernel
theorem dX16_pend_64 : decode cX16_pend 64 = .ok (.bipush 8, 2) := by decide +kernel
theorem dX16_pend_66 : decode cX16_pend 66 = .ok (.iload 6, 2) := by decide +kernel
theorem dX16_pend_68 : decode cX16_pend 68 = .ok (.imul, 1) := by decide +kernel
theorem dX16_pend_69 : decode cX16_pend 69 = .ok (.iload 7, 2) := by decide +kernel
theorem dX16_pend_71 : decode cX16_pend 71 = .ok (.iadd, 1) := by decide +kernel
theorem dX16_pend_72 : decode cX16_pend 72 = .ok (.aload_n 0, 1) := by decide +kernel
theorem dX16_pend_73 : decode cX16_pend 73 = .ok (.getfield 542, 3) := by decide +kernel
theorem dX16_pend_76 : decode cX16_pend 76 = .ok (.iload 7, 2) := by decide +kernel
theorem dX16_pend_78 : decode cX16_pend 78 = .ok (.laload, 1) := by decide +kernel
theorem dX16_pend_79 : decode cX16_pend 79 = .ok (.lastore, 1) := by decide +kernel
theorem dX16_pend_80 : decode cX16_pend 80 = .ok (.iinc 7 1, 3) := by decide +kernel
theorem dX16_pend_83 : decode cX16_pend 83 = .ok (.goto (-30), 3) := by decide +kernel
theorem dX16_pend_86 : decode cX16_pend 86 = .ok (.aload_n 0, 1) := by decide +kernel
theorem dX16_pend_87 : decode cX16_pend 87 = .ok (.getfield 676, 3) := by decide +kernel
theorem dX16_pend_90 : decode cX16_pend 90 = .ok (.iload 6, 2) := by decide +kernel
theorem dX16_pend_92 : decode cX16_pend 92 = .ok (.iload 5, 2) := by decide +kernel
theorem dX16_pend_94 : decode cX16_pend 94 = .ok (.iastore, 1) := by decide +kernel
theorem dX16_pend_95 : decode cX16_pend 95 = .ok (.aload_n 0, 1) := by decide +kernel
theorem dX16_pend_96 : decode cX16_pend 96 = .ok (.iconst 3, 1) := by decide +kernel
theorem dX16_pend_97 : decode cX16_pend 97 = .ok (.iload_n 1, 1) := by decide +kernel
theorem dX16_pend_98 : decode cX16_pend 98 = .ok (.imul, 1) := by decide +kernel
theorem dX16_pend_99 : decode cX16_pend 99 = .ok (.iload 6, 2) := by decide +kernel
theorem dX16_pend_101 : decode cX16_pend 101 = .ok (.invokevirtual 679, 3) := by decide +kernel
theorem dX16_pend_104 : decode cX16_pend 104 = .ok (.return_, 1) := by decide +kernel
set_option maxRecDepth 20000 in
theorem a_X16_pend_86 {Q : Sg → Unit → Prop} {X : Sg → String → Prop} (K : MC R p s m args c cX16_pend 8 RX16 D cA tys A n0 s0 1 22 []) (hQ : HQV p l e R s m args below meth c cX16_pend D cA A n0 s0 QM dm ra jx rm Q) (hX : HX p l e R s m args below meth c 8 D cA A n0 s0 QM dm ra jx rm X) : ∀ (σ : Sg) (v1 : Int) (v5 : Int) (v6 : Int) (g1 : rng v1) (g5 : rng v5) (g6 : rng v6), w_X16_pend_86 ra jx rm Q X σ v1 v5 v6 → RG σ → Shp dm ra jx rm σ → JJ p l e R s m args below meth c 8 D cA A n0 s0 QM σ 86 [(0, .ref rm), (1, .int (i32 v1)), (5, .int (i32 v5)), (6, .int (i32 v6))] [] := by
  intro σ v1 v5 v6 g1 g5 g6 h hGσ hS H locs ls hH hl hc
  have B := K.1
  unfold w_X16_pend_86 at h
  refine lv_aload_n B.1 B.2.1 dX16_pend_86 rfl (lv_at hl 0 rfl) ?_
  refine r_arr B hH hS 85 (kd := 100) (n := 2000) (by decide) (by decide) wf_X16_676 rfl rfl dX16_pend_87 ?_
  refine lv_iload B.1 B.2.1 dX16_pend_90 (lv_at hl 3 rfl) ?_
  refine lv_iload B.1 B.2.1 dX16_pend_92 (lv_at hl 2 rfl) ?_
  obtain ⟨q1, h⟩ := h
  obtain ⟨σ13, eσ13⟩ : ∃ z, z = pI σ (ra 85) v6.toNat v5 := ⟨_, rfl⟩
  have h := h σ13 eσ13
  refine x_iast B K.2.1 hH (hS.ar (k := 85) (kd := 100) (n := 2000) (by decide)) (by decide) q1 dX16_pend_94 (fun H locs hH => ?_)
  have hH : Hd D cA A s (pI σ (ra 85) v6.toNat v5) H locs := hH
  rw [← eσ13] at hH
  have hGσ13 : RG σ13 := by rw [eσ13]; exact hGσ.pI g5
  have hS : Shp dm ra jx rm σ13 := by rw [eσ13]; exact hS
  have hc : CB n0 s0 σ13 := by rw [eσ13]; exact hc
  rw [show gc σ = gc σ13 by rw [eσ13], show gs σ = gs σ13 by rw [eσ13]]
  refine lv_aload_n B.1 B.2.1 dX16_pend_95 rfl (lv_at hl 0 rfl) ?_
  refine lv_iconst (v := i32 3) B.1 B.2.1 dX16_pend_96 (by decide) ?_
  refine lv_iload_n B.1 B.2.1 dX16_pend_97 rfl (lv_at hl 1 rfl) ?_
  obtain ⟨q3, h⟩ := h
  refine lv_imul B.1 B.2.1 dX16_pend_98 ?_
  rw [i32_mul]
  refine lv_iload B.1 B.2.1 dX16_pend_99 (lv_at hl 3 rfl) ?_
  refine c_V B hH hl hc K.2.2.1 (C := RX16) (T := TX16) (N := 123) (ci := 16) (As := [.int (i32 (3 * v1)), .int (i32 v6)]) (ok_X16_hang K.2.1 σ13 (3 * v1) v6 q3 g6 hGσ13 hS h) wc_X16_679 2 hd_X16_hang ⟨Nat.le_trans (Nat.le_of_ble_eq_true rfl) K.2.2.2.1, Nat.le_trans (Nat.le_of_ble_eq_true rfl) K.2.2.2.2.1⟩ hS.1.1 hS.1.2 (by decide) rfl rfl (rest := []) rfl (Nat.le_of_ble_eq_true rfl) dX16_pend_101 (fun σ14 w hq => ?_) (fun σ9 E9 hx9 => hX σ9 E9 _ _ _ (tb_out K.2.2.2.2.2 rfl) hx9.1 hx9.2.1 hx9.2.2)
  obtain ⟨rfl, h, hGσ14, hS⟩ := hq
  intro H locs ls hH hl hc
  refine W.eq (g2 := F0 m 104 ls []) (rfl) ?_
  try dsimp only at h
  exact hQ _ _ _ _ _ dX16_pend_104 hH hc h hGσ14 hS
set_option maxRecDepth 20000 in
theorem a_X16_pend_60 {Q : Sg → Unit → Prop} {X : Sg → String → Prop} (K : MC R p s m args c cX16_pend 8 RX16 D cA tys A n0 s0 1 22 []) (hQ : HQV p l e R s m args below meth c cX16_pend D cA A n0 s0 QM dm ra jx rm Q) (hX : HX p l e R s m args below meth c 8 D cA A n0 s0 QM dm ra jx rm X) {K53 : Sg → Int → Int → Int → Int → Prop} (hK53 : ∀ (σ : Sg) (v1 : Int) (v5 : Int) (v6 : Int) (v7 : Int) (g1 : rng v1) (g5 : rng v5) (g6 : rng v6) (g7 : rng v7), K53 σ v1 v5 v6 v7 → RG σ → Shp dm ra jx rm σ → JJ p l e R s m args below meth c 8 D cA A n0 s0 QM σ 53 [(0, .ref rm), (1, .int (i32 v1)), (5, .int (i32 v5)), (6, .int (i32 v6)), (7, .int (i32 v7))] []) : ∀ (σ : Sg) (v1 : Int) (v5 : Int) (v6 : Int) (v7 : Int) (g1 : rng v1) (g5 : rng v5) (g6 : rng v6) (g7 : rng v7), w_X16_pend_60 ra jx rm K53 Q X σ v1 v5 v6 v7 → RG σ → Shp dm ra jx rm σ → JJ p l e R s m args below meth c 8 D cA A n0 s0 QM σ 60 [(0, .ref rm), (1, .int (i32 v1)), (5, .int (i32 v5)), (6, .int (i32 v6)), (7, .int (i32 v7))] [] := by
  intro σ v1 v5 v6 v7 g1 g5 g6 g7 h hGσ hS H locs ls hH hl hc
  have B := K.1
  unfold w_X16_pend_60 at h
  refine lv_aload_n B.1 B.2.1 dX16_pend_60 rfl (lv_at hl 0 rfl) ?_
  refine r_arr B hH hS 84 (kd := 101) (n := 16000) (by decide) (by decide) wf_X16_673 rfl rfl dX16_pend_61 ?_
  refine lv_bipush (v := i32 8) B.1 B.2.1 dX16_pend_64 (by decide) ?_
  refine lv_iload B.1 B.2.1 dX16_pend_66 (lv_at hl 3 rfl) ?_
  obtain ⟨q1, h⟩ := h
  refine lv_imul B.1 B.2.1 dX16_pend_68 ?_
  rw [i32_mul]
  refine lv_iload B.1 B.2.1 dX16_pend_69 (lv_at hl 4 rfl) ?_
  obtain ⟨q2, h⟩ := h
  refine lv_iadd B.1 B.2.1 dX16_pend_71 ?_
  rw [i32_add]
  refine lv_aload_n B.1 B.2.1 dX16_pend_72 rfl (lv_at hl 0 rfl) ?_
  refine r_arr B hH hS 81 (kd := 101) (n := 8) (by decide) (by decide) wf_X16_542 rfl rfl dX16_pend_73 ?_
  refine lv_iload B.1 B.2.1 dX16_pend_76 (lv_at hl 4 rfl) ?_
  obtain ⟨q3, h⟩ := h
  refine x_lald B K.2.1 hH (hS.ar (k := 81) (kd := 101) (n := 8) (by decide)) (by decide) q3 dX16_pend_78 ?_
  obtain ⟨q4, h⟩ := h
  obtain ⟨σ15, eσ15⟩ : ∃ z, z = pJ σ (ra 84) ((8 * v6) + v7).toNat (gJ σ (ra 81) v7.toNat) := ⟨_, rfl⟩
  have h := h σ15 eσ15
  refine x_last B K.2.1 hH (hS.ar (k := 84) (kd := 101) (n := 16000) (by decide)) (by decide) q4 dX16_pend_79 (fun H locs hH => ?_)
  have hH : Hd D cA A s (pJ σ (ra 84) ((8 * v6) + v7).toNat (gJ σ (ra 81) v7.toNat)) H locs := hH
  rw [← eσ15] at hH
  have hGσ15 : RG σ15 := by rw [eσ15]; exact hGσ.pJ
  have hS : Shp dm ra jx rm σ15 := by rw [eσ15]; exact hS
  have hc : CB n0 s0 σ15 := by rw [eσ15]; exact hc
  rw [show gc σ = gc σ15 by rw [eσ15], show gs σ = gs σ15 by rw [eσ15]]
  obtain ⟨q6, h⟩ := h
  refine lv_iinc (k := 4) (v := i32 (v7 + 1)) (lv' := [(7, .int (i32 (v7 + 1))), (0, .ref rm), (1, .int (i32 v1)), (5, .int (i32 v5)), (6, .int (i32 v6))]) B.1 B.2.1 dX16_pend_80 hl rfl (i32_add _ _) (by decide) rfl (fun ls hl => ?_)
  refine lv_goto (tgt := 53) B.1 B.2.1 dX16_pend_83 (by decide) ?_
  exact hK53 _ _ _ _ _ g1 g5 g6 q6 h hGσ15 hS _ _ _ hH (lv_sub (l' := [(0, .ref rm), (1, .int (i32 v1)), (5, .int (i32 v5)), (6, .int (i32 v6)), (7, .int (i32 (v7 + 1)))]) hl [1, 2, 3, 4, 0] rfl) hc
set_option maxRecDepth 20000 in
theorem a_X16_pend_53 {Q : Sg → Unit → Prop} {X : Sg → String → Prop} (K : MC R p s m args c cX16_pend 8 RX16 D cA tys A n0 s0 1 22 []) (hQ : HQV p l e R s m args below meth c cX16_pend D cA A n0 s0 QM dm ra jx rm Q) (hX : HX p l e R s m args below meth c 8 D cA A n0 s0 QM dm ra jx rm X) {K53 : Sg → Int → Int → Int → Int → Prop} (hK53 : ∀ (σ : Sg) (v1 : Int) (v5 : Int) (v6 : Int) (v7 : Int) (g1 : rng v1) (g5 : rng v5) (g6 : rng v6) (g7 : rng v7), K53 σ v1 v5 v6 v7 → RG σ → Shp dm ra jx rm σ → JJ p l e R s m args below meth c 8 D cA A n0 s0 QM σ 53 [(0, .ref rm), (1, .int (i32 v1)), (5, .int (i32 v5)), (6, .int (i32 v6)), (7, .int (i32 v7))] []) : ∀ (σ : Sg) (v1 : Int) (v5 : Int) (v6 : Int) (v7 : Int) (g1 : rng v1) (g5 : rng v5) (g6 : rng v6) (g7 : rng v7), w_X16_pend_53 ra jx rm K53 Q X σ v1 v5 v6 v7 → RG σ → Shp dm ra jx rm σ → JJ p l e R s m args below meth c 8 D cA A n0 s0 QM σ 53 [(0, .ref rm), (1, .int (i32 v1)), (5, .int (i32 v5)), (6, .int (i32 v6)), (7, .int (i32 v7))] [] := by
  intro σ v1 v5 v6 v7 g1 g5 g6 g7 h hGσ hS H locs ls hH hl hc
  have B := K.1
  unfold w_X16_pend_53 at h
  refine lv_iload B.1 B.2.1 dX16_pend_53 (lv_at hl 4 rfl) ?_
  refine lv_bipush (v := i32 8) B.1 B.2.1 dX16_pend_55 (by decide) ?_
  refine lv_icmp_ge (tgt := 86) B.1 B.2.1 dX16_pend_57 (by decide) (fun h9 => ?_) (fun h9 => ?_)
  · rw [if_pos ((i32_le (by unfold rng; omega) g7).mp h9)] at h
    exact a_X16_pend_86 K hQ hX _ _ _ _ g1 g5 g6 h hGσ hS _ _ _ hH (lv_sub (l' := [(0, .ref rm), (1, .int (i32 v1)), (5, .int (i32 v5)), (6, .int (i32 v6))]) hl [0, 1, 2, 3] rfl) hc
  · rw [if_neg (fun q => h9 ((i32_le (by unfold rng; omega) g7).mpr q))] at h
    exact a_X16_pend_60 K hQ hX hK53 _ _ _ _ _ g1 g5 g6 g7 h hGσ hS _ _ _ hH (lv_sub (l' := [(0, .ref rm), (1, .int (i32 v1)), (5, .int (i32 v5)), (6, .int (i32 v6)), (7, .int (i32 v7))]) hl [0, 1, 2, 3, 4] rfl) hc
theorem al_X16_pend_53 {Q : Sg → Unit → Prop} {X : Sg → String → Prop} (K : MC R p s m args c cX16_pend 8 RX16 D cA tys A n0 s0 1 22 []) (hQ : HQV p l e R s m args below meth c cX16_pend D cA A n0 s0 QM dm ra jx rm Q) (hX : HX p l e R s m args below meth c 8 D cA A n0 s0 QM dm ra jx rm X) : ∀ (n : Nat), ∀ (σ : Sg) (v1 : Int) (v5 : Int) (v6 : Int) (v7 : Int) (g1 : rng v1) (g5 : rng v5) (g6 : rng v6) (g7 : rng v7), wl_X16_pend_53 ra jx rm Q X n σ v1 v5 v6 v7 → RG σ → Shp dm ra jx rm σ → JJ p l e R s m args below meth c 8 D cA A n0 s0 QM σ 53 [(0, .ref rm), (1, .int (i32 v1)), (5, .int (i32 v5)), (6, .int (i32 v6)), (7, .int (i32 v7))] [] := by
  intro n
  induction n with
  | zero => intro σ v1 v5 v6 v7 g1 g5 g6 g7 h; exact h.elim
  | succ n ih => exact fun σ v1 v5 v6 v7 g1 g5 g6 g7 h => a_X16_pend_53 K hQ hX ih σ v1 v5 v6 v7 g1 g5 g6 g7 h
set_option maxRecDepth 20000 in
theorem a_X16_pend_15 {Q : Sg → Unit → Prop} {X : Sg → String → Prop} (K : MC R p s m args c cX16_pend 8 RX16 D cA tys A n0 s0 1 22 []) (hQ : HQV p l e R s m args below meth c cX16_pend D cA A n0 s0 QM dm ra jx rm Q) (hX : HX p l e R s m args below meth c 8 D cA A n0 s0 QM dm ra jx rm X) : ∀ (σ : Sg) (v1 : Int) (v2 : Int64) (v5 : Int) (g1 : rng v1) (g5 : rng v5), w_X16_pend_15 ra jx rm Q X σ v1 v2 v5 → RG σ → Shp dm ra jx rm σ → JJ p l e R s m args below meth c 8 D cA A n0 s0 QM σ 15 [(0, .ref rm), (1, .int (i32 v1)), (2, .long v2), (5, .int (i32 v5))] [] := by
  intro σ v1 v2 v5 g1 g5 h hGσ hS H locs ls hH hl hc
  have B := K.1
  unfold w_X16_pend_15 at h
  refine lv_aload_n B.1 B.2.1 dX16_pend_15 rfl (lv_at hl 0 rfl) ?_
  refine r_geti B hH hS 90 (by decide) wf_X16_655 rfl rfl dX16_pend_16 ?_
  refine lv_istore (lv' := [(6, .int (i32 (gI σ rm 90))), (0, .ref rm), (1, .int (i32 v1)), (2, .long v2), (5, .int (i32 v5))]) B.1 B.2.1 dX16_pend_19 hl (by decide) rfl (fun ls hl => ?_)
  refine lv_aload_n B.1 B.2.1 dX16_pend_21 rfl (lv_at hl 1 rfl) ?_
  refine lv_aload_n B.1 B.2.1 dX16_pend_22 rfl (lv_at hl 1 rfl) ?_
  refine r_arr B hH hS 86 (kd := 100) (n := 2000) (by decide) (by decide) wf_X16_652 rfl rfl dX16_pend_23 ?_
  refine lv_iload B.1 B.2.1 dX16_pend_26 (lv_at hl 0 rfl) ?_
  obtain ⟨q1, h⟩ := h
  refine x_iald B K.2.1 hH (hS.ar (k := 86) (kd := 100) (n := 2000) (by decide)) (by decide) q1 dX16_pend_28 ?_
  obtain ⟨σ16, eσ16⟩ : ∃ z, z = pI σ rm 90 (gI σ (ra 86) (gI σ rm 90).toNat) := ⟨_, rfl⟩
  have h := h σ16 eσ16
  refine r_puti B hH hS 90 (ty := .int) (by decide) wf_X16_655 rfl rfl rfl rfl rfl rfl dX16_pend_29 (fun H locs hH => ?_)
  have hH : Hd D cA A s (pI σ rm 90 (gI σ (ra 86) (gI σ rm 90).toNat)) H locs := hH
  rw [← eσ16] at hH
  have hGσ16 : RG σ16 := by rw [eσ16]; exact hGσ.pI (hGσ _ _)
  have hS : Shp dm ra jx rm σ16 := by rw [eσ16]; exact hS
  have hc : CB n0 s0 σ16 := by rw [eσ16]; exact hc
  rw [show gc σ = gc σ16 by rw [eσ16], show gs σ = gs σ16 by rw [eσ16]]
  refine lv_aload_n B.1 B.2.1 dX16_pend_32 rfl (lv_at hl 1 rfl) ?_
  refine lv_dup B.1 B.2.1 dX16_pend_33 rfl ?_
  refine r_geti B hH hS 91 (by decide) wf_X16_658 rfl rfl dX16_pend_34 ?_
  refine lv_iconst (v := i32 1) B.1 B.2.1 dX16_pend_37 (by decide) ?_
  obtain ⟨q3, h⟩ := h
  refine lv_iadd B.1 B.2.1 dX16_pend_38 ?_
  rw [i32_add]
  obtain ⟨σ17, eσ17⟩ : ∃ z, z = pI σ16 rm 91 (gI σ16 rm 91 + 1) := ⟨_, rfl⟩
  have h := h σ17 eσ17
  refine r_puti B hH hS 91 (ty := .int) (by decide) wf_X16_658 rfl rfl rfl rfl rfl rfl dX16_pend_39 (fun H locs hH => ?_)
  have hH : Hd D cA A s (pI σ16 rm 91 (gI σ16 rm 91 + 1)) H locs := hH
  rw [← eσ17] at hH
  have hGσ17 : RG σ17 := by rw [eσ17]; exact hGσ16.pI q3
  have hS : Shp dm ra jx rm σ17 := by rw [eσ17]; exact hS
  have hc : CB n0 s0 σ17 := by rw [eσ17]; exact hc
  rw [show gc σ16 = gc σ17 by rw [eσ17], show gs σ16 = gs σ17 by rw [eσ17]]
  refine lv_aload_n B.1 B.2.1 dX16_pend_42 rfl (lv_at hl 1 rfl) ?_
  refine r_arr B hH hS 83 (kd := 101) (n := 2000) (by decide) (by decide) wf_X16_670 rfl rfl dX16_pend_43 ?_
  refine lv_iload B.1 B.2.1 dX16_pend_46 (lv_at hl 0 rfl) ?_
  refine lv_lload_n B.1 B.2.1 dX16_pend_48 rfl (lv_at hl 3 rfl) ?_
  obtain ⟨q5, h⟩ := h
  obtain ⟨σ18, eσ18⟩ : ∃ z, z = pJ σ17 (ra 83) (gI σ rm 90).toNat v2 := ⟨_, rfl⟩
  have h := h σ18 eσ18
  refine x_last B K.2.1 hH (hS.ar (k := 83) (kd := 101) (n := 2000) (by decide)) (by decide) q5 dX16_pend_49 (fun H locs hH => ?_)
  have hH : Hd D cA A s (pJ σ17 (ra 83) (gI σ rm 90).toNat v2) H locs := hH
  rw [← eσ18] at hH
  have hGσ18 : RG σ18 := by rw [eσ18]; exact hGσ17.pJ
  have hS : Shp dm ra jx rm σ18 := by rw [eσ18]; exact hS
  have hc : CB n0 s0 σ18 := by rw [eσ18]; exact hc
  rw [show gc σ17 = gc σ18 by rw [eσ18], show gs σ17 = gs σ18 by rw [eσ18]]
  refine lv_iconst (v := i32 0) B.1 B.2.1 dX16_pend_50 (by decide) ?_
  refine lv_istore (lv' := [(7, .int (i32 0)), (6, .int (i32 (gI σ rm 90))), (0, .ref rm), (1, .int (i32 v1)), (2, .long v2), (5, .int (i32 v5))]) B.1 B.2.1 dX16_pend_51 hl (by decide) rfl (fun ls hl => ?_)
  obtain ⟨n9, h⟩ := h
  exact al_X16_pend_53 K hQ hX n9 _ _ _ _ _ g1 g5 (hGσ _ _) (by unfold rng; omega) h hGσ18 hS _ _ _ hH (lv_sub (l' := [(0, .ref rm), (1, .int (i32 v1)), (5, .int (i32 v5)), (6, .int (i32 (gI σ rm 90))), (7, .int (i32 0))]) hl [2, 3, 5, 1, 0] rfl) hc
set_option maxRecDepth 20000 in
theorem a_X16_pend_10 {Q : Sg → Unit → Prop} {X : Sg → String → Prop} (K : MC R p s m args c cX16_pend 8 RX16 D cA tys A n0 s0 1 22 []) (hQ : HQV p l e R s m args below meth c cX16_pend D cA A n0 s0 QM dm ra jx rm Q) (hX : HX p l e R s m args below meth c 8 D cA A n0 s0 QM dm ra jx rm X) : ∀ (σ : Sg), w_X16_pend_10 ra jx rm Q X σ → RG σ → Shp dm ra jx rm σ → JJ p l e R s m args below meth c 8 D cA A n0 s0 QM σ 10 [(0, .ref rm)] [] := by
  intro σ h hGσ hS H locs ls hH hl hc
  have B := K.1
  unfold w_X16_pend_10 at h
  refine lv_aload_n B.1 B.2.1 dX16_pend_10 rfl (lv_at hl 0 rfl) ?_
  refine r_obj B hH hS 28 (ci := 13) (by decide) (by decide) wf_X16_346 rfl rfl dX16_pend_11 ?_
  refine W.eq (g2 := F0 m 14 ls [va_rf (some (ra 28))]) (rfl) ?_
  obtain ⟨qt, h⟩ := h
  rcases qt with qt | qt
  · refine W.eq (g2 := F0 m 14 ls [.ref (ra 28)]) (by rw [qt]; rfl) ?_
    have hx9 := And.intro h (And.intro hGσ hS)
    refine h_athrow B hH hl hc (ci := 13) (hS.ob (k := 28) (ci := 13) (by decide)).1 (hS.ob (k := 28) (ci := 13) (by decide)).2 (by decide) rfl dX16_pend_14 ?_
    exact hX σ _ _ _ _ (tb_out K.2.2.2.2.2 rfl) hx9.1 hx9.2.1 hx9.2.2
  · refine W.eq (g2 := F0 m 14 ls [.ref (ra 29)]) (by rw [qt]; rfl) ?_
    have hx9 := And.intro h (And.intro hGσ hS)
    refine h_athrow B hH hl hc (ci := 13) (hS.ob (k := 29) (ci := 13) (by decide)).1 (hS.ob (k := 29) (ci := 13) (by decide)).2 (by decide) rfl dX16_pend_14 ?_
    exact hX σ _ _ _ _ (tb_out K.2.2.2.2.2 rfl) hx9.1 hx9.2.1 hx9.2.2
set_option maxRecDepth 20000 in
theorem a_X16_pend_0 {Q : Sg → Unit → Prop} {X : Sg → String → Prop} (K : MC R p s m args c cX16_pend 8 RX16 D cA tys A n0 s0 1 22 []) (hQ : HQV p l e R s m args below meth c cX16_pend D cA A n0 s0 QM dm ra jx rm Q) (hX : HX p l e R s m args below meth c 8 D cA A n0 s0 QM dm ra jx rm X) : ∀ (σ : Sg) (v1 : Int) (v2 : Int64) (v5 : Int) (g1 : rng v1) (g5 : rng v5), w_X16_pend_0 ra jx rm Q X σ v1 v2 v5 → RG σ → Shp dm ra jx rm σ → JJ p l e R s m args below meth c 8 D cA A n0 s0 QM σ 0 [(0, .ref rm), (1, .int (i32 v1)), (2, .long v2), (5, .int (i32 v5))] [] := by
  intro σ v1 v2 v5 g1 g5 h hGσ hS H locs ls hH hl hc
  have B := K.1
  unfold w_X16_pend_0 at h
  refine lv_aload_n B.1 B.2.1 dX16_pend_0 rfl (lv_at hl 0 rfl) ?_
  refine r_geti B hH hS 91 (by decide) wf_X16_658 rfl rfl dX16_pend_1 ?_
  refine lv_sipush (v := i32 2000) B.1 B.2.1 dX16_pend_4 (by decide) ?_
  refine lv_icmp_ne (tgt := 15) B.1 B.2.1 dX16_pend_7 (by decide) (fun h9 => ?_) (fun h9 => ?_)
  · rw [if_pos (fun q => h9 ((i32_eq (hGσ _ _) (by unfold rng; omega)).mpr q))] at h
    exact a_X16_pend_15 K hQ hX _ _ _ _ g1 g5 h hGσ hS _ _ _ hH (lv_sub (l' := [(0, .ref rm), (1, .int (i32 v1)), (2, .long v2), (5, .int (i32 v5))]) hl [0, 1, 2, 3] rfl) hc
  · rw [if_neg (fun q => q ((i32_eq (hGσ _ _) (by unfold rng; omega)).mp h9))] at h
    exact a_X16_pend_10 K hQ hX _ h hGσ hS _ _ _ hH (lv_sub (l' := [(0, .ref rm)]) hl [0] rfl) hc
theorem ok_X16_pend (hT : Tys cA tys) {Q : Sg → Unit → Prop} {X : Sg → String → Prop} (σ : Sg) (v1 : Int) (v2 : Int64) (v4 : Int) (v5 : Int) (g1 : rng v1) (g4 : rng v4) (g5 : rng v5) (hG : RG σ) (hS : Shp dm ra jx rm σ) (h : wp_X16_pend ra jx rm v1 v2 v4 v5 σ Q X) : Ok l D cA tys A yX16_pend (.code yX16_pend cX16_pend 8 none) 1 22 [.ref rm, .int (i32 v1), .long v2, .int (i32 v4), .int (i32 v5)] σ (QnV dm ra jx rm Q) (QxR dm ra jx rm X) := by
  unfold wp_X16_pend at h
  exact ok_V (plainFor_of_name (by decide)) (by exact Nat.le_of_ble_eq_true rfl) hT (fun p e R s m args below meth c K hQ hX H locs ls hH hl hc => a_X16_pend_0 K hQ hX σ v1 v2 v5 g1 g5 h hG hS H locs ls hH (lv_sub (l' := [(0, .ref rm), (1, .int (i32 v1)), (2, .long v2), (5, .int (i32 v5))]) hl [0, 1, 2, 4] rfl) hc)
theorem dX16_weigh_0 : decode cX16_weigh 0 = .ok (.iconst 0, 1) := by decide +kernel
theorem dX16_weigh_1 : decode cX16_weigh 1 = .ok (.istore 5, 2) := by decide +kernel
theorem dX16_weigh_3 : decode cX16_weigh 3 = .ok (.iload 5, 2) := by decide +kernel
theorem dX16_weigh_5 : decode cX16_weigh 5 = .ok (.bipush 8, 2) := by decide +kernel
theorem dX16_weigh_7 : decode cX16_weigh 7 = .ok (.if_icmp .ge 17, 3) := by decide +kernel
theorem dX16_weigh_10 : decode cX16_weigh 10 = .ok (.aload_n 0, 1) := by decide +kernel
theorem dX16_weigh_11 : decode cX16_weigh 11 = .ok (.getfield 578, 3) := by decide +kernel
theorem dX16_weigh_14 : decode cX16_weigh 14 = .ok (.iload 5, 2) := by decide +kernel
theorem dX16_weigh_16 : decode cX16_weigh 16 = .ok (.lconst 0, 1) := by decide +kernel
theorem dX16_weigh_17 : decode cX16_weigh 17 = .ok (.lastore, 1) := by decide +kernel
theorem dX16_weigh_18 : decode cX16_weigh 18 = .ok (.iinc 5 1, 3) := by decide +kernel
theorem dX16_weigh_21 : decode cX16_weigh 21 = .ok (.goto (-18), 3) := by decide +kernel
theorem dX16_weigh_24 : decode cX16_weigh 24 = .ok (.iconst 0, 1) := by decide +kernel
theorem dX16_weigh_25 : decode cX16_weigh 25 = .ok (.istore 5, 2) := by decide +kernel
theorem dX16_weigh_27 : decode cX16_weigh 27 = .ok (.iload 5, 2) := by decide +kernel
theorem dX16_weigh_29 : decode cX16_weigh 29 = .ok (.aload_n 0, 1) := by decide +kernel
theorem dX16_weigh_30 : decode cX16_weigh 30 = .ok (.getfield 356, 3) := by decide +kernel
theorem dX16_weigh_33 : decode cX16_weigh 33 = .ok (.getfield 222, 3) := by decide +kernel
theorem dX16_weigh_36 : decode cX16_weigh 36 = .ok (.iload_n 2, 1) := by decide +kernel
theorem dX16_weigh_37 : decode cX16_weigh 37 = .ok (.iaload, 1) := by decide +kernel
theorem dX16_weigh_38 : decode cX16_weigh 38 = .ok (.if_icmp .ge 89, 3) := by decide +kernel
theorem dX16_weigh_41 : decode cX16_weigh 41 = .ok (.lconst 1, 1) := by decide +kernel
theorem dX16_weigh_42 : decode cX16_weigh 42 = .ok (.lstore 6, 2) := by decide +kernel
theorem dX16_weigh_44 : decode cX16_weigh 44 = .ok (.aload_n 0, 1) := by decide +kernel
theorem dX16_weigh_45 : decode cX16_weigh 45 = .ok (.getfield 356, 3) := by decide +kernel
theorem dX16_weigh_48 : decode cX16_weigh 48 = .ok (.getfield 261, 3) := by decide +kernel
theorem dX16_weigh_51 : decode cX16_weigh 51 = .ok (.bipush 8, 2) := by decide +kernel
theorem dX16_weigh_53 : decode cX16_weigh 53 = .ok (.iload_n 2, 1) := by decide +kernel
theorem dX16_weigh_54 : decode cX16_weigh 54 = .ok (.imul, 1) := by decide +kernel
theorem dX16_weigh_55 : decode cX16_weigh 55 = .ok (.iload 5, 2) := by decide +kernel
theorem dX16_weigh_57 : decode cX16_weigh 57 = .ok (.iadd, 1) := by decide +kernel
theorem dX16_weigh_58 : decode cX16_weigh 58 = .ok (.iaload, 1) := by decide +kernel
theorem dX16_weigh_59 : decode cX16_weigh 59 = .ok (.ifCond .eq 53, 3) := by decide +kernel
theorem dX16_weigh_62 : decode cX16_weigh 62 = .ok (.aload_n 0, 1) := by decide +kernel
theorem dX16_weigh_63 : decode cX16_weigh 63 = .ok (.aload_n 0, 1) := by decide +kernel
theorem dX16_weigh_64 : decode cX16_weigh 64 = .ok (.getfield 356, 3) := by decide +kernel
theorem dX16_weigh_67 : decode cX16_weigh 67 = .ok (.aload_n 0, 1) := by decide +kernel
theorem dX16_weigh_68 : decode cX16_weigh 68 = .ok (.getfield 356, 3) := by decide +kernel
theorem dX16_weigh_71 : decode cX16_weigh 71 = .ok (.getfield 219, 3) := by decide +kernel
theorem dX16_weigh_74 : decode cX16_weigh 74 = .ok (.bipush 8, 2) := by decide +kernel
theorem dX16_weigh_76 : decode cX16_weigh 76 = .ok (.iload_n 2, 1) := by decide +kernel
theorem dX16_weigh_77 : decode cX16_weigh 77 = .ok (.imul, 1) := by decide +kernel
theorem dX16_weigh_78 : decode cX16_weigh 78 = .ok (.iload 5, 2) := by decide +kernel
theorem dX16_weigh_80 : decode cX16_weigh 80 = .ok (.iadd, 1) := by decide +kernel
theorem dX16_weigh_81 : decode cX16_weigh 81 = .ok (.iaload, 1) := by decide +kernel
theorem dX16_weigh_82 : decode cX16_weigh 82 = .ok (.lload_n 3, 1) := by decide +kernel
theorem dX16_weigh_83 : decode cX16_weigh 83 = .ok (.aload_n 0, 1) := by decide +kernel
theorem dX16_weigh_84 : decode cX16_weigh 84 = .ok (.getfield 542, 3) := by decide +kernel
theorem dX16_weigh_87 : decode cX16_weigh 87 = .ok (.iconst 0, 1) := by decide +kernel
theorem dX16_weigh_88 : decode cX16_weigh 88 = .ok (.invokevirtual 545, 3) := by decide +kernel
theorem dX16_weigh_91 : decode cX16_weigh 91 = .ok (.lstore 6, 2) := by decide +kernel
theorem dX16_weigh_93 : decode cX16_weigh 93 = .ok (.aload_n 0, 1) := by decide +kernel
theorem dX16_weigh_94 : decode cX16_weigh 94 = .ok (.getfield 330, 3) := by decide +kernel
theorem dX16_weigh_97 : decode cX16_weigh 97 = .ok (.ifCond .eq 15, 3) := by decide +kernel
theorem dX16_weigh_100 : decode cX16_weigh 100 = .ok (.aload_n 0, 1) := by decide +kernel
theorem dX16_weigh_101 : decode cX16_weigh 101 = .ok (.getfield 422, 3) := by decide +kernel
theorem dX16_weigh_104 : decode cX16_weigh 104 = .ok (.iload_n 1, 1) := by decide +kernel
theorem dX16_weigh_105 : decode cX16_weigh 105 = .ok (.dup2, 1) := by decide +kernel
theorem dX16_weigh_106 : decode cX16_weigh 106 = .ok (.iaload, 1) := by decide +kernel
theorem dX16_weigh_107 : decode cX16_weigh 107 = .ok (.iconst 1, 1) := by decide +kernel
theorem dX16_weigh_108 : decode cX16_weigh 108 = .ok (.iadd, 1) := by decide +kernel
theorem dX16_weigh_109 : decode cX16_weigh 109 = .ok (.iastore, 1) := by decide +kernel
theorem dX16_weigh_110 : decode cX16_weigh 110 = .ok (.iconst 0, 1) := by decide +kernel
theorem dX16_weigh_111 : decode cX16_weigh 111 = .ok (.ireturn, 1) := by decide +kernel
theorem dX16_weigh_112 : decode cX16_weigh 112 = .ok (.aload_n 0, 1) := by decide +kernel
theorem dX16_weigh_113 : decode cX16_weigh 113 = .ok (.getfield 578, 3) := by decide +kernel
theorem dX16_weigh_116 : decode cX16_weigh 116 = .ok (.iload 5, 2) := by decide +kernel
theorem dX16_weigh_118 : decode cX16_weigh 118 = .ok (.lload 6, 2) := by decide +kernel
theorem dX16_weigh_120 : decode cX16_weigh 120 = .ok (.lastore, 1) := by decide +kernel
theorem dX16_weigh_121 : decode cX16_weigh 121 = .ok (.iinc 5 1, 3) := by decide +kernel
theorem dX16_weigh_124 : decode cX16_weigh 124 = .ok (.goto (-97), 3) := by decide +kernel
theorem dX16_weigh_127 : decode cX16_weigh 127 = .ok (.iconst 1, 1) := by decide +kernel
theorem dX16_weigh_128 : decode cX16_weigh 128 = .ok (.ireturn, 1) := by decide +kernel
set_option maxRecDepth 20000 in
theorem a_X16_weigh_127 {Q : Sg → Int → Prop} {X : Sg → String → Prop} (K : MC R p s m args c cX16_weigh 8 RX16 D cA tys A n0 s0 2 56 []) (hQ : HQZ p l e R s m args below meth c cX16_weigh D cA A n0 s0 QM dm ra jx rm Q) (hX : HX p l e R s m args below meth c 8 D cA A n0 s0 QM dm ra jx rm X) : ∀ (σ : Sg), w_X16_weigh_127 ra jx rm Q X σ → RG σ → Shp dm ra jx rm σ → JJ p l e R s m args below meth c 8 D cA A n0 s0 QM σ 127 [(0, .ref rm)] [] := by
  intro σ h hGσ hS H locs ls hH hl hc
  have B := K.1
  unfold w_X16_weigh_127 at h
  refine lv_iconst (v := i32 1) B.1 B.2.1 dX16_weigh_127 (by decide) ?_
  exact hQ _ _ _ _ _ _ (by unfold rng; omega) (Or.inr rfl) dX16_weigh_128 hH hc h hGσ hS
set_option maxRecDepth 20000 in
theorem a_X16_weigh_112 {Q : Sg → Int → Prop} {X : Sg → String → Prop} (K : MC R p s m args c cX16_weigh 8 RX16 D cA tys A n0 s0 2 56 []) (hQ : HQZ p l e R s m args below meth c cX16_weigh D cA A n0 s0 QM dm ra jx rm Q) (hX : HX p l e R s m args below meth c 8 D cA A n0 s0 QM dm ra jx rm X) {K27 : Sg → Int → Int → Int64 → Int → Prop} (hK27 : ∀ (σ : Sg) (v1 : Int) (v2 : Int) (v3 : Int64) (v5 : Int) (g1 : rng v1) (g2 : rng v2) (g5 : rng v5), K27 σ v1 v2 v3 v5 → RG σ → Shp dm ra jx rm σ → JJ p l e R s m args below meth c 8 D cA A n0 s0 QM σ 27 [(0, .ref rm), (1, .int (i32 v1)), (2, .int (i32 v2)), (3, .long v3), (5, .int (i32 v5))] []) : ∀ (σ : Sg) (v1 : Int) (v2 : Int) (v3 : Int64) (v5 : Int) (v6 : Int64) (g1 : rng v1) (g2 : rng v2) (g5 : rng v5), w_X16_weigh_112 ra jx rm K27 Q X σ v1 v2 v3 v5 v6 → RG σ → Shp dm ra jx rm σ → JJ p l e R s m args below meth c 8 D cA A n0 s0 QM σ 112 [(0, .ref rm), (1, .int (i32 v1)), (2, .int (i32 v2)), (3, .long v3), (5, .int (i32 v5)), (6, .long v6)] [] := by
  intro σ v1 v2 v3 v5 v6 g1 g2 g5 h hGσ hS H locs ls hH hl hc
  have B := K.1
  unfold w_X16_weigh_112 at h
  refine lv_aload_n B.1 B.2.1 dX16_weigh_112 rfl (lv_at hl 0 rfl) ?_
  refine r_arr B hH hS 82 (kd := 101) (n := 16) (by decide) (by decide) wf_X16_578 rfl rfl dX16_weigh_113 ?_
  refine lv_iload B.1 B.2.1 dX16_weigh_116 (lv_at hl 4 rfl) ?_
  refine lv_lload B.1 B.2.1 dX16_weigh_118 (lv_at hl 5 rfl) ?_
  obtain ⟨q1, h⟩ := h
  obtain ⟨σ17, eσ17⟩ : ∃ z, z = pJ σ (ra 82) v5.toNat v6 := ⟨_, rfl⟩
  have h := h σ17 eσ17
  refine x_last B K.2.1 hH (hS.ar (k := 82) (kd := 101) (n := 16) (by decide)) (by decide) q1 dX16_weigh_120 (fun H locs hH => ?_)
  have hH : Hd D cA A s (pJ σ (ra 82) v5.toNat v6) H locs := hH
  rw [← eσ17] at hH
  have hGσ17 : RG σ17 := by rw [eσ17]; exact hGσ.pJ
  have hS : Shp dm ra jx rm σ17 := by rw [eσ17]; exact hS
  have hc : CB n0 s0 σ17 := by rw [eσ17]; exact hc
  rw [show gc σ = gc σ17 by rw [eσ17], show gs σ = gs σ17 by rw [eσ17]]
  obtain ⟨q3, h⟩ := h
  refine lv_iinc (k := 4) (v := i32 (v5 + 1)) (lv' := [(5, .int (i32 (v5 + 1))), (0, .ref rm), (1, .int (i32 v1)), (2, .int (i32 v2)), (3, .long v3), (6, .long v6)]) B.1 B.2.1 dX16_weigh_121 hl rfl (i32_add _ _) (by decide) rfl (fun ls hl => ?_)
  refine lv_goto (tgt := 27) B.1 B.2.1 dX16_weigh_124 (by decide) ?_
  exact hK27 _ _ _ _ _ g1 g2 q3 h hGσ17 hS _ _ _ hH (lv_sub (l' := [(0, .ref rm), (1, .int (i32 v1)), (2, .int (i32 v2)), (3, .long v3), (5, .int (i32 (v5 + 1)))]) hl [1, 2, 3, 4, 0] rfl) hc
set_option maxRecDepth 20000 in
theorem a_X16_weigh_100 {Q : Sg → Int → Prop} {X : Sg → String → Prop} (K : MC R p s m args c cX16_weigh 8 RX16 D cA tys A n0 s0 2 56 []) (hQ : HQZ p l e R s m args below meth c cX16_weigh D cA A n0 s0 QM dm ra jx rm Q) (hX : HX p l e R s m args below meth c 8 D cA A n0 s0 QM dm ra jx rm X) : ∀ (σ : Sg) (v1 : Int) (g1 : rng v1), w_X16_weigh_100 ra jx rm Q X σ v1 → RG σ → Shp dm ra jx rm σ → JJ p l e R s m args below meth c 8 D cA A n0 s0 QM σ 100 [(0, .ref rm), (1, .int (i32 v1))] [] := by
  intro σ v1 g1 h hGσ hS H locs ls hH hl hc
  have B := K.1
  unfold w_X16_weigh_100 at h
  refine lv_aload_n B.1 B.2.1 dX16_weigh_100 rfl (lv_at hl 0 rfl) ?_
  refine r_arr B hH hS 42 (kd := 100) (n := 64) (by decide) (by decide) wf_X16_422 rfl rfl dX16_weigh_101 ?_
  refine lv_iload_n B.1 B.2.1 dX16_weigh_104 rfl (lv_at hl 1 rfl) ?_
  refine lv_dup2_11 B.1 B.2.1 dX16_weigh_105 rfl rfl ?_
  obtain ⟨q1, h⟩ := h
  refine x_iald B K.2.1 hH (hS.ar (k := 42) (kd := 100) (n := 64) (by decide)) (by decide) q1 dX16_weigh_106 ?_
  refine lv_iconst (v := i32 1) B.1 B.2.1 dX16_weigh_107 (by decide) ?_
  refine lv_iadd B.1 B.2.1 dX16_weigh_108 ?_
  rw [i32_add]
  refine W.eq (g2 := F0 m 109 ls [.int (i32 (wr ((gI σ (ra 42) v1.toNat) + 1))), .int (i32 v1), .ref (ra 42)]) (by rw [i32_wr]) ?_
  obtain ⟨q2, h⟩ := h
  obtain ⟨σ18, eσ18⟩ : ∃ z, z = pI σ (ra 42) v1.toNat (wr ((gI σ (ra 42) v1.toNat) + 1)) := ⟨_, rfl⟩
  have h := h σ18 eσ18
  refine x_iast B K.2.1 hH (hS.ar (k := 42) (kd := 100) (n := 64) (by decide)) (by decide) q2 dX16_weigh_109 (fun H locs hH => ?_)
  have hH : Hd D cA A s (pI σ (ra 42) v1.toNat (wr ((gI σ (ra 42) v1.toNat) + 1))) H locs := hH
  rw [← eσ18] at hH
  have hGσ18 : RG σ18 := by rw [eσ18]; exact hGσ.pI (rng_wr _)
  have hS : Shp dm ra jx rm σ18 := by rw [eσ18]; exact hS
  have hc : CB n0 s0 σ18 := by rw [eσ18]; exact hc
  rw [show gc σ = gc σ18 by rw [eσ18], show gs σ = gs σ18 by rw [eσ18]]
  refine lv_iconst (v := i32 0) B.1 B.2.1 dX16_weigh_110 (by decide) ?_
  exact hQ _ _ _ _ _ _ (by unfold rng; omega) (Or.inl rfl) dX16_weigh_111 hH hc h hGσ18 hS
set_option maxRecDepth 20000 in
theorem a_X16_weigh_62 {Q : Sg → Int → Prop} {X : Sg → String → Prop} (K : MC R p s m args c cX16_weigh 8 RX16 D cA tys A n0 s0 2 56 []) (hQ : HQZ p l e R s m args below meth c cX16_weigh D cA A n0 s0 QM dm ra jx rm Q) (hX : HX p l e R s m args below meth c 8 D cA A n0 s0 QM dm ra jx rm X) {K27 : Sg → Int → Int → Int64 → Int → Prop} (hK27 : ∀ (σ : Sg) (v1 : Int) (v2 : Int) (v3 : Int64) (v5 : Int) (g1 : rng v1) (g2 : rng v2) (g5 : rng v5), K27 σ v1 v2 v3 v5 → RG σ → Shp dm ra jx rm σ → JJ p l e R s m args below meth c 8 D cA A n0 s0 QM σ 27 [(0, .ref rm), (1, .int (i32 v1)), (2, .int (i32 v2)), (3, .long v3), (5, .int (i32 v5))] []) : ∀ (σ : Sg) (v1 : Int) (v2 : Int) (v3 : Int64) (v5 : Int) (g1 : rng v1) (g2 : rng v2) (g5 : rng v5), w_X16_weigh_62 ra jx rm K27 Q X σ v1 v2 v3 v5 → RG σ → Shp dm ra jx rm σ → JJ p l e R s m args below meth c 8 D cA A n0 s0 QM σ 62 [(0, .ref rm), (1, .int (i32 v1)), (2, .int (i32 v2)), (3, .long v3), (5, .int (i32 v5))] [] := by
  intro σ v1 v2 v3 v5 g1 g2 g5 h hGσ hS H locs ls hH hl hc
  have B := K.1
  unfold w_X16_weigh_62 at h
  refine lv_aload_n B.1 B.2.1 dX16_weigh_62 rfl (lv_at hl 0 rfl) ?_
  refine lv_aload_n B.1 B.2.1 dX16_weigh_63 rfl (lv_at hl 0 rfl) ?_
  refine r_getp B hH hS 17 (by decide) wf_X16_356 rfl rfl dX16_weigh_64 ?_
  refine lv_aload_n B.1 B.2.1 dX16_weigh_67 rfl (lv_at hl 0 rfl) ?_
  refine r_getp B hH hS 17 (by decide) wf_X16_356 rfl rfl dX16_weigh_68 ?_
  obtain ⟨a19, ea19, ja19, h⟩ := h
  refine W.eq (g2 := F0 m 71 ls [.ref a19, va_rf (gP σ rm 17), .ref rm]) (by rw [ea19]; rfl) ?_
  refine n_arr B hH hS ja19 13 (kd := 100) (n := 128) (by decide) (by decide) (List.mem_of_getElem? (i := 13) rfl) rfl dX16_weigh_71 ?_
  refine lv_bipush (v := i32 8) B.1 B.2.1 dX16_weigh_74 (by decide) ?_
  refine lv_iload_n B.1 B.2.1 dX16_weigh_76 rfl (lv_at hl 2 rfl) ?_
  obtain ⟨q2, h⟩ := h
  refine lv_imul B.1 B.2.1 dX16_weigh_77 ?_
  rw [i32_mul]
  refine lv_iload B.1 B.2.1 dX16_weigh_78 (lv_at hl 4 rfl) ?_
  obtain ⟨q3, h⟩ := h
  refine lv_iadd B.1 B.2.1 dX16_weigh_80 ?_
  rw [i32_add]
  obtain ⟨q4, h⟩ := h
  refine x_iald B K.2.1 hH (hS.ja ja19 (k := 13) (kd := 100) (n := 128) (by decide)) (by decide) q4 dX16_weigh_81 ?_
  refine lv_lload_n B.1 B.2.1 dX16_weigh_82 rfl (lv_at hl 3 rfl) ?_
  refine lv_aload_n B.1 B.2.1 dX16_weigh_83 rfl (lv_at hl 0 rfl) ?_
  refine r_arr B hH hS 81 (kd := 101) (n := 8) (by decide) (by decide) wf_X16_542 rfl rfl dX16_weigh_84 ?_
  refine lv_iconst (v := i32 0) B.1 B.2.1 dX16_weigh_87 (by decide) ?_
  refine c_V B hH hl hc K.2.2.1 (C := RX16) (T := TX16) (N := 123) (ci := 16) (As := [va_rf (gP σ rm 17), .int (i32 (gI σ (jx a19 13) ((8 * v2) + v5).toNat)), .long v3, va_rf (some (ra 81)), .int (i32 0)]) (ok_X16_worth K.2.1 σ (gP σ rm 17) (gI σ (jx a19 13) ((8 * v2) + v5).toNat) v3 (some (ra 81)) 0 (hGσ _ _) (by unfold rng; omega) hGσ hS h) wc_X16_545 5 hd_X16_worth ⟨Nat.le_trans (Nat.le_of_ble_eq_true rfl) K.2.2.2.1, Nat.le_trans (Nat.le_of_ble_eq_true rfl) K.2.2.2.2.1⟩ hS.1.1 hS.1.2 (by decide) rfl rfl (rest := []) rfl (Nat.le_of_ble_eq_true rfl) dX16_weigh_88 (fun σ20 w hq => ?_) (fun σ9 E9 hx9 => hX σ9 E9 _ _ _ (tb_out K.2.2.2.2.2 rfl) hx9.1 hx9.2.1 hx9.2.2)
  obtain ⟨r21, rfl, h, hGσ20, hS⟩ := hq
  intro H locs ls hH hl hc
  refine W.eq (g2 := F0 m 91 ls [.long r21]) (rfl) ?_
  try dsimp only at h
  refine lv_lstore (lv' := [(6, .long r21), (0, .ref rm), (1, .int (i32 v1)), (2, .int (i32 v2)), (3, .long v3), (5, .int (i32 v5))]) B.1 B.2.1 dX16_weigh_91 hl (by decide) rfl (fun ls hl => ?_)
  refine lv_aload_n B.1 B.2.1 dX16_weigh_93 rfl (lv_at hl 1 rfl) ?_
  refine r_geti B hH hS 21 (by decide) wf_X16_330 rfl rfl dX16_weigh_94 ?_
  refine lv_if_eq (tgt := 112) B.1 B.2.1 dX16_weigh_97 (by decide) (fun h9 => ?_) (fun h9 => ?_)
  · rw [if_pos ((z_eq (hGσ20 _ _)).mp h9)] at h
    exact a_X16_weigh_112 K hQ hX hK27 _ _ _ _ _ _ g1 g2 g5 h hGσ20 hS _ _ _ hH (lv_sub (l' := [(0, .ref rm), (1, .int (i32 v1)), (2, .int (i32 v2)), (3, .long v3), (5, .int (i32 v5)), (6, .long r21)]) hl [1, 2, 3, 4, 5, 0] rfl) hc
  · rw [if_neg (fun q => h9 ((z_eq (hGσ20 _ _)).mpr q))] at h
    exact a_X16_weigh_100 K hQ hX _ _ g1 h hGσ20 hS _ _ _ hH (lv_sub (l' := [(0, .ref rm), (1, .int (i32 v1))]) hl [1, 2] rfl) hc
set_option maxRecDepth 20000 in
theorem a_X16_weigh_41 {Q : Sg → Int → Prop} {X : Sg → String → Prop} (K : MC R p s m args c cX16_weigh 8 RX16 D cA tys A n0 s0 2 56 []) (hQ : HQZ p l e R s m args below meth c cX16_weigh D cA A n0 s0 QM dm ra jx rm Q) (hX : HX p l e R s m args below meth c 8 D cA A n0 s0 QM dm ra jx rm X) {K27 : Sg → Int → Int → Int64 → Int → Prop} (hK27 : ∀ (σ : Sg) (v1 : Int) (v2 : Int) (v3 : Int64) (v5 : Int) (g1 : rng v1) (g2 : rng v2) (g5 : rng v5), K27 σ v1 v2 v3 v5 → RG σ → Shp dm ra jx rm σ → JJ p l e R s m args below meth c 8 D cA A n0 s0 QM σ 27 [(0, .ref rm), (1, .int (i32 v1)), (2, .int (i32 v2)), (3, .long v3), (5, .int (i32 v5))] []) : ∀ (σ : Sg) (v1 : Int) (v2 : Int) (v3 : Int64) (v5 : Int) (g1 : rng v1) (g2 : rng v2) (g5 : rng v5), w_X16_weigh_41 ra jx rm K27 Q X σ v1 v2 v3 v5 → RG σ → Shp dm ra jx rm σ → JJ p l e R s m args below meth c 8 D cA A n0 s0 QM σ 41 [(0, .ref rm), (1, .int (i32 v1)), (2, .int (i32 v2)), (3, .long v3), (5, .int (i32 v5))] [] := by
  intro σ v1 v2 v3 v5 g1 g2 g5 h hGσ hS H locs ls hH hl hc
  have B := K.1
  unfold w_X16_weigh_41 at h
  refine lv_lconst (v := 1) B.1 B.2.1 dX16_weigh_41 (by decide) ?_
  refine lv_lstore (lv' := [(6, .long 1), (0, .ref rm), (1, .int (i32 v1)), (2, .int (i32 v2)), (3, .long v3), (5, .int (i32 v5))]) B.1 B.2.1 dX16_weigh_42 hl (by decide) rfl (fun ls hl => ?_)
  refine lv_aload_n B.1 B.2.1 dX16_weigh_44 rfl (lv_at hl 1 rfl) ?_
  refine r_getp B hH hS 17 (by decide) wf_X16_356 rfl rfl dX16_weigh_45 ?_
  obtain ⟨a22, ea22, ja22, h⟩ := h
  refine W.eq (g2 := F0 m 48 ls [.ref a22]) (by rw [ea22]; rfl) ?_
  refine n_arr B hH hS ja22 14 (kd := 100) (n := 128) (by decide) (by decide) (List.mem_of_getElem? (i := 14) rfl) rfl dX16_weigh_48 ?_
  refine lv_bipush (v := i32 8) B.1 B.2.1 dX16_weigh_51 (by decide) ?_
  refine lv_iload_n B.1 B.2.1 dX16_weigh_53 rfl (lv_at hl 3 rfl) ?_
  obtain ⟨q2, h⟩ := h
  refine lv_imul B.1 B.2.1 dX16_weigh_54 ?_
  rw [i32_mul]
  refine lv_iload B.1 B.2.1 dX16_weigh_55 (lv_at hl 5 rfl) ?_
  obtain ⟨q3, h⟩ := h
  refine lv_iadd B.1 B.2.1 dX16_weigh_57 ?_
  rw [i32_add]
  obtain ⟨q4, h⟩ := h
  refine x_iald B K.2.1 hH (hS.ja ja22 (k := 14) (kd := 100) (n := 128) (by decide)) (by decide) q4 dX16_weigh_58 ?_
  refine lv_if_eq (tgt := 112) B.1 B.2.1 dX16_weigh_59 (by decide) (fun h9 => ?_) (fun h9 => ?_)
  · rw [if_pos ((z_eq (hGσ _ _)).mp h9)] at h
    exact a_X16_weigh_112 K hQ hX hK27 _ _ _ _ _ _ g1 g2 g5 h hGσ hS _ _ _ hH (lv_sub (l' := [(0, .ref rm), (1, .int (i32 v1)), (2, .int (i32 v2)), (3, .long v3), (5, .int (i32 v5)), (6, .long 1)]) hl [1, 2, 3, 4, 5, 0] rfl) hc
  · rw [if_neg (fun q => h9 ((z_eq (hGσ _ _)).mpr q))] at h
    exact a_X16_weigh_62 K hQ hX hK27 _ _ _ _ _ g1 g2 g5 h hGσ hS _ _ _ hH (lv_sub (l' := [(0, .ref rm), (1, .int (i32 v1)), (2, .int (i32 v2)), (3, .long v3), (5, .int (i32 v5))]) hl [1, 2, 3, 4, 5] rfl) hc
set_option maxRecDepth 20000 in
theorem a_X16_weigh_27 {Q : Sg → Int → Prop} {X : Sg → String → Prop} (K : MC R p s m args c cX16_weigh 8 RX16 D cA tys A n0 s0 2 56 []) (hQ : HQZ p l e R s m args below meth c cX16_weigh D cA A n0 s0 QM dm ra jx rm Q) (hX : HX p l e R s m args below meth c 8 D cA A n0 s0 QM dm ra jx rm X) {K27 : Sg → Int → Int → Int64 → Int → Prop} (hK27 : ∀ (σ : Sg) (v1 : Int) (v2 : Int) (v3 : Int64) (v5 : Int) (g1 : rng v1) (g2 : rng v2) (g5 : rng v5), K27 σ v1 v2 v3 v5 → RG σ → Shp dm ra jx rm σ → JJ p l e R s m args below meth c 8 D cA A n0 s0 QM σ 27 [(0, .ref rm), (1, .int (i32 v1)), (2, .int (i32 v2)), (3, .long v3), (5, .int (i32 v5))] []) : ∀ (σ : Sg) (v1 : Int) (v2 : Int) (v3 : Int64) (v5 : Int) (g1 : rng v1) (g2 : rng v2) (g5 : rng v5), w_X16_weigh_27 ra jx rm K27 Q X σ v1 v2 v3 v5 → RG σ → Shp dm ra jx rm σ → JJ p l e R s m args below meth c 8 D cA A n0 s0 QM σ 27 [(0, .ref rm), (1, .int (i32 v1)), (2, .int (i32 v2)), (3, .long v3), (5, .int (i32 v5))] [] := by
  intro σ v1 v2 v3 v5 g1 g2 g5 h hGσ hS H locs ls hH hl hc
  have B := K.1
  unfold w_X16_weigh_27 at h
  refine lv_iload B.1 B.2.1 dX16_weigh_27 (lv_at hl 4 rfl) ?_
  refine lv_aload_n B.1 B.2.1 dX16_weigh_29 rfl (lv_at hl 0 rfl) ?_
  refine r_getp B hH hS 17 (by decide) wf_X16_356 rfl rfl dX16_weigh_30 ?_
  obtain ⟨a23, ea23, ja23, h⟩ := h
  refine W.eq (g2 := F0 m 33 ls [.ref a23, .int (i32 v5)]) (by rw [ea23]; rfl) ?_
  refine n_arr B hH hS ja23 12 (kd := 100) (n := 16) (by decide) (by decide) (List.mem_of_getElem? (i := 12) rfl) rfl dX16_weigh_33 ?_
  refine lv_iload_n B.1 B.2.1 dX16_weigh_36 rfl (lv_at hl 2 rfl) ?_
  obtain ⟨q2, h⟩ := h
  refine x_iald B K.2.1 hH (hS.ja ja23 (k := 12) (kd := 100) (n := 16) (by decide)) (by decide) q2 dX16_weigh_37 ?_
  refine lv_icmp_ge (tgt := 127) B.1 B.2.1 dX16_weigh_38 (by decide) (fun h9 => ?_) (fun h9 => ?_)
  · rw [if_pos ((i32_le (hGσ _ _) g5).mp h9)] at h
    exact a_X16_weigh_127 K hQ hX _ h hGσ hS _ _ _ hH (lv_sub (l' := [(0, .ref rm)]) hl [0] rfl) hc
  · rw [if_neg (fun q => h9 ((i32_le (hGσ _ _) g5).mpr q))] at h
    exact a_X16_weigh_41 K hQ hX hK27 _ _ _ _ _ g1 g2 g5 h hGσ hS _ _ _ hH (lv_sub (l' := [(0, .ref rm), (1, .int (i32 v1)), (2, .int (i32 v2)), (3, .long v3), (5, .int (i32 v5))]) hl [0, 1, 2, 3, 4] rfl) hc
theorem al_X16_weigh_27 {Q : Sg → Int → Prop} {X : Sg → String → Prop} (K : MC R p s m args c cX16_weigh 8 RX16 D cA tys A n0 s0 2 56 []) (hQ : HQZ p l e R s m args below meth c cX16_weigh D cA A n0 s0 QM dm ra jx rm Q) (hX : HX p l e R s m args below meth c 8 D cA A n0 s0 QM dm ra jx rm X) : ∀ (n : Nat), ∀ (σ : Sg) (v1 : Int) (v2 : Int) (v3 : Int64) (v5 : Int) (g1 : rng v1) (g2 : rng v2) (g5 : rng v5), wl_X16_weigh_27 ra jx rm Q X n σ v1 v2 v3 v5 → RG σ → Shp dm ra jx rm σ → JJ p l e R s m args below meth c 8 D cA A n0 s0 QM σ 27 [(0, .ref rm), (1, .int (i32 v1)), (2, .int (i32 v2)), (3, .long v3), (5, .int (i32 v5))] [] := by
  intro n
  induction n with
  | zero => intro σ v1 v2 v3 v5 g1 g2 g5 h; exact h.elim
  | succ n ih => exact fun σ v1 v2 v3 v5 g1 g2 g5 h => a_X16_weigh_27 K hQ hX ih σ v1 v2 v3 v5 g1 g2 g5 h
set_option maxRecDepth 20000 in
theorem a_X16_weigh_24 {Q : Sg → Int → Prop} {X : Sg → String → Prop} (K : MC R p s m args c cX16_weigh 8 RX16 D cA tys A n0 s0 2 56 []) (hQ : HQZ p l e R s m args below meth c cX16_weigh D cA A n0 s0 QM dm ra jx rm Q) (hX : HX p l e R s m args below meth c 8 D cA A n0 s0 QM dm ra jx rm X) : ∀ (σ : Sg) (v1 : Int) (v2 : Int) (v3 : Int64) (g1 : rng v1) (g2 : rng v2), w_X16_weigh_24 ra jx rm Q X σ v1 v2 v3 → RG σ → Shp dm ra jx rm σ → JJ p l e R s m args below meth c 8 D cA A n0 s0 QM σ 24 [(0, .ref rm), (1, .int (i32 v1)), (2, .int (i32 v2)), (3, .long v3)] [] := by
  intro σ v1 v2 v3 g1 g2 h hGσ hS H locs ls hH hl hc
  have B := K.1
  unfold w_X16_weigh_24 at h
  refine lv_iconst (v := i32 0) B.1 B.2.1 dX16_weigh_24 (by decide) ?_
  refine lv_istore (lv' := [(5, .int (i32 0)), (0, .ref rm), (1, .int (i32 v1)), (2, .int (i32 v2)), (3, .long v3)]) B.1 B.2.1 dX16_weigh_25 hl (by decide) rfl (fun ls hl => ?_)
  obtain ⟨n9, h⟩ := h
  exact al_X16_weigh_27 K hQ hX n9 _ _ _ _ _ g1 g2 (by unfold rng; omega) h hGσ hS _ _ _ hH (lv_sub (l' := [(0, .ref rm), (1, .int (i32 v1)), (2, .int (i32 v2)), (3, .long v3), (5, .int (i32 0))]) hl [1, 2, 3, 4, 0] rfl) hc
set_option maxRecDepth 20000 in
theorem a_X16_weigh_10 {Q : Sg → Int → Prop} {X : Sg → String → Prop} (K : MC R p s m args c cX16_weigh 8 RX16 D cA tys A n0 s0 2 56 []) (hQ : HQZ p l e R s m args below meth c cX16_weigh D cA A n0 s0 QM dm ra jx rm Q) (hX : HX p l e R s m args below meth c 8 D cA A n0 s0 QM dm ra jx rm X) {K3 : Sg → Int → Int → Int64 → Int → Prop} (hK3 : ∀ (σ : Sg) (v1 : Int) (v2 : Int) (v3 : Int64) (v5 : Int) (g1 : rng v1) (g2 : rng v2) (g5 : rng v5), K3 σ v1 v2 v3 v5 → RG σ → Shp dm ra jx rm σ → JJ p l e R s m args below meth c 8 D cA A n0 s0 QM σ 3 [(0, .ref rm), (1, .int (i32 v1)), (2, .int (i32 v2)), (3, .long v3), (5, .int (i32 v5))] []) : ∀ (σ : Sg) (v1 : Int) (v2 : Int) (v3 : Int64) (v5 : Int) (g1 : rng v1) (g2 : rng v2) (g5 : rng v5), w_X16_weigh_10 ra jx rm K3 Q X σ v1 v2 v3 v5 → RG σ → Shp dm ra jx rm σ → JJ p l e R s m args below meth c 8 D cA A n0 s0 QM σ 10 [(0, .ref rm), (1, .int (i32 v1)), (2, .int (i32 v2)), (3, .long v3), (5, .int (i32 v5))] [] := by
  intro σ v1 v2 v3 v5 g1 g2 g5 h hGσ hS H locs ls hH hl hc
  have B := K.1
  unfold w_X16_weigh_10 at h
  refine lv_aload_n B.1 B.2.1 dX16_weigh_10 rfl (lv_at hl 0 rfl) ?_
  refine r_arr B hH hS 82 (kd := 101) (n := 16) (by decide) (by decide) wf_X16_578 rfl rfl dX16_weigh_11 ?_
  refine lv_iload B.1 B.2.1 dX16_weigh_14 (lv_at hl 4 rfl) ?_
  refine lv_lconst (v := 0) B.1 B.2.1 dX16_weigh_16 (by decide) ?_
  obtain ⟨q1, h⟩ := h
  obtain ⟨σ24, eσ24⟩ : ∃ z, z = pJ σ (ra 82) v5.toNat 0 := ⟨_, rfl⟩
  have h := h σ24 eσ24
  refine x_last B K.2.1 hH (hS.ar (k := 82) (kd := 101) (n := 16) (by decide)) (by decide) q1 dX16_weigh_17 (fun H locs hH => ?_)
  have hH : Hd D cA A s (pJ σ (ra 82) v5.toNat 0) H locs := hH
  rw [← eσ24] at hH
  have hGσ24 : RG σ24 := by rw [eσ24]; exact hGσ.pJ
  have hS : Shp dm ra jx rm σ24 := by rw [eσ24]; exact hS
  have hc : CB n0 s0 σ24 := by rw [eσ24]; exact hc
  rw [show gc σ = gc σ24 by rw [eσ24], show gs σ = gs σ24 by rw [eσ24]]
  obtain ⟨q3, h⟩ := h
  refine lv_iinc (k := 4) (v := i32 (v5 + 1)) (lv' := [(5, .int (i32 (v5 + 1))), (0, .ref rm), (1, .int (i32 v1)), (2, .int (i32 v2)), (3, .long v3)]) B.1 B.2.1 dX16_weigh_18 hl rfl (i32_add _ _) (by decide) rfl (fun ls hl => ?_)
  refine lv_goto (tgt := 3) B.1 B.2.1 dX16_weigh_21 (by decide) ?_
  exact hK3 _ _ _ _ _ g1 g2 q3 h hGσ24 hS _ _ _ hH (lv_sub (l' := [(0, .ref rm), (1, .int (i32 v1)), (2, .int (i32 v2)), (3, .long v3), (5, .int (i32 (v5 + 1)))]) hl [1, 2, 3, 4, 0] rfl) hc
set_option maxRecDepth 20000 in
theorem a_X16_weigh_3 {Q : Sg → Int → Prop} {X : Sg → String → Prop} (K : MC R p s m args c cX16_weigh 8 RX16 D cA tys A n0 s0 2 56 []) (hQ : HQZ p l e R s m args below meth c cX16_weigh D cA A n0 s0 QM dm ra jx rm Q) (hX : HX p l e R s m args below meth c 8 D cA A n0 s0 QM dm ra jx rm X) {K3 : Sg → Int → Int → Int64 → Int → Prop} (hK3 : ∀ (σ : Sg) (v1 : Int) (v2 : Int) (v3 : Int64) (v5 : Int) (g1 : rng v1) (g2 : rng v2) (g5 : rng v5), K3 σ v1 v2 v3 v5 → RG σ → Shp dm ra jx rm σ → JJ p l e R s m args below meth c 8 D cA A n0 s0 QM σ 3 [(0, .ref rm), (1, .int (i32 v1)), (2, .int (i32 v2)), (3, .long v3), (5, .int (i32 v5))] []) : ∀ (σ : Sg) (v1 : Int) (v2 : Int) (v3 : Int64) (v5 : Int) (g1 : rng v1) (g2 : rng v2) (g5 : rng v5), w_X16_weigh_3 ra jx rm K3 Q X σ v1 v2 v3 v5 → RG σ → Shp dm ra jx rm σ → JJ p l e R s m args below meth c 8 D cA A n0 s0 QM σ 3 [(0, .ref rm), (1, .int (i32 v1)), (2, .int (i32 v2)), (3, .long v3), (5, .int (i32 v5))] [] := by
  intro σ v1 v2 v3 v5 g1 g2 g5 h hGσ hS H locs ls hH hl hc
  have B := K.1
  unfold w_X16_weigh_3 at h
  refine lv_iload B.1 B.2.1 dX16_weigh_3 (lv_at hl 4 rfl) ?_
  refine lv_bipush (v := i32 8) B.1 B.2.1 dX16_weigh_5 (by decide) ?_
  refine lv_icmp_ge (tgt := 24) B.1 B.2.1 dX16_weigh_7 (by decide) (fun h9 => ?_) (fun h9 => ?_)
  · rw [if_pos ((i32_le (by unfold rng; omega) g5).mp h9)] at h
    exact a_X16_weigh_24 K hQ hX _ _ _ _ g1 g2 h hGσ hS _ _ _ hH (lv_sub (l' := [(0, .ref rm), (1, .int (i32 v1)), (2, .int (i32 v2)), (3, .long v3)]) hl [0, 1, 2, 3] rfl) hc
  · rw [if_neg (fun q => h9 ((i32_le (by unfold rng; omega) g5).mpr q))] at h
    exact a_X16_weigh_10 K hQ hX hK3 _ _ _ _ _ g1 g2 g5 h hGσ hS _ _ _ hH (lv_sub (l' := [(0, .ref rm), (1, .int (i32 v1)), (2, .int (i32 v2)), (3, .long v3), (5, .int (i32 v5))]) hl [0, 1, 2, 3, 4] rfl) hc
theorem al_X16_weigh_3 {Q : Sg → Int → Prop} {X : Sg → String → Prop} (K : MC R p s m args c cX16_weigh 8 RX16 D cA tys A n0 s0 2 56 []) (hQ : HQZ p l e R s m args below meth c cX16_weigh D cA A n0 s0 QM dm ra jx rm Q) (hX : HX p l e R s m args below meth c 8 D cA A n0 s0 QM dm ra jx rm X) : ∀ (n : Nat), ∀ (σ : Sg) (v1 : Int) (v2 : Int) (v3 : Int64) (v5 : Int) (g1 : rng v1) (g2 : rng v2) (g5 : rng v5), wl_X16_weigh_3 ra jx rm Q X n σ v1 v2 v3 v5 → RG σ → Shp dm ra jx rm σ → JJ p l e R s m args below meth c 8 D cA A n0 s0 QM σ 3 [(0, .ref rm), (1, .int (i32 v1)), (2, .int (i32 v2)), (3, .long v3), (5, .int (i32 v5))] [] := by
  intro n
  induction n with
  | zero => intro σ v1 v2 v3 v5 g1 g2 g5 h; exact h.elim
  | succ n ih => exact fun σ v1 v2 v3 v5 g1 g2 g5 h => a_X16_weigh_3 K hQ hX ih σ v1 v2 v3 v5 g1 g2 g5 h
set_option maxRecDepth 20000 in
theorem a_X16_weigh_0 {Q : Sg → Int → Prop} {X : Sg → String → Prop} (K : MC R p s m args c cX16_weigh 8 RX16 D cA tys A n0 s0 2 56 []) (hQ : HQZ p l e R s m args below meth c cX16_weigh D cA A n0 s0 QM dm ra jx rm Q) (hX : HX p l e R s m args below meth c 8 D cA A n0 s0 QM dm ra jx rm X) : ∀ (σ : Sg) (v1 : Int) (v2 : Int) (v3 : Int64) (g1 : rng v1) (g2 : rng v2), w_X16_weigh_0 ra jx rm Q X σ v1 v2 v3 → RG σ → Shp dm ra jx rm σ → JJ p l e R s m args below meth c 8 D cA A n0 s0 QM σ 0 [(0, .ref rm), (1, .int (i32 v1)), (2, .int (i32 v2)), (3, .long v3)] [] := by
  intro σ v1 v2 v3 g1 g2 h hGσ hS H locs ls hH hl hc
  have B := K.1
  unfold w_X16_weigh_0 at h
  refine lv_iconst (v := i32 0) B.1 B.2.1 dX16_weigh_0 (by decide) ?_
  refine lv_istore (lv' := [(5, .int (i32 0)), (0, .ref rm), (1, .int (i32 v1)), (2, .int (i32 v2)), (3, .long v3)]) B.1 B.2.1 dX16_weigh_1 hl (by decide) rfl (fun ls hl => ?_)
  obtain ⟨n9, h⟩ := h
  exact al_X16_weigh_3 K hQ hX n9 _ _ _ _ _ g1 g2 (by unfold rng; omega) h hGσ hS _ _ _ hH (lv_sub (l' := [(0, .ref rm), (1, .int (i32 v1)), (2, .int (i32 v2)), (3, .long v3), (5, .int (i32 0))]) hl [1, 2, 3, 4, 0] rfl) hc
theorem ok_X16_weigh (hT : Tys cA tys) {Q : Sg → Int → Prop} {X : Sg → String → Prop} (σ : Sg) (v1 : Int) (v2 : Int) (v3 : Int64) (g1 : rng v1) (g2 : rng v2) (hG : RG σ) (hS : Shp dm ra jx rm σ) (h : wp_X16_weigh ra jx rm v1 v2 v3 σ Q X) : Ok l D cA tys A yX16_weigh (.code yX16_weigh cX16_weigh 8 (some .boolean)) 2 56 [.ref rm, .int (i32 v1), .int (i32 v2), .long v3] σ (QnZ dm ra jx rm Q) (QxR dm ra jx rm X) := by
  unfold wp_X16_weigh at h
  exact ok_Z (plainFor_of_name (by decide)) (by exact Nat.le_of_ble_eq_true rfl) hT (fun p e R s m args below meth c K hQ hX H locs ls hH hl hc => a_X16_weigh_0 K hQ hX σ v1 v2 v3 g1 g2 h hG hS H locs ls hH (lv_sub (l' := [(0, .ref rm), (1, .int (i32 v1)), (2, .int (i32 v2)), (3, .long v3)]) hl [0, 1, 2, 3] rfl) hc)
theorem dX16_takeGaps_0 : decode cX16_takeGaps 0 = .ok (.aload_n 0, 1) := by decide +kernel
theorem dX16_takeGaps_1 : decode cX16_takeGaps 1 = .ok (.iload_n 1, 1) := by decide +kernel
theorem dX16_takeGaps_2 : decode cX16_takeGaps 2 = .ok (.iload_n 2, 1) := by decide +kernel
theorem dX16_takeGaps_3 : decode cX16_takeGaps 3 = .ok (.lload_n 3, 1) := by decide +kernel
theorem dX16_takeGaps_4 : decode cX16_takeGaps 4 = .ok (.invokevirtual 592, 3) := by decide +kernel
theorem dX16_takeGaps_7 : decode cX16_takeGaps 7 = .ok (.ifCond .ne 4, 3) := by decide +kernel
theorem dX16_takeGaps_10 : decode cX16_takeGaps 10 = .ok (.return_, 1) := by decide +kernel
theorem dX16_takeGaps_11 : decode cX16_takeGaps 11 = .ok (.aload_n 0, 1) := by decide +kernel
theorem dX16_takeGaps_12 : decode cX16_takeGaps 12 = .ok (.getfield 542, 3) := by decide +kernel
theorem dX16_takeGaps_15 : decode cX16_takeGaps 15 = .ok (.aload_n 0, 1) := by decide +kernel
theorem dX16_takeGaps_16 : decode cX16_takeGaps 16 = .ok (.getfield 356, 3) := by decide +kernel
theorem dX16_takeGaps_19 : decode cX16_takeGaps 19 = .ok (.getfield 239, 3) := by decide +kernel
theorem dX16_takeGaps_22 : decode cX16_takeGaps 22 = .ok (.iload_n 2, 1) := by decide +kernel
theorem dX16_takeGaps_23 : decode cX16_takeGaps 23 = .ok (.iaload, 1) := by decide +kernel
theorem dX16_takeGaps_24 : decode cX16_takeGaps 24 = .ok (.laload, 1) := by decide +kernel
theorem dX16_takeGaps_25 : decode cX16_takeGaps 25 = .ok (.lstore 6, 2) := by decide +kernel
theorem dX16_takeGaps_27 : decode cX16_takeGaps 27 = .ok (.aload_n 0, 1) := by decide +kernel
theorem dX16_takeGaps_28 : decode cX16_takeGaps 28 = .ok (.getfield 356, 3) := by decide +kernel
theorem dX16_takeGaps_31 : decode cX16_takeGaps 31 = .ok (.getfield 191, 3) := by decide +kernel
theorem dX16_takeGaps_34 : decode cX16_takeGaps 34 = .ok (.iload_n 2, 1) := by decide +kernel
theorem dX16_takeGaps_35 : decode cX16_takeGaps 35 = .ok (.laload, 1) := by decide +kernel
theorem dX16_takeGaps_36 : decode cX16_takeGaps 36 = .ok (.lstore 8, 2) := by decide +kernel
theorem dX16_takeGaps_38 : decode cX16_takeGaps 38 = .ok (.iconst (-1), 1) := by decide +kernel
theorem dX16_takeGaps_39 : decode cX16_takeGaps 39 = .ok (.istore 10, 2) := by decide +kernel
theorem dX16_takeGaps_41 : decode cX16_takeGaps 41 = .ok (.aload_n 0, 1) := by decide +kernel
theorem dX16_takeGaps_42 : decode cX16_takeGaps 42 = .ok (.getfield 504, 3) := by decide +kernel
theorem dX16_takeGaps_45 : decode cX16_takeGaps 45 = .ok (.iload_n 1, 1) := by decide +kernel
theorem dX16_takeGaps_46 : decode cX16_takeGaps 46 = .ok (.iaload, 1) := by decide +kernel
theorem dX16_takeGaps_47 : decode cX16_takeGaps 47 = .ok (.istore 11, 2) := by decide +kernel
theorem dX16_takeGaps_49 : decode cX16_takeGaps 49 = .ok (.lload_n 3, 1) := by decide +kernel
theorem dX16_takeGaps_50 : decode cX16_takeGaps 50 = .ok (.lstore 12, 2) := by decide +kernel
theorem dX16_takeGaps_52 : decode cX16_takeGaps 52 = .ok (.lload_n 3, 1) := by decide +kernel
theorem dX16_takeGaps_53 : decode cX16_takeGaps 53 = .ok (.lstore 14, 2) := by decide +kernel
theorem dX16_takeGaps_55 : decode cX16_takeGaps 55 = .ok (.iload 5, 2) := by decide +kernel
theorem dX16_takeGaps_57 : decode cX16_takeGaps 57 = .ok (.istore 16, 2) := by decide +kernel
theorem dX16_takeGaps_59 : decode cX16_takeGaps 59 = .ok (.iload 11, 2) := by decide +kernel
theorem dX16_takeGaps_61 : decode cX16_takeGaps 61 = .ok (.iconst (-1), 1) := by decide +kernel
theorem dX16_takeGaps_62 : decode cX16_takeGaps 62 = .ok (.if_icmp .eq 179, 3) := by decide +kernel
theorem dX16_takeGaps_65 : decode cX16_takeGaps 65 = .ok (.aload_n 0, 1) := by decide +kernel
theorem dX16_takeGaps_66 : decode cX16_takeGaps 66 = .ok (.getfield 495, 3) := by decide +kernel
theorem dX16_takeGaps_69 : decode cX16_takeGaps 69 = .ok (.iload 11, 2) := by decide +kernel
theorem dX16_takeGaps_71 : decode cX16_takeGaps 71 = .ok (.iaload, 1) := by decide +kernel
theorem dX16_takeGaps_72 : decode cX16_takeGaps 72 = .ok (.istore 17, 2) := by decide +kernel
theorem dX16_takeGaps_74 : decode cX16_takeGaps 74 = .ok (.aload_n 0, 1) := by decide +kernel
theorem dX16_takeGaps_75 : decode cX16_takeGaps 75 = .ok (.getfield 519, 3) := by decide +kernel
theorem dX16_takeGaps_78 : decode cX16_takeGaps 78 = .ok (.iload 11, 2) := by decide +kernel
theorem dX16_takeGaps_80 : decode cX16_takeGaps 80 = .ok (.laload, 1) := by decide +kernel
theorem dX16_takeGaps_81 : decode cX16_takeGaps 81 = .ok (.lload 6, 2) := by decide +kernel
theorem dX16_takeGaps_83 : decode cX16_takeGaps 83 = .ok (.lcmp, 1) := by decide +kernel
theorem dX16_takeGaps_84 : decode cX16_takeGaps 84 = .ok (.ifCond .ne 150, 3) := by decide +kernel
theorem dX16_takeGaps_87 : decode cX16_takeGaps 87 = .ok (.aload_n 0, 1) := by decide +kernel
theorem dX16_takeGaps_88 : decode cX16_takeGaps 88 = .ok (.getfield 522, 3) := by decide +kernel
theorem dX16_takeGaps_91 : decode cX16_takeGaps 91 = .ok (.iload 11, 2) := by decide +kernel
theorem dX16_takeGaps_93 : decode cX16_takeGaps 93 = .ok (.laload, 1) := by decide +kernel
theorem dX16_takeGaps_94 : decode cX16_takeGaps 94 = .ok (.lload_n 3, 1) := by decide +kernel
theorem dX16_takeGaps_95 : decode cX16_takeGaps 95 = .ok (.lsub, 1) := by decide +kernel
theorem dX16_takeGaps_96 : decode cX16_takeGaps 96 = .ok (.lload 8, 2) := by decide +kernel
theorem dX16_takeGaps_98 : decode cX16_takeGaps 98 = .ok (.lcmp, 1) := by decide +kernel
theorem dX16_takeGaps_99 : decode cX16_takeGaps 99 = .ok (.ifCond .ge 135, 3) := by decide +kernel
theorem dX16_takeGaps_102 : decode cX16_takeGaps 102 = .ok (.lload_n 3, 1) := by decide +kernel
theorem dX16_takeGaps_103 : decode cX16_takeGaps 103 = .ok (.aload_n 0, 1) := by decide +kernel
theorem dX16_takeGaps_104 : decode cX16_takeGaps 104 = .ok (.getfield 525, 3) := by decide +kernel
theorem dX16_takeGaps_107 : decode cX16_takeGaps 107 = .ok (.iload 11, 2) := by decide +kernel
theorem dX16_takeGaps_109 : decode cX16_takeGaps 109 = .ok (.laload, 1) := by decide +kernel
theorem dX16_takeGaps_110 : decode cX16_takeGaps 110 = .ok (.lsub, 1) := by decide +kernel
theorem dX16_takeGaps_111 : decode cX16_takeGaps 111 = .ok (.lload 8, 2) := by decide +kernel
theorem dX16_takeGaps_113 : decode cX16_takeGaps 113 = .ok (.lcmp, 1) := by decide +kernel
theorem dX16_takeGaps_114 : decode cX16_takeGaps 114 = .ok (.ifCond .ge 120, 3) := by decide +kernel
theorem dX16_takeGaps_117 : decode cX16_takeGaps 117 = .ok (.lload 12, 2) := by decide +kernel
theorem dX16_takeGaps_119 : decode cX16_takeGaps 119 = .ok (.aload_n 0, 1) := by decide +kernel
theorem dX16_takeGaps_120 : decode cX16_takeGaps 120 = .ok (.getfield 522, 3) := by decide +kernel
theorem dX16_takeGaps_123 : decode cX16_takeGaps 123 = .ok (.iload 11, 2) := by decide +kernel
theorem dX16_takeGaps_125 : decode cX16_takeGaps 125 = .ok (.laload, 1) := by decide +kernel
theorem dX16_takeGaps_126 : decode cX16_takeGaps 126 = .ok (.invokestatic 581, 3) := by decide +kernel
theorem dX16_takeGaps_129 : decode cX16_takeGaps 129 = .ok (.lstore 12, 2) := by decide +kernel
theorem dX16_takeGaps_131 : decode cX16_takeGaps 131 = .ok (.lload 14, 2) := by decide +kernel
theorem dX16_takeGaps_133 : decode cX16_takeGaps 133 = .ok (.aload_n 0, 1) := by decide +kernel
theorem dX16_takeGaps_134 : decode cX16_takeGaps 134 = .ok (.getfield 525, 3) := by decide +kernel
theorem dX16_takeGaps_137 : decode cX16_takeGaps 137 = .ok (.iload 11, 2) := by decide +kernel
theorem dX16_takeGaps_139 : decode cX16_takeGaps 139 = .ok (.laload, 1) := by decide +kernel
theorem dX16_takeGaps_140 : decode cX16_takeGaps 140 = .ok (.invokestatic 586, 3) := by decide +kernel
theorem dX16_takeGaps_143 : decode cX16_takeGaps 143 = .ok (.lstore 14, 2) := by decide +kernel
theorem dX16_takeGaps_145 : decode cX16_takeGaps 145 = .ok (.aload_n 0, 1) := by decide +kernel
theorem dX16_takeGaps_146 : decode cX16_takeGaps 146 = .ok (.iload 16, 2) := by decide +kernel
theorem dX16_takeGaps_148 : decode cX16_takeGaps 148 = .ok (.aload_n 0, 1) := by decide +kernel
theorem dX16_takeGaps_149 : decode cX16_takeGaps 149 = .ok (.getfield 531, 3) := by decide +kernel
theorem dX16_takeGaps_152 : decode cX16_takeGaps 152 = .ok (.iload 11, 2) := by decide +kernel
theorem dX16_takeGaps_154 : decode cX16_takeGaps 154 = .ok (.iaload, 1) := by decide +kernel
theorem dX16_takeGaps_155 : decode cX16_takeGaps 155 = .ok (.invokevirtual 603, 3) := by decide +kernel
theorem dX16_takeGaps_158 : decode cX16_takeGaps 158 = .ok (.istore 16, 2) := by decide +kernel
theorem dX16_takeGaps_160 : decode cX16_takeGaps 160 = .ok (.iconst 0, 1) := by decide +kernel
theorem dX16_takeGaps_161 : decode cX16_takeGaps 161 = .ok (.istore 18, 2) := by decide +kernel
theorem dX16_takeGaps_163 : decode cX16_takeGaps 163 = .ok (.iload 18, 2) := by decide +kernel
theorem dX16_takeGaps_165 : decode cX16_takeGaps 165 = .ok (.aload_n 0, 1) := by decide +kernel
theorem dX16_takeGaps_166 : decode cX16_takeGaps 166 = .ok (.getfield 356, 3) := by decide +kernel
theorem dX16_takeGaps_169 : decode cX16_takeGaps 169 = .ok (.getfield 222, 3) := by decide +kernel
theorem dX16_takeGaps_172 : decode cX16_takeGaps 172 = .ok (.iload_n 2, 1) := by decide +kernel
theorem dX16_takeGaps_173 : decode cX16_takeGaps 173 = .ok (.iaload, 1) := by decide +kernel
theorem dX16_takeGaps_174 : decode cX16_takeGaps 174 = .ok (.if_icmp .ge 54, 3) := by decide +kernel
theorem dX16_takeGaps_177 : decode cX16_takeGaps 177 = .ok (.aload_n 0, 1) := by decide +kernel
theorem dX16_takeGaps_178 : decode cX16_takeGaps 178 = .ok (.getfield 578, 3) := by decide +kernel
theorem dX16_takeGaps_181 : decode cX16_takeGaps 181 = .ok (.iload 18, 2) := by decide +kernel
theorem dX16_takeGaps_183 : decode cX16_takeGaps 183 = .ok (.aload_n 0, 1) := by decide +kernel
theorem dX16_takeGaps_184 : decode cX16_takeGaps 184 = .ok (.getfield 356, 3) := by decide +kernel
theorem dX16_takeGaps_187 : decode cX16_takeGaps 187 = .ok (.getfield 261, 3) := by decide +kernel
theorem dX16_takeGaps_190 : decode cX16_takeGaps 190 = .ok (.bipush 8, 2) := by decide +kernel
theorem dX16_takeGaps_192 : decode cX16_takeGaps 192 = .ok (.iload_n 2, 1) := by decide +kernel
theorem dX16_takeGaps_193 : decode cX16_takeGaps 193 = .ok (.imul, 1) := by decide +kernel
theorem dX16_takeGaps_194 : decode cX16_takeGaps 194 = .ok (.iload 18, 2) := by decide +kernel
theorem dX16_takeGaps_196 : decode cX16_takeGaps 196 = .ok (.iadd, 1) := by decide +kernel
theorem dX16_takeGaps_197 : decode cX16_takeGaps 197 = .ok (.iaload, 1) := by decide +kernel
theorem dX16_takeGaps_198 : decode cX16_takeGaps 198 = .ok (.aload_n 0, 1) := by decide +kernel
theorem dX16_takeGaps_199 : decode cX16_takeGaps 199 = .ok (.getfield 578, 3) := by decide +kernel
theorem dX16_takeGaps_202 : decode cX16_takeGaps 202 = .ok (.iload 18, 2) := by decide +kernel
theorem dX16_takeGaps_204 : decode cX16_takeGaps 204 = .ok (.laload, 1) := by decide +kernel
theorem dX16_takeGaps_205 : decode cX16_takeGaps 205 = .ok (.aload_n 0, 1) := by decide +kernel
theorem dX16_takeGaps_206 : decode cX16_takeGaps 206 = .ok (.getfield 528, 3) := by decide +kernel
theorem dX16_takeGaps_209 : decode cX16_takeGaps 209 = .ok (.bipush 8, 2) := by decide +kernel
theorem dX16_takeGaps_211 : decode cX16_takeGaps 211 = .ok (.iload 11, 2) := by decide +kernel
theorem dX16_takeGaps_213 : decode cX16_takeGaps 213 = .ok (.imul, 1) := by decide +kernel
theorem dX16_takeGaps_214 : decode cX16_takeGaps 214 = .ok (.iload 18, 2) := by decide +kernel
theorem dX16_takeGaps_216 : decode cX16_takeGaps 216 = .ok (.iadd, 1) := by decide +kernel
theorem dX16_takeGaps_217 : decode cX16_takeGaps 217 = .ok (.laload, 1) := by decide +kernel
theorem dX16_takeGaps_218 : decode cX16_takeGaps 218 = .ok (.invokestatic 589, 3) := by decide +kernel
theorem dX16_takeGaps_221 : decode cX16_takeGaps 221 = .ok (.lastore, 1) := by decide +kernel
theorem dX16_takeGaps_222 : decode cX16_takeGaps 222 = .ok (.iinc 18 1, 3) := by decide +kernel
theorem dX16_takeGaps_225 : decode cX16_takeGaps 225 = .ok (.goto (-62), 3) := by decide +kernel
theorem dX16_takeGaps_228 : decode cX16_takeGaps 228 = .ok (.aload_n 0, 1) := by decide +kernel
theorem dX16_takeGaps_229 : decode cX16_takeGaps 229 = .ok (.iload 11, 2) := by decide +kernel
theorem dX16_takeGaps_231 : decode cX16_takeGaps 231 = .ok (.invokevirtual 607, 3) := by decide +kernel
theorem dX16_takeGaps_234 : decode cX16_takeGaps 234 = .ok (.iload 17, 2) := by decide +kernel
theorem dX16_takeGaps_236 : decode cX16_takeGaps 236 = .ok (.istore 11, 2) := by decide +kernel
theorem dX16_takeGaps_238 : decode cX16_takeGaps 238 = .ok (.goto (-179), 3) := by decide +kernel
theorem dX16_takeGaps_241 : decode cX16_takeGaps 241 = .ok (.aload_n 0, 1) := by decide +kernel
theorem dX16_takeGaps_242 : decode cX16_takeGaps 242 = .ok (.iload_n 1, 1) := by decide +kernel
theorem dX16_takeGaps_243 : decode cX16_takeGaps 243 = .ok (.iconst 2, 1) := by decide +kernel
theorem dX16_takeGaps_244 : decode cX16_takeGaps 244 = .ok (.lload 6, 2) := by decide +kernel
theorem dX16_takeGaps_246 : decode cX16_takeGaps 246 = .ok (.lload 12, 2) := by decide +kernel
theorem dX16_takeGaps_248 : decode cX16_takeGaps 248 = .ok (.lload 14, 2) := by decide +kernel
theorem dX16_takeGaps_250 : decode cX16_takeGaps 250 = .ok (.aload_n 0, 1) := by decide +kernel
theorem dX16_takeGaps_251 : decode cX16_takeGaps 251 = .ok (.getfield 578, 3) := by decide +kernel
theorem dX16_takeGaps_254 : decode cX16_takeGaps 254 = .ok (.iconst 0, 1) := by decide +kernel
theorem dX16_takeGaps_255 : decode cX16_takeGaps 255 = .ok (.iload 16, 2) := by decide +kernel
theorem dX16_takeGaps_257 : decode cX16_takeGaps 257 = .ok (.invokevirtual 567, 3) := by decide +kernel
theorem dX16_takeGaps_260 : decode cX16_takeGaps 260 = .ok (.istore 10, 2) := by decide +kernel
theorem dX16_takeGaps_262 : decode cX16_takeGaps 262 = .ok (.return_, 1) := by decide +kernel
set_option maxRecDepth 20000 in
theorem a_X16_takeGaps_241 {Q : Sg → Unit → Prop} {X : Sg → String → Prop} (K : MC R p s m args c cX16_takeGaps 19 RX16 D cA tys A n0 s0 3 83 []) (hQ : HQV p l e R s m args below meth c cX16_takeGaps D cA A n0 s0 QM dm ra jx rm Q) (hX : HX p l e R s m args below meth c 19 D cA A n0 s0 QM dm ra jx rm X) : ∀ (σ : Sg) (v1 : Int) (v6 : Int64) (v12 : Int64) (v14 : Int64) (v16 : Int) (g1 : rng v1) (g16 : rng v16), w_X16_takeGaps_241 ra jx rm Q X σ v1 v6 v12 v14 v16 → RG σ → Shp dm ra jx rm σ → JJ p l e R s m args below meth c 19 D cA A n0 s0 QM σ 241 [(0, .ref rm), (1, .int (i32 v1)), (6, .long v6), (12, .long v12), (14, .long v14), (16, .int (i32 v16))] [] := by
  intro σ v1 v6 v12 v14 v16 g1 g16 h hGσ hS H locs ls hH hl hc
  have B := K.1
  unfold w_X16_takeGaps_241 at h
  refine lv_aload_n B.1 B.2.1 dX16_takeGaps_241 rfl (lv_at hl 0 rfl) ?_
  refine lv_iload_n B.1 B.2.1 dX16_takeGaps_242 rfl (lv_at hl 1 rfl) ?_
  refine lv_iconst (v := i32 2) B.1 B.2.1 dX16_takeGaps_243 (by decide) ?_
  refine lv_lload B.1 B.2.1 dX16_takeGaps_244 (lv_at hl 2 rfl) ?_
  refine lv_lload B.1 B.2.1 dX16_takeGaps_246 (lv_at hl 3 rfl) ?_
  refine lv_lload B.1 B.2.1 dX16_takeGaps_248 (lv_at hl 4 rfl) ?_
  refine lv_aload_n B.1 B.2.1 dX16_takeGaps_250 rfl (lv_at hl 0 rfl) ?_
  refine r_arr B hH hS 82 (kd := 101) (n := 16) (by decide) (by decide) wf_X16_578 rfl rfl dX16_takeGaps_251 ?_
  refine lv_iconst (v := i32 0) B.1 B.2.1 dX16_takeGaps_254 (by decide) ?_
  refine lv_iload B.1 B.2.1 dX16_takeGaps_255 (lv_at hl 5 rfl) ?_
  refine c_V B hH hl hc K.2.2.1 (C := RX16) (T := TX16) (N := 123) (ci := 16) (As := [.int (i32 v1), .int (i32 2), .long v6, .long v12, .long v14, va_rf (some (ra 82)), .int (i32 0), .int (i32 v16)]) (ok_X16_record K.2.1 σ v1 2 v6 v12 v14 (some (ra 82)) 0 v16 g1 (by unfold rng; omega) (by unfold rng; omega) g16 hGσ hS h) wc_X16_567 8 hd_X16_record ⟨Nat.le_trans (Nat.le_of_ble_eq_true rfl) K.2.2.2.1, Nat.le_trans (Nat.le_of_ble_eq_true rfl) K.2.2.2.2.1⟩ hS.1.1 hS.1.2 (by decide) rfl rfl (rest := []) rfl (Nat.le_of_ble_eq_true rfl) dX16_takeGaps_257 (fun σ29 w hq => ?_) (fun σ9 E9 hx9 => hX σ9 E9 _ _ _ (tb_out K.2.2.2.2.2 rfl) hx9.1 hx9.2.1 hx9.2.2)
  obtain ⟨r30, rfl, gr30, h, hGσ29, hS⟩ := hq
  intro H locs ls hH hl hc
  refine W.eq (g2 := F0 m 260 ls [.int (i32 r30)]) (rfl) ?_
  try dsimp only at h
  refine lv_istore (lv' := [(10, .int (i32 r30)), (0, .ref rm), (1, .int (i32 v1)), (6, .long v6), (12, .long v12), (14, .long v14), (16, .int (i32 v16))]) B.1 B.2.1 dX16_takeGaps_260 hl (by decide) rfl (fun ls hl => ?_)
  exact hQ _ _ _ _ _ dX16_takeGaps_262 hH hc h hGσ29 hS
set_option maxRecDepth 20000 in
theorem a_X16_takeGaps_234 {Q : Sg → Unit → Prop} {X : Sg → String → Prop} (K : MC R p s m args c cX16_takeGaps 19 RX16 D cA tys A n0 s0 3 83 []) (hQ : HQV p l e R s m args below meth c cX16_takeGaps D cA A n0 s0 QM dm ra jx rm Q) (hX : HX p l e R s m args below meth c 19 D cA A n0 s0 QM dm ra jx rm X) {K59 : Sg → Int → Int → Int64 → Int64 → Int64 → Int → Int64 → Int64 → Int → Prop} (hK59 : ∀ (σ : Sg) (v1 : Int) (v2 : Int) (v3 : Int64) (v6 : Int64) (v8 : Int64) (v11 : Int) (v12 : Int64) (v14 : Int64) (v16 : Int) (g1 : rng v1) (g2 : rng v2) (g11 : rng v11) (g16 : rng v16), K59 σ v1 v2 v3 v6 v8 v11 v12 v14 v16 → RG σ → Shp dm ra jx rm σ → JJ p l e R s m args below meth c 19 D cA A n0 s0 QM σ 59 [(0, .ref rm), (1, .int (i32 v1)), (2, .int (i32 v2)), (3, .long v3), (6, .long v6), (8, .long v8), (11, .int (i32 v11)), (12, .long v12), (14, .long v14), (16, .int (i32 v16))] []) : ∀ (σ : Sg) (v1 : Int) (v2 : Int) (v3 : Int64) (v6 : Int64) (v8 : Int64) (v12 : Int64) (v14 : Int64) (v16 : Int) (v17 : Int) (g1 : rng v1) (g2 : rng v2) (g16 : rng v16) (g17 : rng v17), w_X16_takeGaps_234 ra jx rm K59 Q X σ v1 v2 v3 v6 v8 v12 v14 v16 v17 → RG σ → Shp dm ra jx rm σ → JJ p l e R s m args below meth c 19 D cA A n0 s0 QM σ 234 [(0, .ref rm), (1, .int (i32 v1)), (2, .int (i32 v2)), (3, .long v3), (6, .long v6), (8, .long v8), (12, .long v12), (14, .long v14), (16, .int (i32 v16)), (17, .int (i32 v17))] [] := by
  intro σ v1 v2 v3 v6 v8 v12 v14 v16 v17 g1 g2 g16 g17 h hGσ hS H locs ls hH hl hc
  have B := K.1
  unfold w_X16_takeGaps_234 at h
  refine lv_iload B.1 B.2.1 dX16_takeGaps_234 (lv_at hl 9 rfl) ?_
  refine lv_istore (lv' := [(11, .int (i32 v17)), (0, .ref rm), (1, .int (i32 v1)), (2, .int (i32 v2)), (3, .long v3), (6, .long v6), (8, .long v8), (12, .long v12), (14, .long v14), (16, .int (i32 v16)), (17, .int (i32 v17))]) B.1 B.2.1 dX16_takeGaps_236 hl (by decide) rfl (fun ls hl => ?_)
  refine lv_goto (tgt := 59) B.1 B.2.1 dX16_takeGaps_238 (by decide) ?_
  exact hK59 _ _ _ _ _ _ _ _ _ _ g1 g2 g17 g16 h hGσ hS _ _ _ hH (lv_sub (l' := [(0, .ref rm), (1, .int (i32 v1)), (2, .int (i32 v2)), (3, .long v3), (6, .long v6), (8, .long v8), (11, .int (i32 v17)), (12, .long v12), (14, .long v14), (16, .int (i32 v16))]) hl [1, 2, 3, 4, 5, 6, 0, 7, 8, 9] rfl) hc
set_option maxRecDepth 20000 in
theorem a_X16_takeGaps_228 {Q : Sg → Unit → Prop} {X : Sg → String → Prop} (K : MC R p s m args c cX16_takeGaps 19 RX16 D cA tys A n0 s0 3 83 []) (hQ : HQV p l e R s m args below meth c cX16_takeGaps D cA A n0 s0 QM dm ra jx rm Q) (hX : HX p l e R s m args below meth c 19 D cA A n0 s0 QM dm ra jx rm X) {K59 : Sg → Int → Int → Int64 → Int64 → Int64 → Int → Int64 → Int64 → Int → Prop} (hK59 : ∀ (σ : Sg) (v1 : Int) (v2 : Int) (v3 : Int64) (v6 : Int64) (v8 : Int64) (v11 : Int) (v12 : Int64) (v14 : Int64) (v16 : Int) (g1 : rng v1) (g2 : rng v2) (g11 : rng v11) (g16 : rng v16), K59 σ v1 v2 v3 v6 v8 v11 v12 v14 v16 → RG σ → Shp dm ra jx rm σ → JJ p l e R s m args below meth c 19 D cA A n0 s0 QM σ 59 [(0, .ref rm), (1, .int (i32 v1)), (2, .int (i32 v2)), (3, .long v3), (6, .long v6), (8, .long v8), (11, .int (i32 v11)), (12, .long v12), (14, .long v14), (16, .int (i32 v16))] []) : ∀ (σ : Sg) (v1 : Int) (v2 : Int) (v3 : Int64) (v6 : Int64) (v8 : Int64) (v11 : Int) (v12 : Int64) (v14 : Int64) (v16 : Int) (v17 : Int) (g1 : rng v1) (g2 : rng v2) (g11 : rng v11) (g16 : rng v16) (g17 : rng v17), w_X16_takeGaps_228 ra jx rm K59 Q X σ v1 v2 v3 v6 v8 v11 v12 v14 v16 v17 → RG σ → Shp dm ra jx rm σ → JJ p l e R s m args below meth c 19 D cA A n0 s0 QM σ 228 [(0, .ref rm), (1, .int (i32 v1)), (2, .int (i32 v2)), (3, .long v3), (6, .long v6), (8, .long v8), (11, .int (i32 v11)), (12, .long v12), (14, .long v14), (16, .int (i32 v16)), (17, .int (i32 v17))] [] := by
  intro σ v1 v2 v3 v6 v8 v11 v12 v14 v16 v17 g1 g2 g11 g16 g17 h hGσ hS H locs ls hH hl hc
  have B := K.1
  unfold w_X16_takeGaps_228 at h
  refine lv_aload_n B.1 B.2.1 dX16_takeGaps_228 rfl (lv_at hl 0 rfl) ?_
  refine lv_iload B.1 B.2.1 dX16_takeGaps_229 (lv_at hl 6 rfl) ?_
  refine c_V B hH hl hc K.2.2.1 (C := RX16) (T := TX16) (N := 123) (ci := 16) (As := [.int (i32 v11)]) (ok_X16_drop K.2.1 σ v11 g11 hGσ hS h) wc_X16_607 1 hd_X16_drop ⟨Nat.le_trans (Nat.le_of_ble_eq_true rfl) K.2.2.2.1, Nat.le_trans (Nat.le_of_ble_eq_true rfl) K.2.2.2.2.1⟩ hS.1.1 hS.1.2 (by decide) rfl rfl (rest := []) rfl (Nat.le_of_ble_eq_true rfl) dX16_takeGaps_231 (fun σ31 w hq => ?_) (fun σ9 E9 hx9 => hX σ9 E9 _ _ _ (tb_out K.2.2.2.2.2 rfl) hx9.1 hx9.2.1 hx9.2.2)
  obtain ⟨rfl, h, hGσ31, hS⟩ := hq
  intro H locs ls hH hl hc
  refine W.eq (g2 := F0 m 234 ls []) (rfl) ?_
  try dsimp only at h
  exact a_X16_takeGaps_234 K hQ hX hK59 _ _ _ _ _ _ _ _ _ _ g1 g2 g16 g17 h hGσ31 hS _ _ _ hH (lv_sub (l' := [(0, .ref rm), (1, .int (i32 v1)), (2, .int (i32 v2)), (3, .long v3), (6, .long v6), (8, .long v8), (12, .long v12), (14, .long v14), (16, .int (i32 v16)), (17, .int (i32 v17))]) hl [0, 1, 2, 3, 4, 5, 7, 8, 9, 10] rfl) hc
set_option maxRecDepth 20000 in
theorem a_X16_takeGaps_177 {Q : Sg → Unit → Prop} {X : Sg → String → Prop} (K : MC R p s m args c cX16_takeGaps 19 RX16 D cA tys A n0 s0 3 83 []) (hQ : HQV p l e R s m args below meth c cX16_takeGaps D cA A n0 s0 QM dm ra jx rm Q) (hX : HX p l e R s m args below meth c 19 D cA A n0 s0 QM dm ra jx rm X) {K59 : Sg → Int → Int → Int64 → Int64 → Int64 → Int → Int64 → Int64 → Int → Prop} (hK59 : ∀ (σ : Sg) (v1 : Int) (v2 : Int) (v3 : Int64) (v6 : Int64) (v8 : Int64) (v11 : Int) (v12 : Int64) (v14 : Int64) (v16 : Int) (g1 : rng v1) (g2 : rng v2) (g11 : rng v11) (g16 : rng v16), K59 σ v1 v2 v3 v6 v8 v11 v12 v14 v16 → RG σ → Shp dm ra jx rm σ → JJ p l e R s m args below meth c 19 D cA A n0 s0 QM σ 59 [(0, .ref rm), (1, .int (i32 v1)), (2, .int (i32 v2)), (3, .long v3), (6, .long v6), (8, .long v8), (11, .int (i32 v11)), (12, .long v12), (14, .long v14), (16, .int (i32 v16))] []) {K163 : Sg → Int → Int → Int64 → Int64 → Int64 → Int → Int64 → Int64 → Int → Int → Int → Prop} (hK163 : ∀ (σ : Sg) (v1 : Int) (v2 : Int) (v3 : Int64) (v6 : Int64) (v8 : Int64) (v11 : Int) (v12 : Int64) (v14 : Int64) (v16 : Int) (v17 : Int) (v18 : Int) (g1 : rng v1) (g2 : rng v2) (g11 : rng v11) (g16 : rng v16) (g17 : rng v17) (g18 : rng v18), K163 σ v1 v2 v3 v6 v8 v11 v12 v14 v16 v17 v18 → RG σ → Shp dm ra jx rm σ → JJ p l e R s m args below meth c 19 D cA A n0 s0 QM σ 163 [(0, .ref rm), (1, .int (i32 v1)), (2, .int (i32 v2)), (3, .long v3), (6, .long v6), (8, .long v8), (11, .int (i32 v11)), (12, .long v12), (14, .long v14), (16, .int (i32 v16)), (17, .int (i32 v17)), (18, .int (i32 v18))] []) : ∀ (σ : Sg) (v1 : Int) (v2 : Int) (v3 : Int64) (v6 : Int64) (v8 : Int64) (v11 : Int) (v12 : Int64) (v14 : Int64) (v16 : Int) (v17 : Int) (v18 : Int) (g1 : rng v1) (g2 : rng v2) (g11 : rng v11) (g16 : rng v16) (g17 : rng v17) (g18 : rng v18), w_X16_takeGaps_177 ra jx rm K59 K163 Q X σ v1 v2 v3 v6 v8 v11 v12 v14 v16 v17 v18 → RG σ → Shp dm ra jx rm σ → JJ p l e R s m args below meth c 19 D cA A n0 s0 QM σ 177 [(0, .ref rm), (1, .int (i32 v1)), (2, .int (i32 v2)), (3, .long v3), (6, .long v6), (8, .long v8), (11, .int (i32 v11)), (12, .long v12), (14, .long v14), (16, .int (i32 v16)), (17, .int (i32 v17)), (18, .int (i32 v18))] [] := by
  intro σ v1 v2 v3 v6 v8 v11 v12 v14 v16 v17 v18 g1 g2 g11 g16 g17 g18 h hGσ hS H locs ls hH hl hc
  have B := K.1
  unfold w_X16_takeGaps_177 at h
  refine lv_aload_n B.1 B.2.1 dX16_takeGaps_177 rfl (lv_at hl 0 rfl) ?_
  refine r_arr B hH hS 82 (kd := 101) (n := 16) (by decide) (by decide) wf_X16_578 rfl rfl dX16_takeGaps_178 ?_
  refine lv_iload B.1 B.2.1 dX16_takeGaps_181 (lv_at hl 11 rfl) ?_
  refine lv_aload_n B.1 B.2.1 dX16_takeGaps_183 rfl (lv_at hl 0 rfl) ?_
  refine r_getp B hH hS 17 (by decide) wf_X16_356 rfl rfl dX16_takeGaps_184 ?_
  obtain ⟨a32, ea32, ja32, h⟩ := h
  refine W.eq (g2 := F0 m 187 ls [.ref a32, .int (i32 v18), .ref (ra 82)]) (by rw [ea32]; rfl) ?_
  refine n_arr B hH hS ja32 14 (kd := 100) (n := 128) (by decide) (by decide) (List.mem_of_getElem? (i := 14) rfl) rfl dX16_takeGaps_187 ?_
  refine lv_bipush (v := i32 8) B.1 B.2.1 dX16_takeGaps_190 (by decide) ?_
  refine lv_iload_n B.1 B.2.1 dX16_takeGaps_192 rfl (lv_at hl 2 rfl) ?_
  obtain ⟨q2, h⟩ := h
  refine lv_imul B.1 B.2.1 dX16_takeGaps_193 ?_
  rw [i32_mul]
  refine lv_iload B.1 B.2.1 dX16_takeGaps_194 (lv_at hl 11 rfl) ?_
  obtain ⟨q3, h⟩ := h
  refine lv_iadd B.1 B.2.1 dX16_takeGaps_196 ?_
  rw [i32_add]
  obtain ⟨q4, h⟩ := h
  refine x_iald B K.2.1 hH (hS.ja ja32 (k := 14) (kd := 100) (n := 128) (by decide)) (by decide) q4 dX16_takeGaps_197 ?_
  refine lv_aload_n B.1 B.2.1 dX16_takeGaps_198 rfl (lv_at hl 0 rfl) ?_
  refine r_arr B hH hS 82 (kd := 101) (n := 16) (by decide) (by decide) wf_X16_578 rfl rfl dX16_takeGaps_199 ?_
  refine lv_iload B.1 B.2.1 dX16_takeGaps_202 (lv_at hl 11 rfl) ?_
  obtain ⟨q5, h⟩ := h
  refine x_lald B K.2.1 hH (hS.ar (k := 82) (kd := 101) (n := 16) (by decide)) (by decide) q5 dX16_takeGaps_204 ?_
  refine lv_aload_n B.1 B.2.1 dX16_takeGaps_205 rfl (lv_at hl 0 rfl) ?_
  refine r_arr B hH hS 73 (kd := 101) (n := 32000) (by decide) (by decide) wf_X16_528 rfl rfl dX16_takeGaps_206 ?_
  refine lv_bipush (v := i32 8) B.1 B.2.1 dX16_takeGaps_209 (by decide) ?_
  refine lv_iload B.1 B.2.1 dX16_takeGaps_211 (lv_at hl 6 rfl) ?_
  obtain ⟨q6, h⟩ := h
  refine lv_imul B.1 B.2.1 dX16_takeGaps_213 ?_
  rw [i32_mul]
  refine lv_iload B.1 B.2.1 dX16_takeGaps_214 (lv_at hl 11 rfl) ?_
  obtain ⟨q7, h⟩ := h
  refine lv_iadd B.1 B.2.1 dX16_takeGaps_216 ?_
  rw [i32_add]
  obtain ⟨q8, h⟩ := h
  refine x_lald B K.2.1 hH (hS.ar (k := 73) (kd := 101) (n := 32000) (by decide)) (by decide) q8 dX16_takeGaps_217 ?_
  refine c_S B hH hl hc K.2.2.1 (As := [.int (i32 (gI σ (jx a32 14) ((8 * v2) + v18).toNat)), .long (gJ σ (ra 82) v18.toNat), .long (gJ σ (ra 73) ((8 * v11) + v18).toNat)]) (ok_X16_gathered K.2.1 σ (gI σ (jx a32 14) ((8 * v2) + v18).toNat) (gJ σ (ra 82) v18.toNat) (gJ σ (ra 73) ((8 * v11) + v18).toNat) (hGσ _ _) hGσ hS h) wc_X16_589 3 hd_X16_gathered ⟨Nat.le_trans (Nat.le_of_ble_eq_true rfl) K.2.2.2.1, Nat.le_trans (Nat.le_of_ble_eq_true rfl) K.2.2.2.2.1⟩ rfl (rest := [.int (i32 v18), .ref (ra 82)]) rfl (Nat.le_of_ble_eq_true rfl) dX16_takeGaps_218 (fun σ33 w hq => ?_) (fun σ9 E9 hx9 => hX σ9 E9 _ _ _ (tb_out K.2.2.2.2.2 rfl) hx9.1 hx9.2.1 hx9.2.2)
  obtain ⟨r34, rfl, h, hGσ33, hS⟩ := hq
  intro H locs ls hH hl hc
  refine W.eq (g2 := F0 m 221 ls [.long r34, .int (i32 v18), .ref (ra 82)]) (rfl) ?_
  try dsimp only at h
  obtain ⟨q9, h⟩ := h
  obtain ⟨σ35, eσ35⟩ : ∃ z, z = pJ σ33 (ra 82) v18.toNat r34 := ⟨_, rfl⟩
  have h := h σ35 eσ35
  refine x_last B K.2.1 hH (hS.ar (k := 82) (kd := 101) (n := 16) (by decide)) (by decide) q9 dX16_takeGaps_221 (fun H locs hH => ?_)
  have hH : Hd D cA A s (pJ σ33 (ra 82) v18.toNat r34) H locs := hH
  rw [← eσ35] at hH
  have hGσ35 : RG σ35 := by rw [eσ35]; exact hGσ33.pJ
  have hS : Shp dm ra jx rm σ35 := by rw [eσ35]; exact hS
  have hc : CB n0 s0 σ35 := by rw [eσ35]; exact hc
  rw [show gc σ33 = gc σ35 by rw [eσ35], show gs σ33 = gs σ35 by rw [eσ35]]
  obtain ⟨q11, h⟩ := h
  refine lv_iinc (k := 11) (v := i32 (v18 + 1)) (lv' := [(18, .int (i32 (v18 + 1))), (0, .ref rm), (1, .int (i32 v1)), (2, .int (i32 v2)), (3, .long v3), (6, .long v6), (8, .long v8), (11, .int (i32 v11)), (12, .long v12), (14, .long v14), (16, .int (i32 v16)), (17, .int (i32 v17))]) B.1 B.2.1 dX16_takeGaps_222 hl rfl (i32_add _ _) (by decide) rfl (fun ls hl => ?_)
  refine lv_goto (tgt := 163) B.1 B.2.1 dX16_takeGaps_225 (by decide) ?_
  exact hK163 _ _ _ _ _ _ _ _ _ _ _ _ g1 g2 g11 g16 g17 q11 h hGσ35 hS _ _ _ hH (lv_sub (l' := [(0, .ref rm), (1, .int (i32 v1)), (2, .int (i32 v2)), (3, .long v3), (6, .long v6), (8, .long v8), (11, .int (i32 v11)), (12, .long v12), (14, .long v14), (16, .int (i32 v16)), (17, .int (i32 v17)), (18, .int (i32 (v18 + 1)))]) hl [1, 2, 3, 4, 5, 6, 7, 8, 9, 10, 11, 0] rfl) hc
set_option maxRecDepth 20000 in
theorem a_X16_takeGaps_163 {Q : Sg → Unit → Prop} {X : Sg → String → Prop} (K : MC R p s m args c cX16_takeGaps 19 RX16 D cA tys A n0 s0 3 83 []) (hQ : HQV p l e R s m args below meth c cX16_takeGaps D cA A n0 s0 QM dm ra jx rm Q) (hX : HX p l e R s m args below meth c 19 D cA A n0 s0 QM dm ra jx rm X) {K59 : Sg → Int → Int → Int64 → Int64 → Int64 → Int → Int64 → Int64 → Int → Prop} (hK59 : ∀ (σ : Sg) (v1 : Int) (v2 : Int) (v3 : Int64) (v6 : Int64) (v8 : Int64) (v11 : Int) (v12 : Int64) (v14 : Int64) (v16 : Int) (g1 : rng v1) (g2 : rng v2) (g11 : rng v11) (g16 : rng v16), K59 σ v1 v2 v3 v6 v8 v11 v12 v14 v16 → RG σ → Shp dm ra jx rm σ → JJ p l e R s m args below meth c 19 D cA A n0 s0 QM σ 59 [(0, .ref rm), (1, .int (i32 v1)), (2, .int (i32 v2)), (3, .long v3), (6, .long v6), (8, .long v8), (11, .int (i32 v11)), (12, .long v12), (14, .long v14), (16, .int (i32 v16))] []) {K163 : Sg → Int → Int → Int64 → Int64 → Int64 → Int → Int64 → Int64 → Int → Int → Int → Prop} (hK163 : ∀ (σ : Sg) (v1 : Int) (v2 : Int) (v3 : Int64) (v6 : Int64) (v8 : Int64) (v11 : Int) (v12 : Int64) (v14 : Int64) (v16 : Int) (v17 : Int) (v18 : Int) (g1 : rng v1) (g2 : rng v2) (g11 : rng v11) (g16 : rng v16) (g17 : rng v17) (g18 : rng v18), K163 σ v1 v2 v3 v6 v8 v11 v12 v14 v16 v17 v18 → RG σ → Shp dm ra jx rm σ → JJ p l e R s m args below meth c 19 D cA A n0 s0 QM σ 163 [(0, .ref rm), (1, .int (i32 v1)), (2, .int (i32 v2)), (3, .long v3), (6, .long v6), (8, .long v8), (11, .int (i32 v11)), (12, .long v12), (14, .long v14), (16, .int (i32 v16)), (17, .int (i32 v17)), (18, .int (i32 v18))] []) : ∀ (σ : Sg) (v1 : Int) (v2 : Int) (v3 : Int64) (v6 : Int64) (v8 : Int64) (v11 : Int) (v12 : Int64) (v14 : Int64) (v16 : Int) (v17 : Int) (v18 : Int) (g1 : rng v1) (g2 : rng v2) (g11 : rng v11) (g16 : rng v16) (g17 : rng v17) (g18 : rng v18), w_X16_takeGaps_163 ra jx rm K59 K163 Q X σ v1 v2 v3 v6 v8 v11 v12 v14 v16 v17 v18 → RG σ → Shp dm ra jx rm σ → JJ p l e R s m args below meth c 19 D cA A n0 s0 QM σ 163 [(0, .ref rm), (1, .int (i32 v1)), (2, .int (i32 v2)), (3, .long v3), (6, .long v6), (8, .long v8), (11, .int (i32 v11)), (12, .long v12), (14, .long v14), (16, .int (i32 v16)), (17, .int (i32 v17)), (18, .int (i32 v18))] [] := by
  intro σ v1 v2 v3 v6 v8 v11 v12 v14 v16 v17 v18 g1 g2 g11 g16 g17 g18 h hGσ hS H locs ls hH hl hc
  have B := K.1
  unfold w_X16_takeGaps_163 at h
  refine lv_iload B.1 B.2.1 dX16_takeGaps_163 (lv_at hl 11 rfl) ?_
  refine lv_aload_n B.1 B.2.1 dX16_takeGaps_165 rfl (lv_at hl 0 rfl) ?_
  refine r_getp B hH hS 17 (by decide) wf_X16_356 rfl rfl dX16_takeGaps_166 ?_
  obtain ⟨a36, ea36, ja36, h⟩ := h
  refine W.eq (g2 := F0 m 169 ls [.ref a36, .int (i32 v18)]) (by rw [ea36]; rfl) ?_
  refine n_arr B hH hS ja36 12 (kd := 100) (n := 16) (by decide) (by decide) (List.mem_of_getElem? (i := 12) rfl) rfl dX16_takeGaps_169 ?_
  refine lv_iload_n B.1 B.2.1 dX16_takeGaps_172 rfl (lv_at hl 2 rfl) ?_
  obtain ⟨q2, h⟩ := h
  refine x_iald B K.2.1 hH (hS.ja ja36 (k := 12) (kd := 100) (n := 16) (by decide)) (by decide) q2 dX16_takeGaps_173 ?_
  refine lv_icmp_ge (tgt := 228) B.1 B.2.1 dX16_takeGaps_174 (by decide) (fun h9 => ?_) (fun h9 => ?_)
  · rw [if_pos ((i32_le (hGσ _ _) g18).mp h9)] at h
    exact a_X16_takeGaps_228 K hQ hX hK59 _ _ _ _ _ _ _ _ _ _ _ g1 g2 g11 g16 g17 h hGσ hS _ _ _ hH (lv_sub (l' := [(0, .ref rm), (1, .int (i32 v1)), (2, .int (i32 v2)), (3, .long v3), (6, .long v6), (8, .long v8), (11, .int (i32 v11)), (12, .long v12), (14, .long v14), (16, .int (i32 v16)), (17, .int (i32 v17))]) hl [0, 1, 2, 3, 4, 5, 6, 7, 8, 9, 10] rfl) hc
  · rw [if_neg (fun q => h9 ((i32_le (hGσ _ _) g18).mpr q))] at h
    exact a_X16_takeGaps_177 K hQ hX hK59 hK163 _ _ _ _ _ _ _ _ _ _ _ _ g1 g2 g11 g16 g17 g18 h hGσ hS _ _ _ hH (lv_sub (l' := [(0, .ref rm), (1, .int (i32 v1)), (2, .int (i32 v2)), (3, .long v3), (6, .long v6), (8, .long v8), (11, .int (i32 v11)), (12, .long v12), (14, .long v14), (16, .int (i32 v16)), (17, .int (i32 v17)), (18, .int (i32 v18))]) hl [0, 1, 2, 3, 4, 5, 6, 7, 8, 9, 10, 11] rfl) hc
theorem al_X16_takeGaps_163 {Q : Sg → Unit → Prop} {X : Sg → String → Prop} (K : MC R p s m args c cX16_takeGaps 19 RX16 D cA tys A n0 s0 3 83 []) (hQ : HQV p l e R s m args below meth c cX16_takeGaps D cA A n0 s0 QM dm ra jx rm Q) (hX : HX p l e R s m args below meth c 19 D cA A n0 s0 QM dm ra jx rm X) {K59 : Sg → Int → Int → Int64 → Int64 → Int64 → Int → Int64 → Int64 → Int → Prop} (hK59 : ∀ (σ : Sg) (v1 : Int) (v2 : Int) (v3 : Int64) (v6 : Int64) (v8 : Int64) (v11 : Int) (v12 : Int64) (v14 : Int64) (v16 : Int) (g1 : rng v1) (g2 : rng v2) (g11 : rng v11) (g16 : rng v16), K59 σ v1 v2 v3 v6 v8 v11 v12 v14 v16 → RG σ → Shp dm ra jx rm σ → JJ p l e R s m args below meth c 19 D cA A n0 s0 QM σ 59 [(0, .ref rm), (1, .int (i32 v1)), (2, .int (i32 v2)), (3, .long v3), (6, .long v6), (8, .long v8), (11, .int (i32 v11)), (12, .long v12), (14, .long v14), (16, .int (i32 v16))] []) : ∀ (n : Nat), ∀ (σ : Sg) (v1 : Int) (v2 : Int) (v3 : Int64) (v6 : Int64) (v8 : Int64) (v11 : Int) (v12 : Int64) (v14 : Int64) (v16 : Int) (v17 : Int) (v18 : Int) (g1 : rng v1) (g2 : rng v2) (g11 : rng v11) (g16 : rng v16) (g17 : rng v17) (g18 : rng v18), wl_X16_takeGaps_163 ra jx rm K59 Q X n σ v1 v2 v3 v6 v8 v11 v12 v14 v16 v17 v18 → RG σ → Shp dm ra jx rm σ → JJ p l e R s m args below meth c 19 D cA A n0 s0 QM σ 163 [(0, .ref rm), (1, .int (i32 v1)), (2, .int (i32 v2)), (3, .long v3), (6, .long v6), (8, .long v8), (11, .int (i32 v11)), (12, .long v12), (14, .long v14), (16, .int (i32 v16)), (17, .int (i32 v17)), (18, .int (i32 v18))] [] := by
  intro n
  induction n with
  | zero => intro σ v1 v2 v3 v6 v8 v11 v12 v14 v16 v17 v18 g1 g2 g11 g16 g17 g18 h; exact h.elim
  | succ n ih => exact fun σ v1 v2 v3 v6 v8 v11 v12 v14 v16 v17 v18 g1 g2 g11 g16 g17 g18 h => a_X16_takeGaps_163 K hQ hX hK59 ih σ v1 v2 v3 v6 v8 v11 v12 v14 v16 v17 v18 g1 g2 g11 g16 g17 g18 h
set_option maxRecDepth 20000 in
theorem a_X16_takeGaps_117 {Q : Sg → Unit → Prop} {X : Sg → String → Prop} (K : MC R p s m args c cX16_takeGaps 19 RX16 D cA tys A n0 s0 3 83 []) (hQ : HQV p l e R s m args below meth c cX16_takeGaps D cA A n0 s0 QM dm ra jx rm Q) (hX : HX p l e R s m args below meth c 19 D cA A n0 s0 QM dm ra jx rm X) {K59 : Sg → Int → Int → Int64 → Int64 → Int64 → Int → Int64 → Int64 → Int → Prop} (hK59 : ∀ (σ : Sg) (v1 : Int) (v2 : Int) (v3 : Int64) (v6 : Int64) (v8 : Int64) (v11 : Int) (v12 : Int64) (v14 : Int64) (v16 : Int) (g1 : rng v1) (g2 : rng v2) (g11 : rng v11) (g16 : rng v16), K59 σ v1 v2 v3 v6 v8 v11 v12 v14 v16 → RG σ → Shp dm ra jx rm σ → JJ p l e R s m args below meth c 19 D cA A n0 s0 QM σ 59 [(0, .ref rm), (1, .int (i32 v1)), (2, .int (i32 v2)), (3, .long v3), (6, .long v6), (8, .long v8), (11, .int (i32 v11)), (12, .long v12), (14, .long v14), (16, .int (i32 v16))] []) : ∀ (σ : Sg) (v1 : Int) (v2 : Int) (v3 : Int64) (v6 : Int64) (v8 : Int64) (v11 : Int) (v12 : Int64) (v14 : Int64) (v16 : Int) (v17 : Int) (g1 : rng v1) (g2 : rng v2) (g11 : rng v11) (g16 : rng v16) (g17 : rng v17), w_X16_takeGaps_117 ra jx rm K59 Q X σ v1 v2 v3 v6 v8 v11 v12 v14 v16 v17 → RG σ → Shp dm ra jx rm σ → JJ p l e R s m args below meth c 19 D cA A n0 s0 QM σ 117 [(0, .ref rm), (1, .int (i32 v1)), (2, .int (i32 v2)), (3, .long v3), (6, .long v6), (8, .long v8), (11, .int (i32 v11)), (12, .long v12), (14, .long v14), (16, .int (i32 v16)), (17, .int (i32 v17))] [] := by
  intro σ v1 v2 v3 v6 v8 v11 v12 v14 v16 v17 g1 g2 g11 g16 g17 h hGσ hS H locs ls hH hl hc
  have B := K.1
  unfold w_X16_takeGaps_117 at h
  refine lv_lload B.1 B.2.1 dX16_takeGaps_117 (lv_at hl 7 rfl) ?_
  refine lv_aload_n B.1 B.2.1 dX16_takeGaps_119 rfl (lv_at hl 0 rfl) ?_
  refine r_arr B hH hS 71 (kd := 101) (n := 4000) (by decide) (by decide) wf_X16_522 rfl rfl dX16_takeGaps_120 ?_
  refine lv_iload B.1 B.2.1 dX16_takeGaps_123 (lv_at hl 6 rfl) ?_
  obtain ⟨q1, h⟩ := h
  refine x_lald B K.2.1 hH (hS.ar (k := 71) (kd := 101) (n := 4000) (by decide)) (by decide) q1 dX16_takeGaps_125 ?_
  refine c_S B hH hl hc K.2.2.1 (As := [.long v12, .long (gJ σ (ra 71) v11.toNat)]) (ok_J9_min_f86c9 (dm := dm) (ra := ra) (jx := jx) (rm := rm) K.2.1 σ v12 (gJ σ (ra 71) v11.toNat) hGσ hS mj_J9_min_f86c9) wc_X16_581 2 hd_J9_min_f86c9 ⟨Nat.le_trans (Nat.le_of_ble_eq_true rfl) K.2.2.2.1, Nat.le_trans (Nat.le_of_ble_eq_true rfl) K.2.2.2.2.1⟩ rfl (rest := []) rfl (Nat.le_of_ble_eq_true rfl) dX16_takeGaps_126 (fun σm2 w hq => ?_) (fun σ9 E9 hx9 => False.elim hx9.1)
  obtain ⟨rm9, rfl, ⟨e9, rfl⟩, hG9, hS9⟩ := hq
  subst e9
  intro H locs ls hH hl hc
  refine W.eq (g2 := F0 m 129 ls [.long (minJ v12 (gJ σ (ra 71) v11.toNat))]) (rfl) ?_
  refine lv_lstore (lv' := [(12, .long (minJ v12 (gJ σ (ra 71) v11.toNat))), (0, .ref rm), (1, .int (i32 v1)), (2, .int (i32 v2)), (3, .long v3), (6, .long v6), (8, .long v8), (11, .int (i32 v11)), (14, .long v14), (16, .int (i32 v16)), (17, .int (i32 v17))]) B.1 B.2.1 dX16_takeGaps_129 hl (by decide) rfl (fun ls hl => ?_)
  refine lv_lload B.1 B.2.1 dX16_takeGaps_131 (lv_at hl 8 rfl) ?_
  refine lv_aload_n B.1 B.2.1 dX16_takeGaps_133 rfl (lv_at hl 1 rfl) ?_
  refine r_arr B hH hS 72 (kd := 101) (n := 4000) (by decide) (by decide) wf_X16_525 rfl rfl dX16_takeGaps_134 ?_
  refine lv_iload B.1 B.2.1 dX16_takeGaps_137 (lv_at hl 7 rfl) ?_
  obtain ⟨q3, h⟩ := h
  refine x_lald B K.2.1 hH (hS.ar (k := 72) (kd := 101) (n := 4000) (by decide)) (by decide) q3 dX16_takeGaps_139 ?_
  refine c_S B hH hl hc K.2.2.1 (As := [.long v14, .long (gJ σ (ra 72) v11.toNat)]) (ok_J9_max_f86c9 (dm := dm) (ra := ra) (jx := jx) (rm := rm) K.2.1 σ v14 (gJ σ (ra 72) v11.toNat) hGσ hS mj_J9_max_f86c9) wc_X16_586 2 hd_J9_max_f86c9 ⟨Nat.le_trans (Nat.le_of_ble_eq_true rfl) K.2.2.2.1, Nat.le_trans (Nat.le_of_ble_eq_true rfl) K.2.2.2.2.1⟩ rfl (rest := []) rfl (Nat.le_of_ble_eq_true rfl) dX16_takeGaps_140 (fun σm4 w hq => ?_) (fun σ9 E9 hx9 => False.elim hx9.1)
  obtain ⟨rm9, rfl, ⟨e9, rfl⟩, hG9, hS9⟩ := hq
  subst e9
  intro H locs ls hH hl hc
  refine W.eq (g2 := F0 m 143 ls [.long (maxJ v14 (gJ σ (ra 72) v11.toNat))]) (rfl) ?_
  refine lv_lstore (lv' := [(14, .long (maxJ v14 (gJ σ (ra 72) v11.toNat))), (12, .long (minJ v12 (gJ σ (ra 71) v11.toNat))), (0, .ref rm), (1, .int (i32 v1)), (2, .int (i32 v2)), (3, .long v3), (6, .long v6), (8, .long v8), (11, .int (i32 v11)), (16, .int (i32 v16)), (17, .int (i32 v17))]) B.1 B.2.1 dX16_takeGaps_143 hl (by decide) rfl (fun ls hl => ?_)
  refine lv_aload_n B.1 B.2.1 dX16_takeGaps_145 rfl (lv_at hl 2 rfl) ?_
  refine lv_iload B.1 B.2.1 dX16_takeGaps_146 (lv_at hl 9 rfl) ?_
  refine lv_aload_n B.1 B.2.1 dX16_takeGaps_148 rfl (lv_at hl 2 rfl) ?_
  refine r_arr B hH hS 74 (kd := 100) (n := 4000) (by decide) (by decide) wf_X16_531 rfl rfl dX16_takeGaps_149 ?_
  refine lv_iload B.1 B.2.1 dX16_takeGaps_152 (lv_at hl 8 rfl) ?_
  obtain ⟨q5, h⟩ := h
  refine x_iald B K.2.1 hH (hS.ar (k := 74) (kd := 100) (n := 4000) (by decide)) (by decide) q5 dX16_takeGaps_154 ?_
  refine c_V B hH hl hc K.2.2.1 (C := RX16) (T := TX16) (N := 123) (ci := 16) (As := [.int (i32 v16), .int (i32 (gI σ (ra 74) v11.toNat))]) (ok_X16_joined K.2.1 σ v16 (gI σ (ra 74) v11.toNat) g16 (hGσ _ _) hGσ hS h) wc_X16_603 2 hd_X16_joined ⟨Nat.le_trans (Nat.le_of_ble_eq_true rfl) K.2.2.2.1, Nat.le_trans (Nat.le_of_ble_eq_true rfl) K.2.2.2.2.1⟩ hS.1.1 hS.1.2 (by decide) rfl rfl (rest := []) rfl (Nat.le_of_ble_eq_true rfl) dX16_takeGaps_155 (fun σ37 w hq => ?_) (fun σ9 E9 hx9 => hX σ9 E9 _ _ _ (tb_out K.2.2.2.2.2 rfl) hx9.1 hx9.2.1 hx9.2.2)
  obtain ⟨r38, rfl, gr38, h, hGσ37, hS⟩ := hq
  intro H locs ls hH hl hc
  refine W.eq (g2 := F0 m 158 ls [.int (i32 r38)]) (rfl) ?_
  try dsimp only at h
  refine lv_istore (lv' := [(16, .int (i32 r38)), (14, .long (maxJ v14 (gJ σ (ra 72) v11.toNat))), (12, .long (minJ v12 (gJ σ (ra 71) v11.toNat))), (0, .ref rm), (1, .int (i32 v1)), (2, .int (i32 v2)), (3, .long v3), (6, .long v6), (8, .long v8), (11, .int (i32 v11)), (17, .int (i32 v17))]) B.1 B.2.1 dX16_takeGaps_158 hl (by decide) rfl (fun ls hl => ?_)
  refine lv_iconst (v := i32 0) B.1 B.2.1 dX16_takeGaps_160 (by decide) ?_
  refine lv_istore (lv' := [(18, .int (i32 0)), (16, .int (i32 r38)), (14, .long (maxJ v14 (gJ σ (ra 72) v11.toNat))), (12, .long (minJ v12 (gJ σ (ra 71) v11.toNat))), (0, .ref rm), (1, .int (i32 v1)), (2, .int (i32 v2)), (3, .long v3), (6, .long v6), (8, .long v8), (11, .int (i32 v11)), (17, .int (i32 v17))]) B.1 B.2.1 dX16_takeGaps_161 hl (by decide) rfl (fun ls hl => ?_)
  obtain ⟨n9, h⟩ := h
  exact al_X16_takeGaps_163 K hQ hX hK59 n9 _ _ _ _ _ _ _ _ _ _ _ _ g1 g2 g11 gr38 g17 (by unfold rng; omega) h hGσ37 hS _ _ _ hH (lv_sub (l' := [(0, .ref rm), (1, .int (i32 v1)), (2, .int (i32 v2)), (3, .long v3), (6, .long v6), (8, .long v8), (11, .int (i32 v11)), (12, .long (minJ v12 (gJ σ (ra 71) v11.toNat))), (14, .long (maxJ v14 (gJ σ (ra 72) v11.toNat))), (16, .int (i32 r38)), (17, .int (i32 v17)), (18, .int (i32 0))]) hl [4, 5, 6, 7, 8, 9, 10, 3, 2, 1, 11, 0] rfl) hc
set_option maxRecDepth 20000 in
theorem a_X16_takeGaps_102 {Q : Sg → Unit → Prop} {X : Sg → String → Prop} (K : MC R p s m args c cX16_takeGaps 19 RX16 D cA tys A n0 s0 3 83 []) (hQ : HQV p l e R s m args below meth c cX16_takeGaps D cA A n0 s0 QM dm ra jx rm Q) (hX : HX p l e R s m args below meth c 19 D cA A n0 s0 QM dm ra jx rm X) {K59 : Sg → Int → Int → Int64 → Int64 → Int64 → Int → Int64 → Int64 → Int → Prop} (hK59 : ∀ (σ : Sg) (v1 : Int) (v2 : Int) (v3 : Int64) (v6 : Int64) (v8 : Int64) (v11 : Int) (v12 : Int64) (v14 : Int64) (v16 : Int) (g1 : rng v1) (g2 : rng v2) (g11 : rng v11) (g16 : rng v16), K59 σ v1 v2 v3 v6 v8 v11 v12 v14 v16 → RG σ → Shp dm ra jx rm σ → JJ p l e R s m args below meth c 19 D cA A n0 s0 QM σ 59 [(0, .ref rm), (1, .int (i32 v1)), (2, .int (i32 v2)), (3, .long v3), (6, .long v6), (8, .long v8), (11, .int (i32 v11)), (12, .long v12), (14, .long v14), (16, .int (i32 v16))] []) : ∀ (σ : Sg) (v1 : Int) (v2 : Int) (v3 : Int64) (v6 : Int64) (v8 : Int64) (v11 : Int) (v12 : Int64) (v14 : Int64) (v16 : Int) (v17 : Int) (g1 : rng v1) (g2 : rng v2) (g11 : rng v11) (g16 : rng v16) (g17 : rng v17), w_X16_takeGaps_102 ra jx rm K59 Q X σ v1 v2 v3 v6 v8 v11 v12 v14 v16 v17 → RG σ → Shp dm ra jx rm σ → JJ p l e R s m args below meth c 19 D cA A n0 s0 QM σ 102 [(0, .ref rm), (1, .int (i32 v1)), (2, .int (i32 v2)), (3, .long v3), (6, .long v6), (8, .long v8), (11, .int (i32 v11)), (12, .long v12), (14, .long v14), (16, .int (i32 v16)), (17, .int (i32 v17))] [] := by
  intro σ v1 v2 v3 v6 v8 v11 v12 v14 v16 v17 g1 g2 g11 g16 g17 h hGσ hS H locs ls hH hl hc
  have B := K.1
  unfold w_X16_takeGaps_102 at h
  refine lv_lload_n B.1 B.2.1 dX16_takeGaps_102 rfl (lv_at hl 3 rfl) ?_
  refine lv_aload_n B.1 B.2.1 dX16_takeGaps_103 rfl (lv_at hl 0 rfl) ?_
  refine r_arr B hH hS 72 (kd := 101) (n := 4000) (by decide) (by decide) wf_X16_525 rfl rfl dX16_takeGaps_104 ?_
  refine lv_iload B.1 B.2.1 dX16_takeGaps_107 (lv_at hl 6 rfl) ?_
  obtain ⟨q1, h⟩ := h
  refine x_lald B K.2.1 hH (hS.ar (k := 72) (kd := 101) (n := 4000) (by decide)) (by decide) q1 dX16_takeGaps_109 ?_
  refine lv_lsub B.1 B.2.1 dX16_takeGaps_110 ?_
  refine lv_lload B.1 B.2.1 dX16_takeGaps_111 (lv_at hl 5 rfl) ?_
  refine W.lcmp B.1 B.2.1 dX16_takeGaps_113 ?_
  refine lv_if_ge (tgt := 234) B.1 B.2.1 dX16_takeGaps_114 (by decide) (fun h9 => ?_) (fun h9 => ?_)
  · rw [if_pos ((lg_cmp_ge _ _).mp h9)] at h
    exact a_X16_takeGaps_234 K hQ hX hK59 _ _ _ _ _ _ _ _ _ _ g1 g2 g16 g17 h hGσ hS _ _ _ hH (lv_sub (l' := [(0, .ref rm), (1, .int (i32 v1)), (2, .int (i32 v2)), (3, .long v3), (6, .long v6), (8, .long v8), (12, .long v12), (14, .long v14), (16, .int (i32 v16)), (17, .int (i32 v17))]) hl [0, 1, 2, 3, 4, 5, 7, 8, 9, 10] rfl) hc
  · rw [if_neg (fun q => h9 ((lg_cmp_ge _ _).mpr q))] at h
    exact a_X16_takeGaps_117 K hQ hX hK59 _ _ _ _ _ _ _ _ _ _ _ g1 g2 g11 g16 g17 h hGσ hS _ _ _ hH (lv_sub (l' := [(0, .ref rm), (1, .int (i32 v1)), (2, .int (i32 v2)), (3, .long v3), (6, .long v6), (8, .long v8), (11, .int (i32 v11)), (12, .long v12), (14, .long v14), (16, .int (i32 v16)), (17, .int (i32 v17))]) hl [0, 1, 2, 3, 4, 5, 6, 7, 8, 9, 10] rfl) hc
set_option maxRecDepth 20000 in
theorem a_X16_takeGaps_87 {Q : Sg → Unit → Prop} {X : Sg → String → Prop} (K : MC R p s m args c cX16_takeGaps 19 RX16 D cA tys A n0 s0 3 83 []) (hQ : HQV p l e R s m args below meth c cX16_takeGaps D cA A n0 s0 QM dm ra jx rm Q) (hX : HX p l e R s m args below meth c 19 D cA A n0 s0 QM dm ra jx rm X) {K59 : Sg → Int → Int → Int64 → Int64 → Int64 → Int → Int64 → Int64 → Int → Prop} (hK59 : ∀ (σ : Sg) (v1 : Int) (v2 : Int) (v3 : Int64) (v6 : Int64) (v8 : Int64) (v11 : Int) (v12 : Int64) (v14 : Int64) (v16 : Int) (g1 : rng v1) (g2 : rng v2) (g11 : rng v11) (g16 : rng v16), K59 σ v1 v2 v3 v6 v8 v11 v12 v14 v16 → RG σ → Shp dm ra jx rm σ → JJ p l e R s m args below meth c 19 D cA A n0 s0 QM σ 59 [(0, .ref rm), (1, .int (i32 v1)), (2, .int (i32 v2)), (3, .long v3), (6, .long v6), (8, .long v8), (11, .int (i32 v11)), (12, .long v12), (14, .long v14), (16, .int (i32 v16))] []) : ∀ (σ : Sg) (v1 : Int) (v2 : Int) (v3 : Int64) (v6 : Int64) (v8 : Int64) (v11 : Int) (v12 : Int64) (v14 : Int64) (v16 : Int) (v17 : Int) (g1 : rng v1) (g2 : rng v2) (g11 : rng v11) (g16 : rng v16) (g17 : rng v17), w_X16_takeGaps_87 ra jx rm K59 Q X σ v1 v2 v3 v6 v8 v11 v12 v14 v16 v17 → RG σ → Shp dm ra jx rm σ → JJ p l e R s m args below meth c 19 D cA A n0 s0 QM σ 87 [(0, .ref rm), (1, .int (i32 v1)), (2, .int (i32 v2)), (3, .long v3), (6, .long v6), (8, .long v8), (11, .int (i32 v11)), (12, .long v12), (14, .long v14), (16, .int (i32 v16)), (17, .int (i32 v17))] [] := by
  intro σ v1 v2 v3 v6 v8 v11 v12 v14 v16 v17 g1 g2 g11 g16 g17 h hGσ hS H locs ls hH hl hc
  have B := K.1
  unfold w_X16_takeGaps_87 at h
  refine lv_aload_n B.1 B.2.1 dX16_takeGaps_87 rfl (lv_at hl 0 rfl) ?_
  refine r_arr B hH hS 71 (kd := 101) (n := 4000) (by decide) (by decide) wf_X16_522 rfl rfl dX16_takeGaps_88 ?_
  refine lv_iload B.1 B.2.1 dX16_takeGaps_91 (lv_at hl 6 rfl) ?_
  obtain ⟨q1, h⟩ := h
  refine x_lald B K.2.1 hH (hS.ar (k := 71) (kd := 101) (n := 4000) (by decide)) (by decide) q1 dX16_takeGaps_93 ?_
  refine lv_lload_n B.1 B.2.1 dX16_takeGaps_94 rfl (lv_at hl 3 rfl) ?_
  refine lv_lsub B.1 B.2.1 dX16_takeGaps_95 ?_
  refine lv_lload B.1 B.2.1 dX16_takeGaps_96 (lv_at hl 5 rfl) ?_
  refine W.lcmp B.1 B.2.1 dX16_takeGaps_98 ?_
  refine lv_if_ge (tgt := 234) B.1 B.2.1 dX16_takeGaps_99 (by decide) (fun h9 => ?_) (fun h9 => ?_)
  · rw [if_pos ((lg_cmp_ge _ _).mp h9)] at h
    exact a_X16_takeGaps_234 K hQ hX hK59 _ _ _ _ _ _ _ _ _ _ g1 g2 g16 g17 h hGσ hS _ _ _ hH (lv_sub (l' := [(0, .ref rm), (1, .int (i32 v1)), (2, .int (i32 v2)), (3, .long v3), (6, .long v6), (8, .long v8), (12, .long v12), (14, .long v14), (16, .int (i32 v16)), (17, .int (i32 v17))]) hl [0, 1, 2, 3, 4, 5, 7, 8, 9, 10] rfl) hc
  · rw [if_neg (fun q => h9 ((lg_cmp_ge _ _).mpr q))] at h
    exact a_X16_takeGaps_102 K hQ hX hK59 _ _ _ _ _ _ _ _ _ _ _ g1 g2 g11 g16 g17 h hGσ hS _ _ _ hH (lv_sub (l' := [(0, .ref rm), (1, .int (i32 v1)), (2, .int (i32 v2)), (3, .long v3), (6, .long v6), (8, .long v8), (11, .int (i32 v11)), (12, .long v12), (14, .long v14), (16, .int (i32 v16)), (17, .int (i32 v17))]) hl [0, 1, 2, 3, 4, 5, 6, 7, 8, 9, 10] rfl) hc
set_option maxRecDepth 20000 in
theorem a_X16_takeGaps_65 {Q : Sg → Unit → Prop} {X : Sg → String → Prop} (K : MC R p s m args c cX16_takeGaps 19 RX16 D cA tys A n0 s0 3 83 []) (hQ : HQV p l e R s m args below meth c cX16_takeGaps D cA A n0 s0 QM dm ra jx rm Q) (hX : HX p l e R s m args below meth c 19 D cA A n0 s0 QM dm ra jx rm X) {K59 : Sg → Int → Int → Int64 → Int64 → Int64 → Int → Int64 → Int64 → Int → Prop} (hK59 : ∀ (σ : Sg) (v1 : Int) (v2 : Int) (v3 : Int64) (v6 : Int64) (v8 : Int64) (v11 : Int) (v12 : Int64) (v14 : Int64) (v16 : Int) (g1 : rng v1) (g2 : rng v2) (g11 : rng v11) (g16 : rng v16), K59 σ v1 v2 v3 v6 v8 v11 v12 v14 v16 → RG σ → Shp dm ra jx rm σ → JJ p l e R s m args below meth c 19 D cA A n0 s0 QM σ 59 [(0, .ref rm), (1, .int (i32 v1)), (2, .int (i32 v2)), (3, .long v3), (6, .long v6), (8, .long v8), (11, .int (i32 v11)), (12, .long v12), (14, .long v14), (16, .int (i32 v16))] []) : ∀ (σ : Sg) (v1 : Int) (v2 : Int) (v3 : Int64) (v6 : Int64) (v8 : Int64) (v11 : Int) (v12 : Int64) (v14 : Int64) (v16 : Int) (g1 : rng v1) (g2 : rng v2) (g11 : rng v11) (g16 : rng v16), w_X16_takeGaps_65 ra jx rm K59 Q X σ v1 v2 v3 v6 v8 v11 v12 v14 v16 → RG σ → Shp dm ra jx rm σ → JJ p l e R s m args below meth c 19 D cA A n0 s0 QM σ 65 [(0, .ref rm), (1, .int (i32 v1)), (2, .int (i32 v2)), (3, .long v3), (6, .long v6), (8, .long v8), (11, .int (i32 v11)), (12, .long v12), (14, .long v14), (16, .int (i32 v16))] [] := by
  intro σ v1 v2 v3 v6 v8 v11 v12 v14 v16 g1 g2 g11 g16 h hGσ hS H locs ls hH hl hc
  have B := K.1
  unfold w_X16_takeGaps_65 at h
  refine lv_aload_n B.1 B.2.1 dX16_takeGaps_65 rfl (lv_at hl 0 rfl) ?_
  refine r_arr B hH hS 75 (kd := 100) (n := 4000) (by decide) (by decide) wf_X16_495 rfl rfl dX16_takeGaps_66 ?_
  refine lv_iload B.1 B.2.1 dX16_takeGaps_69 (lv_at hl 6 rfl) ?_
  obtain ⟨q1, h⟩ := h
  refine x_iald B K.2.1 hH (hS.ar (k := 75) (kd := 100) (n := 4000) (by decide)) (by decide) q1 dX16_takeGaps_71 ?_
  refine lv_istore (lv' := [(17, .int (i32 (gI σ (ra 75) v11.toNat))), (0, .ref rm), (1, .int (i32 v1)), (2, .int (i32 v2)), (3, .long v3), (6, .long v6), (8, .long v8), (11, .int (i32 v11)), (12, .long v12), (14, .long v14), (16, .int (i32 v16))]) B.1 B.2.1 dX16_takeGaps_72 hl (by decide) rfl (fun ls hl => ?_)
  refine lv_aload_n B.1 B.2.1 dX16_takeGaps_74 rfl (lv_at hl 1 rfl) ?_
  refine r_arr B hH hS 70 (kd := 101) (n := 4000) (by decide) (by decide) wf_X16_519 rfl rfl dX16_takeGaps_75 ?_
  refine lv_iload B.1 B.2.1 dX16_takeGaps_78 (lv_at hl 7 rfl) ?_
  obtain ⟨q2, h⟩ := h
  refine x_lald B K.2.1 hH (hS.ar (k := 70) (kd := 101) (n := 4000) (by decide)) (by decide) q2 dX16_takeGaps_80 ?_
  refine lv_lload B.1 B.2.1 dX16_takeGaps_81 (lv_at hl 5 rfl) ?_
  refine W.lcmp B.1 B.2.1 dX16_takeGaps_83 ?_
  refine lv_if_ne (tgt := 234) B.1 B.2.1 dX16_takeGaps_84 (by decide) (fun h9 => ?_) (fun h9 => ?_)
  · rw [if_pos (fun q => h9 ((lg_cmp_eq _ _).mpr q))] at h
    exact a_X16_takeGaps_234 K hQ hX hK59 _ _ _ _ _ _ _ _ _ _ g1 g2 g16 (hGσ _ _) h hGσ hS _ _ _ hH (lv_sub (l' := [(0, .ref rm), (1, .int (i32 v1)), (2, .int (i32 v2)), (3, .long v3), (6, .long v6), (8, .long v8), (12, .long v12), (14, .long v14), (16, .int (i32 v16)), (17, .int (i32 (gI σ (ra 75) v11.toNat)))]) hl [1, 2, 3, 4, 5, 6, 8, 9, 10, 0] rfl) hc
  · rw [if_neg (fun q => q ((lg_cmp_eq _ _).mp h9))] at h
    exact a_X16_takeGaps_87 K hQ hX hK59 _ _ _ _ _ _ _ _ _ _ _ g1 g2 g11 g16 (hGσ _ _) h hGσ hS _ _ _ hH (lv_sub (l' := [(0, .ref rm), (1, .int (i32 v1)), (2, .int (i32 v2)), (3, .long v3), (6, .long v6), (8, .long v8), (11, .int (i32 v11)), (12, .long v12), (14, .long v14), (16, .int (i32 v16)), (17, .int (i32 (gI σ (ra 75) v11.toNat)))]) hl [1, 2, 3, 4, 5, 6, 7, 8, 9, 10, 0] rfl) hc
set_option maxRecDepth 20000 in
theorem a_X16_takeGaps_59 {Q : Sg → Unit → Prop} {X : Sg → String → Prop} (K : MC R p s m args c cX16_takeGaps 19 RX16 D cA tys A n0 s0 3 83 []) (hQ : HQV p l e R s m args below meth c cX16_takeGaps D cA A n0 s0 QM dm ra jx rm Q) (hX : HX p l e R s m args below meth c 19 D cA A n0 s0 QM dm ra jx rm X) {K59 : Sg → Int → Int → Int64 → Int64 → Int64 → Int → Int64 → Int64 → Int → Prop} (hK59 : ∀ (σ : Sg) (v1 : Int) (v2 : Int) (v3 : Int64) (v6 : Int64) (v8 : Int64) (v11 : Int) (v12 : Int64) (v14 : Int64) (v16 : Int) (g1 : rng v1) (g2 : rng v2) (g11 : rng v11) (g16 : rng v16), K59 σ v1 v2 v3 v6 v8 v11 v12 v14 v16 → RG σ → Shp dm ra jx rm σ → JJ p l e R s m args below meth c 19 D cA A n0 s0 QM σ 59 [(0, .ref rm), (1, .int (i32 v1)), (2, .int (i32 v2)), (3, .long v3), (6, .long v6), (8, .long v8), (11, .int (i32 v11)), (12, .long v12), (14, .long v14), (16, .int (i32 v16))] []) : ∀ (σ : Sg) (v1 : Int) (v2 : Int) (v3 : Int64) (v6 : Int64) (v8 : Int64) (v11 : Int) (v12 : Int64) (v14 : Int64) (v16 : Int) (g1 : rng v1) (g2 : rng v2) (g11 : rng v11) (g16 : rng v16), w_X16_takeGaps_59 ra jx rm K59 Q X σ v1 v2 v3 v6 v8 v11 v12 v14 v16 → RG σ → Shp dm ra jx rm σ → JJ p l e R s m args below meth c 19 D cA A n0 s0 QM σ 59 [(0, .ref rm), (1, .int (i32 v1)), (2, .int (i32 v2)), (3, .long v3), (6, .long v6), (8, .long v8), (11, .int (i32 v11)), (12, .long v12), (14, .long v14), (16, .int (i32 v16))] [] := by
  intro σ v1 v2 v3 v6 v8 v11 v12 v14 v16 g1 g2 g11 g16 h hGσ hS H locs ls hH hl hc
  have B := K.1
  unfold w_X16_takeGaps_59 at h
  refine lv_iload B.1 B.2.1 dX16_takeGaps_59 (lv_at hl 6 rfl) ?_
  refine lv_iconst (v := i32 (-1)) B.1 B.2.1 dX16_takeGaps_61 (by decide) ?_
  refine lv_icmp_eq (tgt := 241) B.1 B.2.1 dX16_takeGaps_62 (by decide) (fun h9 => ?_) (fun h9 => ?_)
  · rw [if_pos ((i32_eq g11 (by unfold rng; omega)).mp h9)] at h
    exact a_X16_takeGaps_241 K hQ hX _ _ _ _ _ _ g1 g16 h hGσ hS _ _ _ hH (lv_sub (l' := [(0, .ref rm), (1, .int (i32 v1)), (6, .long v6), (12, .long v12), (14, .long v14), (16, .int (i32 v16))]) hl [0, 1, 4, 7, 8, 9] rfl) hc
  · rw [if_neg (fun q => h9 ((i32_eq g11 (by unfold rng; omega)).mpr q))] at h
    exact a_X16_takeGaps_65 K hQ hX hK59 _ _ _ _ _ _ _ _ _ _ g1 g2 g11 g16 h hGσ hS _ _ _ hH (lv_sub (l' := [(0, .ref rm), (1, .int (i32 v1)), (2, .int (i32 v2)), (3, .long v3), (6, .long v6), (8, .long v8), (11, .int (i32 v11)), (12, .long v12), (14, .long v14), (16, .int (i32 v16))]) hl [0, 1, 2, 3, 4, 5, 6, 7, 8, 9] rfl) hc
theorem al_X16_takeGaps_59 {Q : Sg → Unit → Prop} {X : Sg → String → Prop} (K : MC R p s m args c cX16_takeGaps 19 RX16 D cA tys A n0 s0 3 83 []) (hQ : HQV p l e R s m args below meth c cX16_takeGaps D cA A n0 s0 QM dm ra jx rm Q) (hX : HX p l e R s m args below meth c 19 D cA A n0 s0 QM dm ra jx rm X) : ∀ (n : Nat), ∀ (σ : Sg) (v1 : Int) (v2 : Int) (v3 : Int64) (v6 : Int64) (v8 : Int64) (v11 : Int) (v12 : Int64) (v14 : Int64) (v16 : Int) (g1 : rng v1) (g2 : rng v2) (g11 : rng v11) (g16 : rng v16), wl_X16_takeGaps_59 ra jx rm Q X n σ v1 v2 v3 v6 v8 v11 v12 v14 v16 → RG σ → Shp dm ra jx rm σ → JJ p l e R s m args below meth c 19 D cA A n0 s0 QM σ 59 [(0, .ref rm), (1, .int (i32 v1)), (2, .int (i32 v2)), (3, .long v3), (6, .long v6), (8, .long v8), (11, .int (i32 v11)), (12, .long v12), (14, .long v14), (16, .int (i32 v16))] [] := by
  intro n
  induction n with
  | zero => intro σ v1 v2 v3 v6 v8 v11 v12 v14 v16 g1 g2 g11 g16 h; exact h.elim
  | succ n ih => exact fun σ v1 v2 v3 v6 v8 v11 v12 v14 v16 g1 g2 g11 g16 h => a_X16_takeGaps_59 K hQ hX ih σ v1 v2 v3 v6 v8 v11 v12 v14 v16 g1 g2 g11 g16 h
set_option maxRecDepth 20000 in
theorem a_X16_takeGaps_11 {Q : Sg → Unit → Prop} {X : Sg → String → Prop} (K : MC R p s m args c cX16_takeGaps 19 RX16 D cA tys A n0 s0 3 83 []) (hQ : HQV p l e R s m args below meth c cX16_takeGaps D cA A n0 s0 QM dm ra jx rm Q) (hX : HX p l e R s m args below meth c 19 D cA A n0 s0 QM dm ra jx rm X) : ∀ (σ : Sg) (v1 : Int) (v2 : Int) (v3 : Int64) (v5 : Int) (g1 : rng v1) (g2 : rng v2) (g5 : rng v5), w_X16_takeGaps_11 ra jx rm Q X σ v1 v2 v3 v5 → RG σ → Shp dm ra jx rm σ → JJ p l e R s m args below meth c 19 D cA A n0 s0 QM σ 11 [(0, .ref rm), (1, .int (i32 v1)), (2, .int (i32 v2)), (3, .long v3), (5, .int (i32 v5))] [] := by
  intro σ v1 v2 v3 v5 g1 g2 g5 h hGσ hS H locs ls hH hl hc
  have B := K.1
  unfold w_X16_takeGaps_11 at h
  refine lv_aload_n B.1 B.2.1 dX16_takeGaps_11 rfl (lv_at hl 0 rfl) ?_
  refine r_arr B hH hS 81 (kd := 101) (n := 8) (by decide) (by decide) wf_X16_542 rfl rfl dX16_takeGaps_12 ?_
  refine lv_aload_n B.1 B.2.1 dX16_takeGaps_15 rfl (lv_at hl 0 rfl) ?_
  refine r_getp B hH hS 17 (by decide) wf_X16_356 rfl rfl dX16_takeGaps_16 ?_
  obtain ⟨a39, ea39, ja39, h⟩ := h
  refine W.eq (g2 := F0 m 19 ls [.ref a39, .ref (ra 81)]) (by rw [ea39]; rfl) ?_
  refine n_arr B hH hS ja39 10 (kd := 100) (n := 16) (by decide) (by decide) (List.mem_of_getElem? (i := 10) rfl) rfl dX16_takeGaps_19 ?_
  refine lv_iload_n B.1 B.2.1 dX16_takeGaps_22 rfl (lv_at hl 2 rfl) ?_
  obtain ⟨q2, h⟩ := h
  refine x_iald B K.2.1 hH (hS.ja ja39 (k := 10) (kd := 100) (n := 16) (by decide)) (by decide) q2 dX16_takeGaps_23 ?_
  obtain ⟨q3, h⟩ := h
  refine x_lald B K.2.1 hH (hS.ar (k := 81) (kd := 101) (n := 8) (by decide)) (by decide) q3 dX16_takeGaps_24 ?_
  refine lv_lstore (lv' := [(6, .long (gJ σ (ra 81) (gI σ (jx a39 10) v2.toNat).toNat)), (0, .ref rm), (1, .int (i32 v1)), (2, .int (i32 v2)), (3, .long v3), (5, .int (i32 v5))]) B.1 B.2.1 dX16_takeGaps_25 hl (by decide) rfl (fun ls hl => ?_)
  refine lv_aload_n B.1 B.2.1 dX16_takeGaps_27 rfl (lv_at hl 1 rfl) ?_
  refine r_getp B hH hS 17 (by decide) wf_X16_356 rfl rfl dX16_takeGaps_28 ?_
  obtain ⟨a40, ea40, ja40, h⟩ := h
  refine W.eq (g2 := F0 m 31 ls [.ref a40]) (by rw [ea40]; rfl) ?_
  refine n_arr B hH hS ja40 8 (kd := 101) (n := 16) (by decide) (by decide) (List.mem_of_getElem? (i := 8) rfl) rfl dX16_takeGaps_31 ?_
  refine lv_iload_n B.1 B.2.1 dX16_takeGaps_34 rfl (lv_at hl 3 rfl) ?_
  obtain ⟨q5, h⟩ := h
  refine x_lald B K.2.1 hH (hS.ja ja40 (k := 8) (kd := 101) (n := 16) (by decide)) (by decide) q5 dX16_takeGaps_35 ?_
  refine lv_lstore (lv' := [(8, .long (gJ σ (jx a40 8) v2.toNat)), (6, .long (gJ σ (ra 81) (gI σ (jx a39 10) v2.toNat).toNat)), (0, .ref rm), (1, .int (i32 v1)), (2, .int (i32 v2)), (3, .long v3), (5, .int (i32 v5))]) B.1 B.2.1 dX16_takeGaps_36 hl (by decide) rfl (fun ls hl => ?_)
  refine lv_iconst (v := i32 (-1)) B.1 B.2.1 dX16_takeGaps_38 (by decide) ?_
  refine lv_istore (lv' := [(10, .int (i32 (-1))), (8, .long (gJ σ (jx a40 8) v2.toNat)), (6, .long (gJ σ (ra 81) (gI σ (jx a39 10) v2.toNat).toNat)), (0, .ref rm), (1, .int (i32 v1)), (2, .int (i32 v2)), (3, .long v3), (5, .int (i32 v5))]) B.1 B.2.1 dX16_takeGaps_39 hl (by decide) rfl (fun ls hl => ?_)
  refine lv_aload_n B.1 B.2.1 dX16_takeGaps_41 rfl (lv_at hl 3 rfl) ?_
  refine r_arr B hH hS 76 (kd := 100) (n := 64) (by decide) (by decide) wf_X16_504 rfl rfl dX16_takeGaps_42 ?_
  refine lv_iload_n B.1 B.2.1 dX16_takeGaps_45 rfl (lv_at hl 4 rfl) ?_
  obtain ⟨q6, h⟩ := h
  refine x_iald B K.2.1 hH (hS.ar (k := 76) (kd := 100) (n := 64) (by decide)) (by decide) q6 dX16_takeGaps_46 ?_
  refine lv_istore (lv' := [(11, .int (i32 (gI σ (ra 76) v1.toNat))), (10, .int (i32 (-1))), (8, .long (gJ σ (jx a40 8) v2.toNat)), (6, .long (gJ σ (ra 81) (gI σ (jx a39 10) v2.toNat).toNat)), (0, .ref rm), (1, .int (i32 v1)), (2, .int (i32 v2)), (3, .long v3), (5, .int (i32 v5))]) B.1 B.2.1 dX16_takeGaps_47 hl (by decide) rfl (fun ls hl => ?_)
  refine lv_lload_n B.1 B.2.1 dX16_takeGaps_49 rfl (lv_at hl 7 rfl) ?_
  refine lv_lstore (lv' := [(12, .long v3), (11, .int (i32 (gI σ (ra 76) v1.toNat))), (10, .int (i32 (-1))), (8, .long (gJ σ (jx a40 8) v2.toNat)), (6, .long (gJ σ (ra 81) (gI σ (jx a39 10) v2.toNat).toNat)), (0, .ref rm), (1, .int (i32 v1)), (2, .int (i32 v2)), (3, .long v3), (5, .int (i32 v5))]) B.1 B.2.1 dX16_takeGaps_50 hl (by decide) rfl (fun ls hl => ?_)
  refine lv_lload_n B.1 B.2.1 dX16_takeGaps_52 rfl (lv_at hl 8 rfl) ?_
  refine lv_lstore (lv' := [(14, .long v3), (12, .long v3), (11, .int (i32 (gI σ (ra 76) v1.toNat))), (10, .int (i32 (-1))), (8, .long (gJ σ (jx a40 8) v2.toNat)), (6, .long (gJ σ (ra 81) (gI σ (jx a39 10) v2.toNat).toNat)), (0, .ref rm), (1, .int (i32 v1)), (2, .int (i32 v2)), (3, .long v3), (5, .int (i32 v5))]) B.1 B.2.1 dX16_takeGaps_53 hl (by decide) rfl (fun ls hl => ?_)
  refine lv_iload B.1 B.2.1 dX16_takeGaps_55 (lv_at hl 10 rfl) ?_
  refine lv_istore (lv' := [(16, .int (i32 v5)), (14, .long v3), (12, .long v3), (11, .int (i32 (gI σ (ra 76) v1.toNat))), (10, .int (i32 (-1))), (8, .long (gJ σ (jx a40 8) v2.toNat)), (6, .long (gJ σ (ra 81) (gI σ (jx a39 10) v2.toNat).toNat)), (0, .ref rm), (1, .int (i32 v1)), (2, .int (i32 v2)), (3, .long v3), (5, .int (i32 v5))]) B.1 B.2.1 dX16_takeGaps_57 hl (by decide) rfl (fun ls hl => ?_)
  obtain ⟨n9, h⟩ := h
  exact al_X16_takeGaps_59 K hQ hX n9 _ _ _ _ _ _ _ _ _ _ g1 g2 (hGσ _ _) g5 h hGσ hS _ _ _ hH (lv_sub (l' := [(0, .ref rm), (1, .int (i32 v1)), (2, .int (i32 v2)), (3, .long v3), (6, .long (gJ σ (ra 81) (gI σ (jx a39 10) v2.toNat).toNat)), (8, .long (gJ σ (jx a40 8) v2.toNat)), (11, .int (i32 (gI σ (ra 76) v1.toNat))), (12, .long v3), (14, .long v3), (16, .int (i32 v5))]) hl [7, 8, 9, 10, 6, 5, 3, 2, 1, 0] rfl) hc
set_option maxRecDepth 20000 in
theorem a_X16_takeGaps_10 {Q : Sg → Unit → Prop} {X : Sg → String → Prop} (K : MC R p s m args c cX16_takeGaps 19 RX16 D cA tys A n0 s0 3 83 []) (hQ : HQV p l e R s m args below meth c cX16_takeGaps D cA A n0 s0 QM dm ra jx rm Q) (hX : HX p l e R s m args below meth c 19 D cA A n0 s0 QM dm ra jx rm X) : ∀ (σ : Sg), w_X16_takeGaps_10 ra jx rm Q X σ → RG σ → Shp dm ra jx rm σ → JJ p l e R s m args below meth c 19 D cA A n0 s0 QM σ 10 [(0, .ref rm)] [] := by
  intro σ h hGσ hS H locs ls hH hl hc
  have B := K.1
  unfold w_X16_takeGaps_10 at h
  exact hQ _ _ _ _ _ dX16_takeGaps_10 hH hc h hGσ hS
set_option maxRecDepth 20000 in
theorem a_X16_takeGaps_0 {Q : Sg → Unit → Prop} {X : Sg → String → Prop} (K : MC R p s m args c cX16_takeGaps 19 RX16 D cA tys A n0 s0 3 83 []) (hQ : HQV p l e R s m args below meth c cX16_takeGaps D cA A n0 s0 QM dm ra jx rm Q) (hX : HX p l e R s m args below meth c 19 D cA A n0 s0 QM dm ra jx rm X) : ∀ (σ : Sg) (v1 : Int) (v2 : Int) (v3 : Int64) (v5 : Int) (g1 : rng v1) (g2 : rng v2) (g5 : rng v5), w_X16_takeGaps_0 ra jx rm Q X σ v1 v2 v3 v5 → RG σ → Shp dm ra jx rm σ → JJ p l e R s m args below meth c 19 D cA A n0 s0 QM σ 0 [(0, .ref rm), (1, .int (i32 v1)), (2, .int (i32 v2)), (3, .long v3), (5, .int (i32 v5))] [] := by
  intro σ v1 v2 v3 v5 g1 g2 g5 h hGσ hS H locs ls hH hl hc
  have B := K.1
  unfold w_X16_takeGaps_0 at h
  refine lv_aload_n B.1 B.2.1 dX16_takeGaps_0 rfl (lv_at hl 0 rfl) ?_
  refine lv_iload_n B.1 B.2.1 dX16_takeGaps_1 rfl (lv_at hl 1 rfl) ?_
  refine lv_iload_n B.1 B.2.1 dX16_takeGaps_2 rfl (lv_at hl 2 rfl) ?_
  refine lv_lload_n B.1 B.2.1 dX16_takeGaps_3 rfl (lv_at hl 3 rfl) ?_
  refine c_V B hH hl hc K.2.2.1 (C := RX16) (T := TX16) (N := 123) (ci := 16) (As := [.int (i32 v1), .int (i32 v2), .long v3]) (ok_X16_weigh K.2.1 σ v1 v2 v3 g1 g2 hGσ hS h) wc_X16_592 3 hd_X16_weigh ⟨Nat.le_trans (Nat.le_of_ble_eq_true rfl) K.2.2.2.1, Nat.le_trans (Nat.le_of_ble_eq_true rfl) K.2.2.2.2.1⟩ hS.1.1 hS.1.2 (by decide) rfl rfl (rest := []) rfl (Nat.le_of_ble_eq_true rfl) dX16_takeGaps_4 (fun σ41 w hq => ?_) (fun σ9 E9 hx9 => hX σ9 E9 _ _ _ (tb_out K.2.2.2.2.2 rfl) hx9.1 hx9.2.1 hx9.2.2)
  obtain ⟨r42, rfl, ⟨gr42, gzr42⟩, h, hGσ41, hS⟩ := hq
  intro H locs ls hH hl hc
  refine W.eq (g2 := F0 m 7 ls [.int (i32 r42)]) (rfl) ?_
  try dsimp only at h
  refine lv_if_ne (tgt := 11) B.1 B.2.1 dX16_takeGaps_7 (by decide) (fun h9 => ?_) (fun h9 => ?_)
  · rw [if_pos (fun q => h9 ((z_eq gr42).mpr q))] at h
    exact a_X16_takeGaps_11 K hQ hX _ _ _ _ _ g1 g2 g5 h hGσ41 hS _ _ _ hH (lv_sub (l' := [(0, .ref rm), (1, .int (i32 v1)), (2, .int (i32 v2)), (3, .long v3), (5, .int (i32 v5))]) hl [0, 1, 2, 3, 4] rfl) hc
  · rw [if_neg (fun q => q ((z_eq gr42).mp h9))] at h
    exact a_X16_takeGaps_10 K hQ hX _ h hGσ41 hS _ _ _ hH (lv_sub (l' := [(0, .ref rm)]) hl [0] rfl) hc
theorem ok_X16_takeGaps (hT : Tys cA tys) {Q : Sg → Unit → Prop} {X : Sg → String → Prop} (σ : Sg) (v1 : Int) (v2 : Int) (v3 : Int64) (v5 : Int) (g1 : rng v1) (g2 : rng v2) (g5 : rng v5) (hG : RG σ) (hS : Shp dm ra jx rm σ) (h : wp_X16_takeGaps ra jx rm v1 v2 v3 v5 σ Q X) : Ok l D cA tys A yX16_takeGaps (.code yX16_takeGaps cX16_takeGaps 19 none) 3 83 [.ref rm, .int (i32 v1), .int (i32 v2), .long v3, .int (i32 v5)] σ (QnV dm ra jx rm Q) (QxR dm ra jx rm X) := by
  unfold wp_X16_takeGaps at h
  exact ok_V (plainFor_of_name (by decide)) (by exact Nat.le_of_ble_eq_true rfl) hT (fun p e R s m args below meth c K hQ hX H locs ls hH hl hc => a_X16_takeGaps_0 K hQ hX σ v1 v2 v3 v5 g1 g2 g5 h hG hS H locs ls hH (lv_sub (l' := [(0, .ref rm), (1, .int (i32 v1)), (2, .int (i32 v2)), (3, .long v3), (5, .int (i32 v5))]) hl [0, 1, 2, 3, 4] rfl) hc)
end M64

theorem wk_X16_417 : Cond.constantLong RX16 417 (-1) ∈ WAL := List.mem_filter.mpr ⟨tb_9 _ (List.mem_of_getElem? (i := 13) rfl), rfl⟩
theorem wk_X16_462 : Cond.constantLong RX16 462 (-7046029254386353131) ∈ WAL := List.mem_filter.mpr ⟨tb_12 _ (List.mem_of_getElem? (i := 70) rfl), rfl⟩
theorem wk_X16_1006 : Cond.constantLong RX16 1006 5 ∈ WAL := List.mem_filter.mpr ⟨tb_13 _ (List.mem_of_getElem? (i := 116) rfl), rfl⟩
theorem dX16_byteAt_0 : decode cX16_byteAt 0 = .ok (.aload_n 0, 1) := by decide +kernel
theorem dX16_byteAt_1 : decode cX16_byteAt 1 = .ok (.getfield 20, 3) := by decide +kernel
theorem dX16_byteAt_4 : decode cX16_byteAt 4 = .ok (.iload_n 1, 1) := by decide +kernel
theorem dX16_byteAt_5 : decode cX16_byteAt 5 = .ok (.baload, 1) := by decide +kernel
theorem dX16_byteAt_6 : decode cX16_byteAt 6 = .ok (.sipush 255, 3) := by decide +kernel
theorem dX16_byteAt_9 : decode cX16_byteAt 9 = .ok (.iand, 1) := by decide +kernel
theorem dX16_byteAt_10 : decode cX16_byteAt 10 = .ok (.ireturn, 1) := by decide +kernel
set_option maxRecDepth 20000 in
theorem a_X16_byteAt_0 {p : Program} {l : Launch} {e : Env} {R : Room} {s : State} {m : MethodId} {args : Array Value} {below : List Frame} {meth : Method} {c : Code} {D : va_G} {cA : Nat → ClassId} {tys : List (ClassId × FieldType)} {A : Nat → Prop} {n0 s0 : Nat} {QM : State → Prop} {ra : Nat → Nat} {jx : Nat → Nat → Nat} {rm : Nat} {Q : Sg → Int → Prop} {X : Sg → String → Prop} (B : Cx p s m args c cX16_byteAt 2 RX16 D cA tys A) (hT : Tys cA tys) (hR : Rm R n0 s0) (hFr : 0 ≤ R.frames) (hLw : 0 ≤ R.locals) (hQ : ∀ (pc : Nat) (ls : Array Slot) (σ : Sg) (H : Heap) (locs : List Loc) (r : Int) (gr : rng r), decode cX16_byteAt pc = .ok (.ireturn, 1) → Hd D cA A s σ H locs → CB n0 s0 σ → Q σ r → RG σ → Shp ra jx rm σ → W p l e R s m args below meth c H locs (gc σ - n0) (gs σ - s0) QM (F0 m pc ls [.int (i32 r)])) (hX : ∀ (σ : Sg) (E : String) (pc : Nat) (lo : List (Nat × Value)) (st : List Value), X σ E → RG σ → Shp ra jx rm σ → JX p l e R s m args below meth c 2 D cA A n0 s0 QM σ E pc lo st) : ∀ (σ : Sg) (v1 : Int) (g1 : rng v1), w_X16_byteAt_0 ra jx rm Q X σ v1 → RG σ → Shp ra jx rm σ → JJ p l e R s m args below meth c 2 D cA A n0 s0 QM σ 0 [(0, .ref rm), (1, .int (i32 v1))] [] := by
  intro σ v1 g1 h hGσ hS H locs ls hH hl hc
  unfold w_X16_byteAt_0 at h
  refine lv_aload_n B.1 B.2.1 dX16_byteAt_0 rfl (lv_at hl 0 rfl) ?_
  refine r_arr B hH hS 2 (kd := 102) (n := 1500) (by decide) (by decide) wf_X16_20 rfl (by decide) dX16_byteAt_1 ?_
  refine lv_iload_n B.1 B.2.1 dX16_byteAt_4 rfl (lv_at hl 1 rfl) ?_
  obtain ⟨q1, h⟩ := h
  refine r_bald B hT hH hS 2 (n := 1500) (by decide) (by decide) q1 dX16_byteAt_5 ?_
  refine lv_sipush (v := i32 255) B.1 B.2.1 dX16_byteAt_6 (by decide) ?_
  refine lv_iand B.1 B.2.1 dX16_byteAt_9 ?_
  refine W.eq (g2 := F0 m 10 ls [.int (i32 ((i32 (gI σ (ra 2) v1.toNat) &&& i32 255).toInt))]) (by rw [i32_self]) ?_
  exact hQ _ _ _ _ _ _ (rng_toInt _) dX16_byteAt_10 hH hc h hGσ hS
theorem ok_X16_byteAt {l : Launch} {D : va_G} {cA : Nat → ClassId} {tys : List (ClassId × FieldType)} {A : Nat → Prop} {ra : Nat → Nat} {jx : Nat → Nat → Nat} {rm : Nat} (hT : Tys cA tys) {Q : Sg → Int → Prop} {X : Sg → String → Prop} (σ : Sg) (v1 : Int) (g1 : rng v1) (hG : RG σ) (hS : Shp ra jx rm σ) (h : wp_X16_byteAt ra jx rm v1 σ Q X) : Ok l D cA tys A yX16_byteAt (.code yX16_byteAt cX16_byteAt 2 (some .int)) 0 0 [.ref rm, .int (i32 v1)] σ (fun σ' w => ∃ r, w = some (.int (i32 r)) ∧ rng r ∧ Q σ' r ∧ RG σ' ∧ Shp ra jx rm σ') (fun σ' E => X σ' E ∧ RG σ' ∧ Shp ra jx rm σ') := by
  refine ok_of (ret := (some .int)) (by decide) (Nat.le_of_ble_eq_true rfl) ?_
  intro p e R s m args below meth c hRR B hr hlocks hex _
  have B : Cx p s m args c cX16_byteAt 2 RX16 D cA tys A := B
  have hR : Rm R (gc σ) (gs σ) := by rw [hRR]; exact ⟨rfl, rfl⟩
  unfold wp_X16_byteAt at h
  intro H locs ls hH hl hc
  have hX : ∀ (σ9 : Sg) (E : String) (pc : Nat) (lo : List (Nat × Value)) (st : List Value), X σ9 E → RG σ9 → Shp ra jx rm σ9 → JX p l e R s m args below meth c 2 D cA A (gc σ) (gs σ) (vx_MQ below (Qw D cA A σ (fun σ' w => ∃ r, w = some (.int (i32 r)) ∧ rng r ∧ Q σ' r ∧ RG σ' ∧ Shp ra jx rm σ')) (Xw D cA A σ (fun σ' E => X σ' E ∧ RG σ' ∧ Shp ra jx rm σ')) args s (BC - gc σ) (BS - gs σ) A) σ9 E pc lo st := fun σ9 E pc lo st hx hG9 hS9 H locs ls ce q hH hl hc hce hcv hcl => e_out hH hc (fun x hx9 => (hex x hx9).elim) hlocks hce hcv hcl ⟨hx, hG9, hS9⟩
  exact a_X16_byteAt_0 B hT hR (by rw [hRR]; exact Nat.le_refl _) (by rw [hRR]; exact Nat.le_refl _) (fun pc ls σ9 H locs r gr hd hH hc hq hG9 hS9 => e_iret B hH hc hr rfl hlocks ⟨r, rfl, gr, hq, hG9, hS9⟩ hd) hX σ v1 g1 h hG hS H locs ls hH (lv_sub (l' := [(0, .ref rm), (1, .int (i32 v1))]) hl [0, 1] rfl) hc
theorem dX16_channel_0 : decode cX16_channel 0 = .ok (.aload_n 0, 1) := by decide +kernel
theorem dX16_channel_1 : decode cX16_channel 1 = .ok (.getfield 368, 3) := by decide +kernel
theorem dX16_channel_4 : decode cX16_channel 4 = .ok (.aload_n 0, 1) := by decide +kernel
theorem dX16_channel_5 : decode cX16_channel 5 = .ok (.getfield 371, 3) := by decide +kernel
theorem dX16_channel_8 : decode cX16_channel 8 = .ok (.iload_n 1, 1) := by decide +kernel
theorem dX16_channel_9 : decode cX16_channel 9 = .ok (.iastore, 1) := by decide +kernel
theorem dX16_channel_10 : decode cX16_channel 10 = .ok (.aload_n 0, 1) := by decide +kernel
theorem dX16_channel_11 : decode cX16_channel 11 = .ok (.getfield 374, 3) := by decide +kernel
theorem dX16_channel_14 : decode cX16_channel 14 = .ok (.aload_n 0, 1) := by decide +kernel
theorem dX16_channel_15 : decode cX16_channel 15 = .ok (.getfield 371, 3) := by decide +kernel
theorem dX16_channel_18 : decode cX16_channel 18 = .ok (.iload_n 2, 1) := by decide +kernel
theorem dX16_channel_19 : decode cX16_channel 19 = .ok (.iastore, 1) := by decide +kernel
theorem dX16_channel_20 : decode cX16_channel 20 = .ok (.aload_n 0, 1) := by decide +kernel
theorem dX16_channel_21 : decode cX16_channel 21 = .ok (.getfield 377, 3) := by decide +kernel
theorem dX16_channel_24 : decode cX16_channel 24 = .ok (.aload_n 0, 1) := by decide +kernel
theorem dX16_channel_25 : decode cX16_channel 25 = .ok (.getfield 371, 3) := by decide +kernel
theorem dX16_channel_28 : decode cX16_channel 28 = .ok (.iload_n 3, 1) := by decide +kernel
theorem dX16_channel_29 : decode cX16_channel 29 = .ok (.iastore, 1) := by decide +kernel
theorem dX16_channel_30 : decode cX16_channel 30 = .ok (.aload_n 0, 1) := by decide +kernel
theorem dX16_channel_31 : decode cX16_channel 31 = .ok (.dup, 1) := by decide +kernel
theorem dX16_channel_32 : decode cX16_channel 32 = .ok (.getfield 371, 3) := by decide +kernel
theorem dX16_channel_35 : decode cX16_channel 35 = .ok (.iconst 1, 1) := by decide +kernel
theorem dX16_channel_36 : decode cX16_channel 36 = .ok (.iadd, 1) := by decide +kernel
theorem dX16_channel_37 : decode cX16_channel 37 = .ok (.putfield 371, 3) := by decide +kernel
theorem dX16_channel_40 : decode cX16_channel 40 = .ok (.return_, 1) := by decide +kernel
set_option maxRecDepth 20000 in
theorem a_X16_channel_0 {p : Program} {l : Launch} {e : Env} {R : Room} {s : State} {m : MethodId} {args : Array Value} {below : List Frame} {meth : Method} {c : Code} {D : va_G} {cA : Nat → ClassId} {tys : List (ClassId × FieldType)} {A : Nat → Prop} {n0 s0 : Nat} {QM : State → Prop} {ra : Nat → Nat} {jx : Nat → Nat → Nat} {rm : Nat} {Q : Sg → Unit → Prop} {X : Sg → String → Prop} (B : Cx p s m args c cX16_channel 4 RX16 D cA tys A) (hT : Tys cA tys) (hR : Rm R n0 s0) (hFr : 0 ≤ R.frames) (hLw : 0 ≤ R.locals) (hQ : ∀ (pc : Nat) (ls : Array Slot) (σ : Sg) (H : Heap) (locs : List Loc), decode cX16_channel pc = .ok (.return_, 1) → Hd D cA A s σ H locs → CB n0 s0 σ → Q σ () → RG σ → Shp ra jx rm σ → W p l e R s m args below meth c H locs (gc σ - n0) (gs σ - s0) QM (F0 m pc ls [])) (hX : ∀ (σ : Sg) (E : String) (pc : Nat) (lo : List (Nat × Value)) (st : List Value), X σ E → RG σ → Shp ra jx rm σ → JX p l e R s m args below meth c 4 D cA A n0 s0 QM σ E pc lo st) : ∀ (σ : Sg) (v1 : Int) (v2 : Int) (v3 : Int) (g1 : rng v1) (g2 : rng v2) (g3 : rng v3), w_X16_channel_0 ra jx rm Q X σ v1 v2 v3 → RG σ → Shp ra jx rm σ → JJ p l e R s m args below meth c 4 D cA A n0 s0 QM σ 0 [(0, .ref rm), (1, .int (i32 v1)), (2, .int (i32 v2)), (3, .int (i32 v3))] [] := by
  intro σ v1 v2 v3 g1 g2 g3 h hGσ hS H locs ls hH hl hc
  unfold w_X16_channel_0 at h
  refine lv_aload_n B.1 B.2.1 dX16_channel_0 rfl (lv_at hl 0 rfl) ?_
  refine r_arr B hH hS 51 (kd := 100) (n := 1100) (by decide) (by decide) wf_X16_368 rfl (by decide) dX16_channel_1 ?_
  refine lv_aload_n B.1 B.2.1 dX16_channel_4 rfl (lv_at hl 0 rfl) ?_
  refine r_geti B hH hS 50 (by decide) wf_X16_371 rfl (by decide) dX16_channel_5 ?_
  refine lv_iload_n B.1 B.2.1 dX16_channel_8 rfl (lv_at hl 1 rfl) ?_
  obtain ⟨q1, h⟩ := h
  obtain ⟨σ9, eσ9⟩ : ∃ z, z = pI σ (ra 51) (gI σ rm 50).toNat v1 := ⟨_, rfl⟩
  have h := h σ9 eσ9
  refine r_iast B hT hH hS 51 (n := 1100) (by decide) (by decide) q1 dX16_channel_9 (fun H locs hH => ?_)
  have hH : Hd D cA A s (pI σ (ra 51) (gI σ rm 50).toNat v1) H locs := hH
  rw [← eσ9] at hH
  have hGσ9 : RG σ9 := by rw [eσ9]; exact hGσ.pI g1
  have hS : Shp ra jx rm σ9 := by rw [eσ9]; exact hS
  have hc : CB n0 s0 σ9 := by rw [eσ9]; exact hc
  rw [show gc σ = gc σ9 by rw [eσ9], show gs σ = gs σ9 by rw [eσ9]]
  refine lv_aload_n B.1 B.2.1 dX16_channel_10 rfl (lv_at hl 0 rfl) ?_
  refine r_arr B hH hS 52 (kd := 100) (n := 1100) (by decide) (by decide) wf_X16_374 rfl (by decide) dX16_channel_11 ?_
  refine lv_aload_n B.1 B.2.1 dX16_channel_14 rfl (lv_at hl 0 rfl) ?_
  refine r_geti B hH hS 50 (by decide) wf_X16_371 rfl (by decide) dX16_channel_15 ?_
  refine lv_iload_n B.1 B.2.1 dX16_channel_18 rfl (lv_at hl 2 rfl) ?_
  obtain ⟨q2, h⟩ := h
  obtain ⟨σ10, eσ10⟩ : ∃ z, z = pI σ9 (ra 52) (gI σ9 rm 50).toNat v2 := ⟨_, rfl⟩
  have h := h σ10 eσ10
  refine r_iast B hT hH hS 52 (n := 1100) (by decide) (by decide) q2 dX16_channel_19 (fun H locs hH => ?_)
  have hH : Hd D cA A s (pI σ9 (ra 52) (gI σ9 rm 50).toNat v2) H locs := hH
  rw [← eσ10] at hH
  have hGσ10 : RG σ10 := by rw [eσ10]; exact hGσ9.pI g2
  have hS : Shp ra jx rm σ10 := by rw [eσ10]; exact hS
  have hc : CB n0 s0 σ10 := by rw [eσ10]; exact hc
  rw [show gc σ9 = gc σ10 by rw [eσ10], show gs σ9 = gs σ10 by rw [eσ10]]
  refine lv_aload_n B.1 B.2.1 dX16_channel_20 rfl (lv_at hl 0 rfl) ?_
  refine r_arr B hH hS 53 (kd := 100) (n := 1100) (by decide) (by decide) wf_X16_377 rfl (by decide) dX16_channel_21 ?_
  refine lv_aload_n B.1 B.2.1 dX16_channel_24 rfl (lv_at hl 0 rfl) ?_
  refine r_geti B hH hS 50 (by decide) wf_X16_371 rfl (by decide) dX16_channel_25 ?_
  refine lv_iload_n B.1 B.2.1 dX16_channel_28 rfl (lv_at hl 3 rfl) ?_
  obtain ⟨q3, h⟩ := h
  obtain ⟨σ11, eσ11⟩ : ∃ z, z = pI σ10 (ra 53) (gI σ10 rm 50).toNat v3 := ⟨_, rfl⟩
  have h := h σ11 eσ11
  refine r_iast B hT hH hS 53 (n := 1100) (by decide) (by decide) q3 dX16_channel_29 (fun H locs hH => ?_)
  have hH : Hd D cA A s (pI σ10 (ra 53) (gI σ10 rm 50).toNat v3) H locs := hH
  rw [← eσ11] at hH
  have hGσ11 : RG σ11 := by rw [eσ11]; exact hGσ10.pI g3
  have hS : Shp ra jx rm σ11 := by rw [eσ11]; exact hS
  have hc : CB n0 s0 σ11 := by rw [eσ11]; exact hc
  rw [show gc σ10 = gc σ11 by rw [eσ11], show gs σ10 = gs σ11 by rw [eσ11]]
  refine lv_aload_n B.1 B.2.1 dX16_channel_30 rfl (lv_at hl 0 rfl) ?_
  refine lv_dup B.1 B.2.1 dX16_channel_31 rfl ?_
  refine r_geti B hH hS 50 (by decide) wf_X16_371 rfl (by decide) dX16_channel_32 ?_
  refine lv_iconst (v := i32 1) B.1 B.2.1 dX16_channel_35 (by decide) ?_
  obtain ⟨q4, h⟩ := h
  refine lv_iadd B.1 B.2.1 dX16_channel_36 ?_
  rw [i32_add]
  obtain ⟨σ12, eσ12⟩ : ∃ z, z = pI σ11 rm 50 (gI σ11 rm 50 + 1) := ⟨_, rfl⟩
  have h := h σ12 eσ12
  refine r_puti B hH hS 50 (ty := .int) (by decide) wf_X16_371 rfl rfl (by decide) rfl rfl rfl dX16_channel_37 (fun H locs hH => ?_)
  have hH : Hd D cA A s (pI σ11 rm 50 (gI σ11 rm 50 + 1)) H locs := hH
  rw [← eσ12] at hH
  have hGσ12 : RG σ12 := by rw [eσ12]; exact hGσ11.pI q4
  have hS : Shp ra jx rm σ12 := by rw [eσ12]; exact hS
  have hc : CB n0 s0 σ12 := by rw [eσ12]; exact hc
  rw [show gc σ11 = gc σ12 by rw [eσ12], show gs σ11 = gs σ12 by rw [eσ12]]
  exact hQ _ _ _ _ _ dX16_channel_40 hH hc h hGσ12 hS
theorem ok_X16_channel {l : Launch} {D : va_G} {cA : Nat → ClassId} {tys : List (ClassId × FieldType)} {A : Nat → Prop} {ra : Nat → Nat} {jx : Nat → Nat → Nat} {rm : Nat} (hT : Tys cA tys) {Q : Sg → Unit → Prop} {X : Sg → String → Prop} (σ : Sg) (v1 : Int) (v2 : Int) (v3 : Int) (g1 : rng v1) (g2 : rng v2) (g3 : rng v3) (hG : RG σ) (hS : Shp ra jx rm σ) (h : wp_X16_channel ra jx rm v1 v2 v3 σ Q X) : Ok l D cA tys A yX16_channel (.code yX16_channel cX16_channel 4 none) 0 0 [.ref rm, .int (i32 v1), .int (i32 v2), .int (i32 v3)] σ (fun σ' w => w = none ∧ Q σ' () ∧ RG σ' ∧ Shp ra jx rm σ') (fun σ' E => X σ' E ∧ RG σ' ∧ Shp ra jx rm σ') := by
  refine ok_of (ret := none) (by decide) (Nat.le_of_ble_eq_true rfl) ?_
  intro p e R s m args below meth c hRR B hr hlocks hex _
  have B : Cx p s m args c cX16_channel 4 RX16 D cA tys A := B
  have hR : Rm R (gc σ) (gs σ) := by rw [hRR]; exact ⟨rfl, rfl⟩
  unfold wp_X16_channel at h
  intro H locs ls hH hl hc
  have hX : ∀ (σ9 : Sg) (E : String) (pc : Nat) (lo : List (Nat × Value)) (st : List Value), X σ9 E → RG σ9 → Shp ra jx rm σ9 → JX p l e R s m args below meth c 4 D cA A (gc σ) (gs σ) (vx_MQ below (Qw D cA A σ (fun σ' w => w = none ∧ Q σ' () ∧ RG σ' ∧ Shp ra jx rm σ')) (Xw D cA A σ (fun σ' E => X σ' E ∧ RG σ' ∧ Shp ra jx rm σ')) args s (BC - gc σ) (BS - gs σ) A) σ9 E pc lo st := fun σ9 E pc lo st hx hG9 hS9 H locs ls ce q hH hl hc hce hcv hcl => e_out hH hc (fun x hx9 => (hex x hx9).elim) hlocks hce hcv hcl ⟨hx, hG9, hS9⟩
  exact a_X16_channel_0 B hT hR (by rw [hRR]; exact Nat.le_refl _) (by rw [hRR]; exact Nat.le_refl _) (fun pc ls σ9 H locs hd hH hc hq hG9 hS9 => e_vret B hH hc hr hlocks ⟨rfl, hq, hG9, hS9⟩ hd) hX σ v1 v2 v3 g1 g2 g3 h hG hS H locs ls hH (lv_sub (l' := [(0, .ref rm), (1, .int (i32 v1)), (2, .int (i32 v2)), (3, .int (i32 v3))]) hl [0, 1, 2, 3] rfl) hc
theorem dX16_channelsOf_0 : decode cX16_channelsOf 0 = .ok (.iconst 0, 1) := by decide +kernel
theorem dX16_channelsOf_1 : decode cX16_channelsOf 1 = .ok (.istore_n 2, 1) := by decide +kernel
theorem dX16_channelsOf_2 : decode cX16_channelsOf 2 = .ok (.iconst 0, 1) := by decide +kernel
theorem dX16_channelsOf_3 : decode cX16_channelsOf 3 = .ok (.istore_n 3, 1) := by decide +kernel
theorem dX16_channelsOf_4 : decode cX16_channelsOf 4 = .ok (.iload_n 3, 1) := by decide +kernel
theorem dX16_channelsOf_5 : decode cX16_channelsOf 5 = .ok (.aload_n 0, 1) := by decide +kernel
theorem dX16_channelsOf_6 : decode cX16_channelsOf 6 = .ok (.getfield 371, 3) := by decide +kernel
theorem dX16_channelsOf_9 : decode cX16_channelsOf 9 = .ok (.if_icmp .ge 27, 3) := by decide +kernel
theorem dX16_channelsOf_12 : decode cX16_channelsOf 12 = .ok (.iload_n 2, 1) := by decide +kernel
theorem dX16_channelsOf_13 : decode cX16_channelsOf 13 = .ok (.aload_n 0, 1) := by decide +kernel
theorem dX16_channelsOf_14 : decode cX16_channelsOf 14 = .ok (.getfield 374, 3) := by decide +kernel
theorem dX16_channelsOf_17 : decode cX16_channelsOf 17 = .ok (.iload_n 3, 1) := by decide +kernel
theorem dX16_channelsOf_18 : decode cX16_channelsOf 18 = .ok (.iaload, 1) := by decide +kernel
theorem dX16_channelsOf_19 : decode cX16_channelsOf 19 = .ok (.iload_n 1, 1) := by decide +kernel
theorem dX16_channelsOf_20 : decode cX16_channelsOf 20 = .ok (.if_icmp .ne 7, 3) := by decide +kernel
theorem dX16_channelsOf_23 : decode cX16_channelsOf 23 = .ok (.iconst 1, 1) := by decide +kernel
theorem dX16_channelsOf_24 : decode cX16_channelsOf 24 = .ok (.goto 4, 3) := by decide +kernel
theorem dX16_channelsOf_27 : decode cX16_channelsOf 27 = .ok (.iconst 0, 1) := by decide +kernel
theorem dX16_channelsOf_28 : decode cX16_channelsOf 28 = .ok (.iadd, 1) := by decide +kernel
theorem dX16_channelsOf_29 : decode cX16_channelsOf 29 = .ok (.istore_n 2, 1) := by decide +kernel
theorem dX16_channelsOf_30 : decode cX16_channelsOf 30 = .ok (.iinc 3 1, 3) := by decide +kernel
theorem dX16_channelsOf_33 : decode cX16_channelsOf 33 = .ok (.goto (-29), 3) := by decide +kernel
theorem dX16_channelsOf_36 : decode cX16_channelsOf 36 = .ok (.iload_n 2, 1) := by decide +kernel
theorem dX16_channelsOf_37 : decode cX16_channelsOf 37 = .ok (.ireturn, 1) := by decide +kernel
set_option maxRecDepth 20000 in
theorem a_X16_channelsOf_36 {p : Program} {l : Launch} {e : Env} {R : Room} {s : State} {m : MethodId} {args : Array Value} {below : List Frame} {meth : Method} {c : Code} {D : va_G} {cA : Nat → ClassId} {tys : List (ClassId × FieldType)} {A : Nat → Prop} {n0 s0 : Nat} {QM : State → Prop} {ra : Nat → Nat} {jx : Nat → Nat → Nat} {rm : Nat} {Q : Sg → Int → Prop} {X : Sg → String → Prop} (B : Cx p s m args c cX16_channelsOf 4 RX16 D cA tys A) (hT : Tys cA tys) (hR : Rm R n0 s0) (hFr : 0 ≤ R.frames) (hLw : 0 ≤ R.locals) (hQ : ∀ (pc : Nat) (ls : Array Slot) (σ : Sg) (H : Heap) (locs : List Loc) (r : Int) (gr : rng r), decode cX16_channelsOf pc = .ok (.ireturn, 1) → Hd D cA A s σ H locs → CB n0 s0 σ → Q σ r → RG σ → Shp ra jx rm σ → W p l e R s m args below meth c H locs (gc σ - n0) (gs σ - s0) QM (F0 m pc ls [.int (i32 r)])) (hX : ∀ (σ : Sg) (E : String) (pc : Nat) (lo : List (Nat × Value)) (st : List Value), X σ E → RG σ → Shp ra jx rm σ → JX p l e R s m args below meth c 4 D cA A n0 s0 QM σ E pc lo st) : ∀ (σ : Sg) (v2 : Int) (g2 : rng v2), w_X16_channelsOf_36 ra jx rm Q X σ v2 → RG σ → Shp ra jx rm σ → JJ p l e R s m args below meth c 4 D cA A n0 s0 QM σ 36 [(0, .ref rm), (2, .int (i32 v2))] [] := by
  intro σ v2 g2 h hGσ hS H locs ls hH hl hc
  unfold w_X16_channelsOf_36 at h
  refine lv_iload_n B.1 B.2.1 dX16_channelsOf_36 rfl (lv_at hl 1 rfl) ?_
  exact hQ _ _ _ _ _ _ g2 dX16_channelsOf_37 hH hc h hGσ hS
set_option maxRecDepth 20000 in
theorem a_X16_channelsOf_28 {p : Program} {l : Launch} {e : Env} {R : Room} {s : State} {m : MethodId} {args : Array Value} {below : List Frame} {meth : Method} {c : Code} {D : va_G} {cA : Nat → ClassId} {tys : List (ClassId × FieldType)} {A : Nat → Prop} {n0 s0 : Nat} {QM : State → Prop} {ra : Nat → Nat} {jx : Nat → Nat → Nat} {rm : Nat} {Q : Sg → Int → Prop} {X : Sg → String → Prop} (B : Cx p s m args c cX16_channelsOf 4 RX16 D cA tys A) (hT : Tys cA tys) (hR : Rm R n0 s0) (hFr : 0 ≤ R.frames) (hLw : 0 ≤ R.locals) (hQ : ∀ (pc : Nat) (ls : Array Slot) (σ : Sg) (H : Heap) (locs : List Loc) (r : Int) (gr : rng r), decode cX16_channelsOf pc = .ok (.ireturn, 1) → Hd D cA A s σ H locs → CB n0 s0 σ → Q σ r → RG σ → Shp ra jx rm σ → W p l e R s m args below meth c H locs (gc σ - n0) (gs σ - s0) QM (F0 m pc ls [.int (i32 r)])) (hX : ∀ (σ : Sg) (E : String) (pc : Nat) (lo : List (Nat × Value)) (st : List Value), X σ E → RG σ → Shp ra jx rm σ → JX p l e R s m args below meth c 4 D cA A n0 s0 QM σ E pc lo st) {K4 : Sg → Int → Int → Int → Prop} (hK4 : ∀ (σ : Sg) (v1 : Int) (v2 : Int) (v3 : Int) (g1 : rng v1) (g2 : rng v2) (g3 : rng v3), K4 σ v1 v2 v3 → RG σ → Shp ra jx rm σ → JJ p l e R s m args below meth c 4 D cA A n0 s0 QM σ 4 [(0, .ref rm), (1, .int (i32 v1)), (2, .int (i32 v2)), (3, .int (i32 v3))] []) : ∀ (σ : Sg) (v1 : Int) (v3 : Int) (u0 : Int) (u1 : Int) (g1 : rng v1) (g3 : rng v3) (gu0 : rng u0) (gu1 : rng u1), w_X16_channelsOf_28 ra jx rm K4 Q X σ v1 v3 u0 u1 → RG σ → Shp ra jx rm σ → JJ p l e R s m args below meth c 4 D cA A n0 s0 QM σ 28 [(0, .ref rm), (1, .int (i32 v1)), (3, .int (i32 v3))] [.int (i32 u0), .int (i32 u1)] := by
  intro σ v1 v3 u0 u1 g1 g3 gu0 gu1 h hGσ hS H locs ls hH hl hc
  unfold w_X16_channelsOf_28 at h
  obtain ⟨q1, h⟩ := h
  refine lv_iadd B.1 B.2.1 dX16_channelsOf_28 ?_
  rw [i32_add]
  refine lv_istore_n (lv' := [(2, .int (i32 (u1 + u0))), (0, .ref rm), (1, .int (i32 v1)), (3, .int (i32 v3))]) B.1 B.2.1 dX16_channelsOf_29 rfl hl (by decide) rfl (fun ls hl => ?_)
  obtain ⟨q2, h⟩ := h
  refine lv_iinc (k := 3) (v := i32 (v3 + 1)) (lv' := [(3, .int (i32 (v3 + 1))), (2, .int (i32 (u1 + u0))), (0, .ref rm), (1, .int (i32 v1))]) B.1 B.2.1 dX16_channelsOf_30 hl rfl (i32_add _ _) (by decide) rfl (fun ls hl => ?_)
  refine lv_goto (tgt := 4) B.1 B.2.1 dX16_channelsOf_33 (by decide) ?_
  exact hK4 _ _ _ _ g1 q1 q2 h hGσ hS _ _ _ hH (lv_sub (l' := [(0, .ref rm), (1, .int (i32 v1)), (2, .int (i32 (u1 + u0))), (3, .int (i32 (v3 + 1)))]) hl [2, 3, 1, 0] rfl) hc
set_option maxRecDepth 20000 in
theorem a_X16_channelsOf_27 {p : Program} {l : Launch} {e : Env} {R : Room} {s : State} {m : MethodId} {args : Array Value} {below : List Frame} {meth : Method} {c : Code} {D : va_G} {cA : Nat → ClassId} {tys : List (ClassId × FieldType)} {A : Nat → Prop} {n0 s0 : Nat} {QM : State → Prop} {ra : Nat → Nat} {jx : Nat → Nat → Nat} {rm : Nat} {Q : Sg → Int → Prop} {X : Sg → String → Prop} (B : Cx p s m args c cX16_channelsOf 4 RX16 D cA tys A) (hT : Tys cA tys) (hR : Rm R n0 s0) (hFr : 0 ≤ R.frames) (hLw : 0 ≤ R.locals) (hQ : ∀ (pc : Nat) (ls : Array Slot) (σ : Sg) (H : Heap) (locs : List Loc) (r : Int) (gr : rng r), decode cX16_channelsOf pc = .ok (.ireturn, 1) → Hd D cA A s σ H locs → CB n0 s0 σ → Q σ r → RG σ → Shp ra jx rm σ → W p l e R s m args below meth c H locs (gc σ - n0) (gs σ - s0) QM (F0 m pc ls [.int (i32 r)])) (hX : ∀ (σ : Sg) (E : String) (pc : Nat) (lo : List (Nat × Value)) (st : List Value), X σ E → RG σ → Shp ra jx rm σ → JX p l e R s m args below meth c 4 D cA A n0 s0 QM σ E pc lo st) {K4 : Sg → Int → Int → Int → Prop} (hK4 : ∀ (σ : Sg) (v1 : Int) (v2 : Int) (v3 : Int) (g1 : rng v1) (g2 : rng v2) (g3 : rng v3), K4 σ v1 v2 v3 → RG σ → Shp ra jx rm σ → JJ p l e R s m args below meth c 4 D cA A n0 s0 QM σ 4 [(0, .ref rm), (1, .int (i32 v1)), (2, .int (i32 v2)), (3, .int (i32 v3))] []) : ∀ (σ : Sg) (v1 : Int) (v3 : Int) (u0 : Int) (g1 : rng v1) (g3 : rng v3) (gu0 : rng u0), w_X16_channelsOf_27 ra jx rm K4 Q X σ v1 v3 u0 → RG σ → Shp ra jx rm σ → JJ p l e R s m args below meth c 4 D cA A n0 s0 QM σ 27 [(0, .ref rm), (1, .int (i32 v1)), (3, .int (i32 v3))] [.int (i32 u0)] := by
  intro σ v1 v3 u0 g1 g3 gu0 h hGσ hS H locs ls hH hl hc
  unfold w_X16_channelsOf_27 at h
  refine lv_iconst (v := i32 0) B.1 B.2.1 dX16_channelsOf_27 (by decide) ?_
  exact a_X16_channelsOf_28 B hT hR hFr hLw hQ hX hK4 _ _ _ _ _ g1 g3 (by unfold rng; omega) gu0 h hGσ hS _ _ _ hH (lv_sub (l' := [(0, .ref rm), (1, .int (i32 v1)), (3, .int (i32 v3))]) hl [0, 1, 2] rfl) hc
set_option maxRecDepth 20000 in
theorem a_X16_channelsOf_23 {p : Program} {l : Launch} {e : Env} {R : Room} {s : State} {m : MethodId} {args : Array Value} {below : List Frame} {meth : Method} {c : Code} {D : va_G} {cA : Nat → ClassId} {tys : List (ClassId × FieldType)} {A : Nat → Prop} {n0 s0 : Nat} {QM : State → Prop} {ra : Nat → Nat} {jx : Nat → Nat → Nat} {rm : Nat} {Q : Sg → Int → Prop} {X : Sg → String → Prop} (B : Cx p s m args c cX16_channelsOf 4 RX16 D cA tys A) (hT : Tys cA tys) (hR : Rm R n0 s0) (hFr : 0 ≤ R.frames) (hLw : 0 ≤ R.locals) (hQ : ∀ (pc : Nat) (ls : Array Slot) (σ : Sg) (H : Heap) (locs : List Loc) (r : Int) (gr : rng r), decode cX16_channelsOf pc = .ok (.ireturn, 1) → Hd D cA A s σ H locs → CB n0 s0 σ → Q σ r → RG σ → Shp ra jx rm σ → W p l e R s m args below meth c H locs (gc σ - n0) (gs σ - s0) QM (F0 m pc ls [.int (i32 r)])) (hX : ∀ (σ : Sg) (E : String) (pc : Nat) (lo : List (Nat × Value)) (st : List Value), X σ E → RG σ → Shp ra jx rm σ → JX p l e R s m args below meth c 4 D cA A n0 s0 QM σ E pc lo st) {K4 : Sg → Int → Int → Int → Prop} (hK4 : ∀ (σ : Sg) (v1 : Int) (v2 : Int) (v3 : Int) (g1 : rng v1) (g2 : rng v2) (g3 : rng v3), K4 σ v1 v2 v3 → RG σ → Shp ra jx rm σ → JJ p l e R s m args below meth c 4 D cA A n0 s0 QM σ 4 [(0, .ref rm), (1, .int (i32 v1)), (2, .int (i32 v2)), (3, .int (i32 v3))] []) : ∀ (σ : Sg) (v1 : Int) (v3 : Int) (u0 : Int) (g1 : rng v1) (g3 : rng v3) (gu0 : rng u0), w_X16_channelsOf_23 ra jx rm K4 Q X σ v1 v3 u0 → RG σ → Shp ra jx rm σ → JJ p l e R s m args below meth c 4 D cA A n0 s0 QM σ 23 [(0, .ref rm), (1, .int (i32 v1)), (3, .int (i32 v3))] [.int (i32 u0)] := by
  intro σ v1 v3 u0 g1 g3 gu0 h hGσ hS H locs ls hH hl hc
  unfold w_X16_channelsOf_23 at h
  refine lv_iconst (v := i32 1) B.1 B.2.1 dX16_channelsOf_23 (by decide) ?_
  refine lv_goto (tgt := 28) B.1 B.2.1 dX16_channelsOf_24 (by decide) ?_
  exact a_X16_channelsOf_28 B hT hR hFr hLw hQ hX hK4 _ _ _ _ _ g1 g3 (by unfold rng; omega) gu0 h hGσ hS _ _ _ hH (lv_sub (l' := [(0, .ref rm), (1, .int (i32 v1)), (3, .int (i32 v3))]) hl [0, 1, 2] rfl) hc
set_option maxRecDepth 20000 in
theorem a_X16_channelsOf_12 {p : Program} {l : Launch} {e : Env} {R : Room} {s : State} {m : MethodId} {args : Array Value} {below : List Frame} {meth : Method} {c : Code} {D : va_G} {cA : Nat → ClassId} {tys : List (ClassId × FieldType)} {A : Nat → Prop} {n0 s0 : Nat} {QM : State → Prop} {ra : Nat → Nat} {jx : Nat → Nat → Nat} {rm : Nat} {Q : Sg → Int → Prop} {X : Sg → String → Prop} (B : Cx p s m args c cX16_channelsOf 4 RX16 D cA tys A) (hT : Tys cA tys) (hR : Rm R n0 s0) (hFr : 0 ≤ R.frames) (hLw : 0 ≤ R.locals) (hQ : ∀ (pc : Nat) (ls : Array Slot) (σ : Sg) (H : Heap) (locs : List Loc) (r : Int) (gr : rng r), decode cX16_channelsOf pc = .ok (.ireturn, 1) → Hd D cA A s σ H locs → CB n0 s0 σ → Q σ r → RG σ → Shp ra jx rm σ → W p l e R s m args below meth c H locs (gc σ - n0) (gs σ - s0) QM (F0 m pc ls [.int (i32 r)])) (hX : ∀ (σ : Sg) (E : String) (pc : Nat) (lo : List (Nat × Value)) (st : List Value), X σ E → RG σ → Shp ra jx rm σ → JX p l e R s m args below meth c 4 D cA A n0 s0 QM σ E pc lo st) {K4 : Sg → Int → Int → Int → Prop} (hK4 : ∀ (σ : Sg) (v1 : Int) (v2 : Int) (v3 : Int) (g1 : rng v1) (g2 : rng v2) (g3 : rng v3), K4 σ v1 v2 v3 → RG σ → Shp ra jx rm σ → JJ p l e R s m args below meth c 4 D cA A n0 s0 QM σ 4 [(0, .ref rm), (1, .int (i32 v1)), (2, .int (i32 v2)), (3, .int (i32 v3))] []) : ∀ (σ : Sg) (v1 : Int) (v2 : Int) (v3 : Int) (g1 : rng v1) (g2 : rng v2) (g3 : rng v3), w_X16_channelsOf_12 ra jx rm K4 Q X σ v1 v2 v3 → RG σ → Shp ra jx rm σ → JJ p l e R s m args below meth c 4 D cA A n0 s0 QM σ 12 [(0, .ref rm), (1, .int (i32 v1)), (2, .int (i32 v2)), (3, .int (i32 v3))] [] := by
  intro σ v1 v2 v3 g1 g2 g3 h hGσ hS H locs ls hH hl hc
  unfold w_X16_channelsOf_12 at h
  refine lv_iload_n B.1 B.2.1 dX16_channelsOf_12 rfl (lv_at hl 2 rfl) ?_
  refine lv_aload_n B.1 B.2.1 dX16_channelsOf_13 rfl (lv_at hl 0 rfl) ?_
  refine r_arr B hH hS 52 (kd := 100) (n := 1100) (by decide) (by decide) wf_X16_374 rfl (by decide) dX16_channelsOf_14 ?_
  refine lv_iload_n B.1 B.2.1 dX16_channelsOf_17 rfl (lv_at hl 3 rfl) ?_
  obtain ⟨q1, h⟩ := h
  refine r_iald B hT hH hS 52 (n := 1100) (by decide) (by decide) q1 dX16_channelsOf_18 ?_
  refine lv_iload_n B.1 B.2.1 dX16_channelsOf_19 rfl (lv_at hl 1 rfl) ?_
  refine lv_icmp_ne (tgt := 27) B.1 B.2.1 dX16_channelsOf_20 (by decide) (fun h9 => ?_) (fun h9 => ?_)
  · rw [if_pos (fun q => h9 ((i32_eq (hGσ _ _) g1).mpr q))] at h
    exact a_X16_channelsOf_27 B hT hR hFr hLw hQ hX hK4 _ _ _ _ g1 g3 g2 h hGσ hS _ _ _ hH (lv_sub (l' := [(0, .ref rm), (1, .int (i32 v1)), (3, .int (i32 v3))]) hl [0, 1, 3] rfl) hc
  · rw [if_neg (fun q => q ((i32_eq (hGσ _ _) g1).mp h9))] at h
    exact a_X16_channelsOf_23 B hT hR hFr hLw hQ hX hK4 _ _ _ _ g1 g3 g2 h hGσ hS _ _ _ hH (lv_sub (l' := [(0, .ref rm), (1, .int (i32 v1)), (3, .int (i32 v3))]) hl [0, 1, 3] rfl) hc
set_option maxRecDepth 20000 in
theorem a_X16_channelsOf_4 {p : Program} {l : Launch} {e : Env} {R : Room} {s : State} {m : MethodId} {args : Array Value} {below : List Frame} {meth : Method} {c : Code} {D : va_G} {cA : Nat → ClassId} {tys : List (ClassId × FieldType)} {A : Nat → Prop} {n0 s0 : Nat} {QM : State → Prop} {ra : Nat → Nat} {jx : Nat → Nat → Nat} {rm : Nat} {Q : Sg → Int → Prop} {X : Sg → String → Prop} (B : Cx p s m args c cX16_channelsOf 4 RX16 D cA tys A) (hT : Tys cA tys) (hR : Rm R n0 s0) (hFr : 0 ≤ R.frames) (hLw : 0 ≤ R.locals) (hQ : ∀ (pc : Nat) (ls : Array Slot) (σ : Sg) (H : Heap) (locs : List Loc) (r : Int) (gr : rng r), decode cX16_channelsOf pc = .ok (.ireturn, 1) → Hd D cA A s σ H locs → CB n0 s0 σ → Q σ r → RG σ → Shp ra jx rm σ → W p l e R s m args below meth c H locs (gc σ - n0) (gs σ - s0) QM (F0 m pc ls [.int (i32 r)])) (hX : ∀ (σ : Sg) (E : String) (pc : Nat) (lo : List (Nat × Value)) (st : List Value), X σ E → RG σ → Shp ra jx rm σ → JX p l e R s m args below meth c 4 D cA A n0 s0 QM σ E pc lo st) {K4 : Sg → Int → Int → Int → Prop} (hK4 : ∀ (σ : Sg) (v1 : Int) (v2 : Int) (v3 : Int) (g1 : rng v1) (g2 : rng v2) (g3 : rng v3), K4 σ v1 v2 v3 → RG σ → Shp ra jx rm σ → JJ p l e R s m args below meth c 4 D cA A n0 s0 QM σ 4 [(0, .ref rm), (1, .int (i32 v1)), (2, .int (i32 v2)), (3, .int (i32 v3))] []) : ∀ (σ : Sg) (v1 : Int) (v2 : Int) (v3 : Int) (g1 : rng v1) (g2 : rng v2) (g3 : rng v3), w_X16_channelsOf_4 ra jx rm K4 Q X σ v1 v2 v3 → RG σ → Shp ra jx rm σ → JJ p l e R s m args below meth c 4 D cA A n0 s0 QM σ 4 [(0, .ref rm), (1, .int (i32 v1)), (2, .int (i32 v2)), (3, .int (i32 v3))] [] := by
  intro σ v1 v2 v3 g1 g2 g3 h hGσ hS H locs ls hH hl hc
  unfold w_X16_channelsOf_4 at h
  refine lv_iload_n B.1 B.2.1 dX16_channelsOf_4 rfl (lv_at hl 3 rfl) ?_
  refine lv_aload_n B.1 B.2.1 dX16_channelsOf_5 rfl (lv_at hl 0 rfl) ?_
  refine r_geti B hH hS 50 (by decide) wf_X16_371 rfl (by decide) dX16_channelsOf_6 ?_
  refine lv_icmp_ge (tgt := 36) B.1 B.2.1 dX16_channelsOf_9 (by decide) (fun h9 => ?_) (fun h9 => ?_)
  · rw [if_pos ((i32_le (hGσ _ _) g3).mp h9)] at h
    exact a_X16_channelsOf_36 B hT hR hFr hLw hQ hX _ _ g2 h hGσ hS _ _ _ hH (lv_sub (l' := [(0, .ref rm), (2, .int (i32 v2))]) hl [0, 2] rfl) hc
  · rw [if_neg (fun q => h9 ((i32_le (hGσ _ _) g3).mpr q))] at h
    exact a_X16_channelsOf_12 B hT hR hFr hLw hQ hX hK4 _ _ _ _ g1 g2 g3 h hGσ hS _ _ _ hH (lv_sub (l' := [(0, .ref rm), (1, .int (i32 v1)), (2, .int (i32 v2)), (3, .int (i32 v3))]) hl [0, 1, 2, 3] rfl) hc
theorem al_X16_channelsOf_4 {p : Program} {l : Launch} {e : Env} {R : Room} {s : State} {m : MethodId} {args : Array Value} {below : List Frame} {meth : Method} {c : Code} {D : va_G} {cA : Nat → ClassId} {tys : List (ClassId × FieldType)} {A : Nat → Prop} {n0 s0 : Nat} {QM : State → Prop} {ra : Nat → Nat} {jx : Nat → Nat → Nat} {rm : Nat} {Q : Sg → Int → Prop} {X : Sg → String → Prop} (B : Cx p s m args c cX16_channelsOf 4 RX16 D cA tys A) (hT : Tys cA tys) (hR : Rm R n0 s0) (hFr : 0 ≤ R.frames) (hLw : 0 ≤ R.locals) (hQ : ∀ (pc : Nat) (ls : Array Slot) (σ : Sg) (H : Heap) (locs : List Loc) (r : Int) (gr : rng r), decode cX16_channelsOf pc = .ok (.ireturn, 1) → Hd D cA A s σ H locs → CB n0 s0 σ → Q σ r → RG σ → Shp ra jx rm σ → W p l e R s m args below meth c H locs (gc σ - n0) (gs σ - s0) QM (F0 m pc ls [.int (i32 r)])) (hX : ∀ (σ : Sg) (E : String) (pc : Nat) (lo : List (Nat × Value)) (st : List Value), X σ E → RG σ → Shp ra jx rm σ → JX p l e R s m args below meth c 4 D cA A n0 s0 QM σ E pc lo st) : ∀ (n : Nat), ∀ (σ : Sg) (v1 : Int) (v2 : Int) (v3 : Int) (g1 : rng v1) (g2 : rng v2) (g3 : rng v3), wl_X16_channelsOf_4 ra jx rm Q X n σ v1 v2 v3 → RG σ → Shp ra jx rm σ → JJ p l e R s m args below meth c 4 D cA A n0 s0 QM σ 4 [(0, .ref rm), (1, .int (i32 v1)), (2, .int (i32 v2)), (3, .int (i32 v3))] [] := by
  intro n
  induction n with
  | zero => intro σ v1 v2 v3 g1 g2 g3 h; exact h.elim
  | succ n ih => exact fun σ v1 v2 v3 g1 g2 g3 h => a_X16_channelsOf_4 B hT hR hFr hLw hQ hX ih σ v1 v2 v3 g1 g2 g3 h
set_option maxRecDepth 20000 in
theorem a_X16_channelsOf_0 {p : Program} {l : Launch} {e : Env} {R : Room} {s : State} {m : MethodId} {args : Array Value} {below : List Frame} {meth : Method} {c : Code} {D : va_G} {cA : Nat → ClassId} {tys : List (ClassId × FieldType)} {A : Nat → Prop} {n0 s0 : Nat} {QM : State → Prop} {ra : Nat → Nat} {jx : Nat → Nat → Nat} {rm : Nat} {Q : Sg → Int → Prop} {X : Sg → String → Prop} (B : Cx p s m args c cX16_channelsOf 4 RX16 D cA tys A) (hT : Tys cA tys) (hR : Rm R n0 s0) (hFr : 0 ≤ R.frames) (hLw : 0 ≤ R.locals) (hQ : ∀ (pc : Nat) (ls : Array Slot) (σ : Sg) (H : Heap) (locs : List Loc) (r : Int) (gr : rng r), decode cX16_channelsOf pc = .ok (.ireturn, 1) → Hd D cA A s σ H locs → CB n0 s0 σ → Q σ r → RG σ → Shp ra jx rm σ → W p l e R s m args below meth c H locs (gc σ - n0) (gs σ - s0) QM (F0 m pc ls [.int (i32 r)])) (hX : ∀ (σ : Sg) (E : String) (pc : Nat) (lo : List (Nat × Value)) (st : List Value), X σ E → RG σ → Shp ra jx rm σ → JX p l e R s m args below meth c 4 D cA A n0 s0 QM σ E pc lo st) : ∀ (σ : Sg) (v1 : Int) (g1 : rng v1), w_X16_channelsOf_0 ra jx rm Q X σ v1 → RG σ → Shp ra jx rm σ → JJ p l e R s m args below meth c 4 D cA A n0 s0 QM σ 0 [(0, .ref rm), (1, .int (i32 v1))] [] := by
  intro σ v1 g1 h hGσ hS H locs ls hH hl hc
  unfold w_X16_channelsOf_0 at h
  refine lv_iconst (v := i32 0) B.1 B.2.1 dX16_channelsOf_0 (by decide) ?_
  refine lv_istore_n (lv' := [(2, .int (i32 0)), (0, .ref rm), (1, .int (i32 v1))]) B.1 B.2.1 dX16_channelsOf_1 rfl hl (by decide) rfl (fun ls hl => ?_)
  refine lv_iconst (v := i32 0) B.1 B.2.1 dX16_channelsOf_2 (by decide) ?_
  refine lv_istore_n (lv' := [(3, .int (i32 0)), (2, .int (i32 0)), (0, .ref rm), (1, .int (i32 v1))]) B.1 B.2.1 dX16_channelsOf_3 rfl hl (by decide) rfl (fun ls hl => ?_)
  obtain ⟨n9, h⟩ := h
  exact al_X16_channelsOf_4 B hT hR hFr hLw hQ hX n9 _ _ _ _ g1 (by unfold rng; omega) (by unfold rng; omega) h hGσ hS _ _ _ hH (lv_sub (l' := [(0, .ref rm), (1, .int (i32 v1)), (2, .int (i32 0)), (3, .int (i32 0))]) hl [2, 3, 1, 0] rfl) hc
theorem ok_X16_channelsOf {l : Launch} {D : va_G} {cA : Nat → ClassId} {tys : List (ClassId × FieldType)} {A : Nat → Prop} {ra : Nat → Nat} {jx : Nat → Nat → Nat} {rm : Nat} (hT : Tys cA tys) {Q : Sg → Int → Prop} {X : Sg → String → Prop} (σ : Sg) (v1 : Int) (g1 : rng v1) (hG : RG σ) (hS : Shp ra jx rm σ) (h : wp_X16_channelsOf ra jx rm v1 σ Q X) : Ok l D cA tys A yX16_channelsOf (.code yX16_channelsOf cX16_channelsOf 4 (some .int)) 0 0 [.ref rm, .int (i32 v1)] σ (fun σ' w => ∃ r, w = some (.int (i32 r)) ∧ rng r ∧ Q σ' r ∧ RG σ' ∧ Shp ra jx rm σ') (fun σ' E => X σ' E ∧ RG σ' ∧ Shp ra jx rm σ') := by
  refine ok_of (ret := (some .int)) (by decide) (Nat.le_of_ble_eq_true rfl) ?_
  intro p e R s m args below meth c hRR B hr hlocks hex _
  have B : Cx p s m args c cX16_channelsOf 4 RX16 D cA tys A := B
  have hR : Rm R (gc σ) (gs σ) := by rw [hRR]; exact ⟨rfl, rfl⟩
  unfold wp_X16_channelsOf at h
  intro H locs ls hH hl hc
  have hX : ∀ (σ9 : Sg) (E : String) (pc : Nat) (lo : List (Nat × Value)) (st : List Value), X σ9 E → RG σ9 → Shp ra jx rm σ9 → JX p l e R s m args below meth c 4 D cA A (gc σ) (gs σ) (vx_MQ below (Qw D cA A σ (fun σ' w => ∃ r, w = some (.int (i32 r)) ∧ rng r ∧ Q σ' r ∧ RG σ' ∧ Shp ra jx rm σ')) (Xw D cA A σ (fun σ' E => X σ' E ∧ RG σ' ∧ Shp ra jx rm σ')) args s (BC - gc σ) (BS - gs σ) A) σ9 E pc lo st := fun σ9 E pc lo st hx hG9 hS9 H locs ls ce q hH hl hc hce hcv hcl => e_out hH hc (fun x hx9 => (hex x hx9).elim) hlocks hce hcv hcl ⟨hx, hG9, hS9⟩
  exact a_X16_channelsOf_0 B hT hR (by rw [hRR]; exact Nat.le_refl _) (by rw [hRR]; exact Nat.le_refl _) (fun pc ls σ9 H locs r gr hd hH hc hq hG9 hS9 => e_iret B hH hc hr rfl hlocks ⟨r, rfl, gr, hq, hG9, hS9⟩ hd) hX σ v1 g1 h hG hS H locs ls hH (lv_sub (l' := [(0, .ref rm), (1, .int (i32 v1))]) hl [0, 1] rfl) hc
theorem dX16_crash_0 : decode cX16_crash 0 = .ok (.aload_n 0, 1) := by decide +kernel
theorem dX16_crash_1 : decode cX16_crash 1 = .ok (.aload_n 0, 1) := by decide +kernel
theorem dX16_crash_2 : decode cX16_crash 2 = .ok (.getfield 688, 3) := by decide +kernel
theorem dX16_crash_5 : decode cX16_crash 5 = .ok (.ifCond .eq 7, 3) := by decide +kernel
theorem dX16_crash_8 : decode cX16_crash 8 = .ok (.iconst 1, 1) := by decide +kernel
theorem dX16_crash_9 : decode cX16_crash 9 = .ok (.goto 13, 3) := by decide +kernel
theorem dX16_crash_12 : decode cX16_crash 12 = .ok (.iload_n 1, 1) := by decide +kernel
theorem dX16_crash_13 : decode cX16_crash 13 = .ok (.iconst (-1), 1) := by decide +kernel
theorem dX16_crash_14 : decode cX16_crash 14 = .ok (.if_icmp .ge 7, 3) := by decide +kernel
theorem dX16_crash_17 : decode cX16_crash 17 = .ok (.iconst 2, 1) := by decide +kernel
theorem dX16_crash_18 : decode cX16_crash 18 = .ok (.goto 4, 3) := by decide +kernel
theorem dX16_crash_21 : decode cX16_crash 21 = .ok (.iconst 0, 1) := by decide +kernel
theorem dX16_crash_22 : decode cX16_crash 22 = .ok (.putfield 1, 3) := by decide +kernel
theorem dX16_crash_25 : decode cX16_crash 25 = .ok (.aload_n 0, 1) := by decide +kernel
theorem dX16_crash_26 : decode cX16_crash 26 = .ok (.getfield 1, 3) := by decide +kernel
theorem dX16_crash_29 : decode cX16_crash 29 = .ok (.ifCond .ne 8, 3) := by decide +kernel
theorem dX16_crash_32 : decode cX16_crash 32 = .ok (.aload_n 0, 1) := by decide +kernel
theorem dX16_crash_33 : decode cX16_crash 33 = .ok (.iload_n 1, 1) := by decide +kernel
theorem dX16_crash_34 : decode cX16_crash 34 = .ok (.putfield 685, 3) := by decide +kernel
theorem dX16_crash_37 : decode cX16_crash 37 = .ok (.return_, 1) := by decide +kernel
set_option maxRecDepth 20000 in
theorem a_X16_crash_37 {p : Program} {l : Launch} {e : Env} {R : Room} {s : State} {m : MethodId} {args : Array Value} {below : List Frame} {meth : Method} {c : Code} {D : va_G} {cA : Nat → ClassId} {tys : List (ClassId × FieldType)} {A : Nat → Prop} {n0 s0 : Nat} {QM : State → Prop} {ra : Nat → Nat} {jx : Nat → Nat → Nat} {rm : Nat} {Q : Sg → Unit → Prop} {X : Sg → String → Prop} (B : Cx p s m args c cX16_crash 2 RX16 D cA tys A) (hT : Tys cA tys) (hR : Rm R n0 s0) (hFr : 0 ≤ R.frames) (hLw : 0 ≤ R.locals) (hQ : ∀ (pc : Nat) (ls : Array Slot) (σ : Sg) (H : Heap) (locs : List Loc), decode cX16_crash pc = .ok (.return_, 1) → Hd D cA A s σ H locs → CB n0 s0 σ → Q σ () → RG σ → Shp ra jx rm σ → W p l e R s m args below meth c H locs (gc σ - n0) (gs σ - s0) QM (F0 m pc ls [])) (hX : ∀ (σ : Sg) (E : String) (pc : Nat) (lo : List (Nat × Value)) (st : List Value), X σ E → RG σ → Shp ra jx rm σ → JX p l e R s m args below meth c 2 D cA A n0 s0 QM σ E pc lo st) : ∀ (σ : Sg), w_X16_crash_37 ra jx rm Q X σ → RG σ → Shp ra jx rm σ → JJ p l e R s m args below meth c 2 D cA A n0 s0 QM σ 37 [(0, .ref rm)] [] := by
  intro σ h hGσ hS H locs ls hH hl hc
  unfold w_X16_crash_37 at h
  exact hQ _ _ _ _ _ dX16_crash_37 hH hc h hGσ hS
set_option maxRecDepth 20000 in
theorem a_X16_crash_32 {p : Program} {l : Launch} {e : Env} {R : Room} {s : State} {m : MethodId} {args : Array Value} {below : List Frame} {meth : Method} {c : Code} {D : va_G} {cA : Nat → ClassId} {tys : List (ClassId × FieldType)} {A : Nat → Prop} {n0 s0 : Nat} {QM : State → Prop} {ra : Nat → Nat} {jx : Nat → Nat → Nat} {rm : Nat} {Q : Sg → Unit → Prop} {X : Sg → String → Prop} (B : Cx p s m args c cX16_crash 2 RX16 D cA tys A) (hT : Tys cA tys) (hR : Rm R n0 s0) (hFr : 0 ≤ R.frames) (hLw : 0 ≤ R.locals) (hQ : ∀ (pc : Nat) (ls : Array Slot) (σ : Sg) (H : Heap) (locs : List Loc), decode cX16_crash pc = .ok (.return_, 1) → Hd D cA A s σ H locs → CB n0 s0 σ → Q σ () → RG σ → Shp ra jx rm σ → W p l e R s m args below meth c H locs (gc σ - n0) (gs σ - s0) QM (F0 m pc ls [])) (hX : ∀ (σ : Sg) (E : String) (pc : Nat) (lo : List (Nat × Value)) (st : List Value), X σ E → RG σ → Shp ra jx rm σ → JX p l e R s m args below meth c 2 D cA A n0 s0 QM σ E pc lo st) : ∀ (σ : Sg) (v1 : Int) (g1 : rng v1), w_X16_crash_32 ra jx rm Q X σ v1 → RG σ → Shp ra jx rm σ → JJ p l e R s m args below meth c 2 D cA A n0 s0 QM σ 32 [(0, .ref rm), (1, .int (i32 v1))] [] := by
  intro σ v1 g1 h hGσ hS H locs ls hH hl hc
  unfold w_X16_crash_32 at h
  refine lv_aload_n B.1 B.2.1 dX16_crash_32 rfl (lv_at hl 0 rfl) ?_
  refine lv_iload_n B.1 B.2.1 dX16_crash_33 rfl (lv_at hl 1 rfl) ?_
  obtain ⟨σ5, eσ5⟩ : ∃ z, z = pI σ rm 96 v1 := ⟨_, rfl⟩
  have h := h σ5 eσ5
  refine r_puti B hH hS 96 (ty := .int) (by decide) wf_X16_685 rfl rfl (by decide) rfl rfl rfl dX16_crash_34 (fun H locs hH => ?_)
  have hH : Hd D cA A s (pI σ rm 96 v1) H locs := hH
  rw [← eσ5] at hH
  have hGσ5 : RG σ5 := by rw [eσ5]; exact hGσ.pI g1
  have hS : Shp ra jx rm σ5 := by rw [eσ5]; exact hS
  have hc : CB n0 s0 σ5 := by rw [eσ5]; exact hc
  rw [show gc σ = gc σ5 by rw [eσ5], show gs σ = gs σ5 by rw [eσ5]]
  exact a_X16_crash_37 B hT hR hFr hLw hQ hX _ h hGσ5 hS _ _ _ hH (lv_sub (l' := [(0, .ref rm)]) hl [0] rfl) hc
set_option maxRecDepth 20000 in
theorem a_X16_crash_22 {p : Program} {l : Launch} {e : Env} {R : Room} {s : State} {m : MethodId} {args : Array Value} {below : List Frame} {meth : Method} {c : Code} {D : va_G} {cA : Nat → ClassId} {tys : List (ClassId × FieldType)} {A : Nat → Prop} {n0 s0 : Nat} {QM : State → Prop} {ra : Nat → Nat} {jx : Nat → Nat → Nat} {rm : Nat} {Q : Sg → Unit → Prop} {X : Sg → String → Prop} (B : Cx p s m args c cX16_crash 2 RX16 D cA tys A) (hT : Tys cA tys) (hR : Rm R n0 s0) (hFr : 0 ≤ R.frames) (hLw : 0 ≤ R.locals) (hQ : ∀ (pc : Nat) (ls : Array Slot) (σ : Sg) (H : Heap) (locs : List Loc), decode cX16_crash pc = .ok (.return_, 1) → Hd D cA A s σ H locs → CB n0 s0 σ → Q σ () → RG σ → Shp ra jx rm σ → W p l e R s m args below meth c H locs (gc σ - n0) (gs σ - s0) QM (F0 m pc ls [])) (hX : ∀ (σ : Sg) (E : String) (pc : Nat) (lo : List (Nat × Value)) (st : List Value), X σ E → RG σ → Shp ra jx rm σ → JX p l e R s m args below meth c 2 D cA A n0 s0 QM σ E pc lo st) : ∀ (σ : Sg) (v1 : Int) (u0 : Int) (g1 : rng v1) (gu0 : rng u0), w_X16_crash_22 ra jx rm Q X σ v1 u0 → RG σ → Shp ra jx rm σ → JJ p l e R s m args below meth c 2 D cA A n0 s0 QM σ 22 [(0, .ref rm), (1, .int (i32 v1))] [.int (i32 u0), .ref rm] := by
  intro σ v1 u0 g1 gu0 h hGσ hS H locs ls hH hl hc
  unfold w_X16_crash_22 at h
  obtain ⟨σ6, eσ6⟩ : ∃ z, z = pI σ rm 0 u0 := ⟨_, rfl⟩
  have h := h σ6 eσ6
  refine r_puti B hH hS 0 (ty := .int) (by decide) wf_X16_1 rfl rfl (by decide) rfl rfl rfl dX16_crash_22 (fun H locs hH => ?_)
  have hH : Hd D cA A s (pI σ rm 0 u0) H locs := hH
  rw [← eσ6] at hH
  have hGσ6 : RG σ6 := by rw [eσ6]; exact hGσ.pI gu0
  have hS : Shp ra jx rm σ6 := by rw [eσ6]; exact hS
  have hc : CB n0 s0 σ6 := by rw [eσ6]; exact hc
  rw [show gc σ = gc σ6 by rw [eσ6], show gs σ = gs σ6 by rw [eσ6]]
  refine lv_aload_n B.1 B.2.1 dX16_crash_25 rfl (lv_at hl 0 rfl) ?_
  refine r_geti B hH hS 0 (by decide) wf_X16_1 rfl (by decide) dX16_crash_26 ?_
  refine lv_if_ne (tgt := 37) B.1 B.2.1 dX16_crash_29 (by decide) (fun h9 => ?_) (fun h9 => ?_)
  · rw [if_pos (fun q => h9 ((z_eq (hGσ6 _ _)).mpr q))] at h
    exact a_X16_crash_37 B hT hR hFr hLw hQ hX _ h hGσ6 hS _ _ _ hH (lv_sub (l' := [(0, .ref rm)]) hl [0] rfl) hc
  · rw [if_neg (fun q => q ((z_eq (hGσ6 _ _)).mp h9))] at h
    exact a_X16_crash_32 B hT hR hFr hLw hQ hX _ _ g1 h hGσ6 hS _ _ _ hH (lv_sub (l' := [(0, .ref rm), (1, .int (i32 v1))]) hl [0, 1] rfl) hc
set_option maxRecDepth 20000 in
theorem a_X16_crash_21 {p : Program} {l : Launch} {e : Env} {R : Room} {s : State} {m : MethodId} {args : Array Value} {below : List Frame} {meth : Method} {c : Code} {D : va_G} {cA : Nat → ClassId} {tys : List (ClassId × FieldType)} {A : Nat → Prop} {n0 s0 : Nat} {QM : State → Prop} {ra : Nat → Nat} {jx : Nat → Nat → Nat} {rm : Nat} {Q : Sg → Unit → Prop} {X : Sg → String → Prop} (B : Cx p s m args c cX16_crash 2 RX16 D cA tys A) (hT : Tys cA tys) (hR : Rm R n0 s0) (hFr : 0 ≤ R.frames) (hLw : 0 ≤ R.locals) (hQ : ∀ (pc : Nat) (ls : Array Slot) (σ : Sg) (H : Heap) (locs : List Loc), decode cX16_crash pc = .ok (.return_, 1) → Hd D cA A s σ H locs → CB n0 s0 σ → Q σ () → RG σ → Shp ra jx rm σ → W p l e R s m args below meth c H locs (gc σ - n0) (gs σ - s0) QM (F0 m pc ls [])) (hX : ∀ (σ : Sg) (E : String) (pc : Nat) (lo : List (Nat × Value)) (st : List Value), X σ E → RG σ → Shp ra jx rm σ → JX p l e R s m args below meth c 2 D cA A n0 s0 QM σ E pc lo st) : ∀ (σ : Sg) (v1 : Int) (g1 : rng v1), w_X16_crash_21 ra jx rm Q X σ v1 → RG σ → Shp ra jx rm σ → JJ p l e R s m args below meth c 2 D cA A n0 s0 QM σ 21 [(0, .ref rm), (1, .int (i32 v1))] [.ref rm] := by
  intro σ v1 g1 h hGσ hS H locs ls hH hl hc
  unfold w_X16_crash_21 at h
  refine lv_iconst (v := i32 0) B.1 B.2.1 dX16_crash_21 (by decide) ?_
  exact a_X16_crash_22 B hT hR hFr hLw hQ hX _ _ _ g1 (by unfold rng; omega) h hGσ hS _ _ _ hH (lv_sub (l' := [(0, .ref rm), (1, .int (i32 v1))]) hl [0, 1] rfl) hc
set_option maxRecDepth 20000 in
theorem a_X16_crash_17 {p : Program} {l : Launch} {e : Env} {R : Room} {s : State} {m : MethodId} {args : Array Value} {below : List Frame} {meth : Method} {c : Code} {D : va_G} {cA : Nat → ClassId} {tys : List (ClassId × FieldType)} {A : Nat → Prop} {n0 s0 : Nat} {QM : State → Prop} {ra : Nat → Nat} {jx : Nat → Nat → Nat} {rm : Nat} {Q : Sg → Unit → Prop} {X : Sg → String → Prop} (B : Cx p s m args c cX16_crash 2 RX16 D cA tys A) (hT : Tys cA tys) (hR : Rm R n0 s0) (hFr : 0 ≤ R.frames) (hLw : 0 ≤ R.locals) (hQ : ∀ (pc : Nat) (ls : Array Slot) (σ : Sg) (H : Heap) (locs : List Loc), decode cX16_crash pc = .ok (.return_, 1) → Hd D cA A s σ H locs → CB n0 s0 σ → Q σ () → RG σ → Shp ra jx rm σ → W p l e R s m args below meth c H locs (gc σ - n0) (gs σ - s0) QM (F0 m pc ls [])) (hX : ∀ (σ : Sg) (E : String) (pc : Nat) (lo : List (Nat × Value)) (st : List Value), X σ E → RG σ → Shp ra jx rm σ → JX p l e R s m args below meth c 2 D cA A n0 s0 QM σ E pc lo st) : ∀ (σ : Sg) (v1 : Int) (g1 : rng v1), w_X16_crash_17 ra jx rm Q X σ v1 → RG σ → Shp ra jx rm σ → JJ p l e R s m args below meth c 2 D cA A n0 s0 QM σ 17 [(0, .ref rm), (1, .int (i32 v1))] [.ref rm] := by
  intro σ v1 g1 h hGσ hS H locs ls hH hl hc
  unfold w_X16_crash_17 at h
  refine lv_iconst (v := i32 2) B.1 B.2.1 dX16_crash_17 (by decide) ?_
  refine lv_goto (tgt := 22) B.1 B.2.1 dX16_crash_18 (by decide) ?_
  exact a_X16_crash_22 B hT hR hFr hLw hQ hX _ _ _ g1 (by unfold rng; omega) h hGσ hS _ _ _ hH (lv_sub (l' := [(0, .ref rm), (1, .int (i32 v1))]) hl [0, 1] rfl) hc
set_option maxRecDepth 20000 in
theorem a_X16_crash_12 {p : Program} {l : Launch} {e : Env} {R : Room} {s : State} {m : MethodId} {args : Array Value} {below : List Frame} {meth : Method} {c : Code} {D : va_G} {cA : Nat → ClassId} {tys : List (ClassId × FieldType)} {A : Nat → Prop} {n0 s0 : Nat} {QM : State → Prop} {ra : Nat → Nat} {jx : Nat → Nat → Nat} {rm : Nat} {Q : Sg → Unit → Prop} {X : Sg → String → Prop} (B : Cx p s m args c cX16_crash 2 RX16 D cA tys A) (hT : Tys cA tys) (hR : Rm R n0 s0) (hFr : 0 ≤ R.frames) (hLw : 0 ≤ R.locals) (hQ : ∀ (pc : Nat) (ls : Array Slot) (σ : Sg) (H : Heap) (locs : List Loc), decode cX16_crash pc = .ok (.return_, 1) → Hd D cA A s σ H locs → CB n0 s0 σ → Q σ () → RG σ → Shp ra jx rm σ → W p l e R s m args below meth c H locs (gc σ - n0) (gs σ - s0) QM (F0 m pc ls [])) (hX : ∀ (σ : Sg) (E : String) (pc : Nat) (lo : List (Nat × Value)) (st : List Value), X σ E → RG σ → Shp ra jx rm σ → JX p l e R s m args below meth c 2 D cA A n0 s0 QM σ E pc lo st) : ∀ (σ : Sg) (v1 : Int) (g1 : rng v1), w_X16_crash_12 ra jx rm Q X σ v1 → RG σ → Shp ra jx rm σ → JJ p l e R s m args below meth c 2 D cA A n0 s0 QM σ 12 [(0, .ref rm), (1, .int (i32 v1))] [.ref rm] := by
  intro σ v1 g1 h hGσ hS H locs ls hH hl hc
  unfold w_X16_crash_12 at h
  refine lv_iload_n B.1 B.2.1 dX16_crash_12 rfl (lv_at hl 1 rfl) ?_
  refine lv_iconst (v := i32 (-1)) B.1 B.2.1 dX16_crash_13 (by decide) ?_
  refine lv_icmp_ge (tgt := 21) B.1 B.2.1 dX16_crash_14 (by decide) (fun h9 => ?_) (fun h9 => ?_)
  · rw [if_pos ((i32_le (by unfold rng; omega) g1).mp h9)] at h
    exact a_X16_crash_21 B hT hR hFr hLw hQ hX _ _ g1 h hGσ hS _ _ _ hH (lv_sub (l' := [(0, .ref rm), (1, .int (i32 v1))]) hl [0, 1] rfl) hc
  · rw [if_neg (fun q => h9 ((i32_le (by unfold rng; omega) g1).mpr q))] at h
    exact a_X16_crash_17 B hT hR hFr hLw hQ hX _ _ g1 h hGσ hS _ _ _ hH (lv_sub (l' := [(0, .ref rm), (1, .int (i32 v1))]) hl [0, 1] rfl) hc
set_option maxRecDepth 20000 in
theorem a_X16_crash_8 {p : Program} {l : Launch} {e : Env} {R : Room} {s : State} {m : MethodId} {args : Array Value} {below : List Frame} {meth : Method} {c : Code} {D : va_G} {cA : Nat → ClassId} {tys : List (ClassId × FieldType)} {A : Nat → Prop} {n0 s0 : Nat} {QM : State → Prop} {ra : Nat → Nat} {jx : Nat → Nat → Nat} {rm : Nat} {Q : Sg → Unit → Prop} {X : Sg → String → Prop} (B : Cx p s m args c cX16_crash 2 RX16 D cA tys A) (hT : Tys cA tys) (hR : Rm R n0 s0) (hFr : 0 ≤ R.frames) (hLw : 0 ≤ R.locals) (hQ : ∀ (pc : Nat) (ls : Array Slot) (σ : Sg) (H : Heap) (locs : List Loc), decode cX16_crash pc = .ok (.return_, 1) → Hd D cA A s σ H locs → CB n0 s0 σ → Q σ () → RG σ → Shp ra jx rm σ → W p l e R s m args below meth c H locs (gc σ - n0) (gs σ - s0) QM (F0 m pc ls [])) (hX : ∀ (σ : Sg) (E : String) (pc : Nat) (lo : List (Nat × Value)) (st : List Value), X σ E → RG σ → Shp ra jx rm σ → JX p l e R s m args below meth c 2 D cA A n0 s0 QM σ E pc lo st) : ∀ (σ : Sg) (v1 : Int) (g1 : rng v1), w_X16_crash_8 ra jx rm Q X σ v1 → RG σ → Shp ra jx rm σ → JJ p l e R s m args below meth c 2 D cA A n0 s0 QM σ 8 [(0, .ref rm), (1, .int (i32 v1))] [.ref rm] := by
  intro σ v1 g1 h hGσ hS H locs ls hH hl hc
  unfold w_X16_crash_8 at h
  refine lv_iconst (v := i32 1) B.1 B.2.1 dX16_crash_8 (by decide) ?_
  refine lv_goto (tgt := 22) B.1 B.2.1 dX16_crash_9 (by decide) ?_
  exact a_X16_crash_22 B hT hR hFr hLw hQ hX _ _ _ g1 (by unfold rng; omega) h hGσ hS _ _ _ hH (lv_sub (l' := [(0, .ref rm), (1, .int (i32 v1))]) hl [0, 1] rfl) hc
set_option maxRecDepth 20000 in
theorem a_X16_crash_0 {p : Program} {l : Launch} {e : Env} {R : Room} {s : State} {m : MethodId} {args : Array Value} {below : List Frame} {meth : Method} {c : Code} {D : va_G} {cA : Nat → ClassId} {tys : List (ClassId × FieldType)} {A : Nat → Prop} {n0 s0 : Nat} {QM : State → Prop} {ra : Nat → Nat} {jx : Nat → Nat → Nat} {rm : Nat} {Q : Sg → Unit → Prop} {X : Sg → String → Prop} (B : Cx p s m args c cX16_crash 2 RX16 D cA tys A) (hT : Tys cA tys) (hR : Rm R n0 s0) (hFr : 0 ≤ R.frames) (hLw : 0 ≤ R.locals) (hQ : ∀ (pc : Nat) (ls : Array Slot) (σ : Sg) (H : Heap) (locs : List Loc), decode cX16_crash pc = .ok (.return_, 1) → Hd D cA A s σ H locs → CB n0 s0 σ → Q σ () → RG σ → Shp ra jx rm σ → W p l e R s m args below meth c H locs (gc σ - n0) (gs σ - s0) QM (F0 m pc ls [])) (hX : ∀ (σ : Sg) (E : String) (pc : Nat) (lo : List (Nat × Value)) (st : List Value), X σ E → RG σ → Shp ra jx rm σ → JX p l e R s m args below meth c 2 D cA A n0 s0 QM σ E pc lo st) : ∀ (σ : Sg) (v1 : Int) (g1 : rng v1), w_X16_crash_0 ra jx rm Q X σ v1 → RG σ → Shp ra jx rm σ → JJ p l e R s m args below meth c 2 D cA A n0 s0 QM σ 0 [(0, .ref rm), (1, .int (i32 v1))] [] := by
  intro σ v1 g1 h hGσ hS H locs ls hH hl hc
  unfold w_X16_crash_0 at h
  refine lv_aload_n B.1 B.2.1 dX16_crash_0 rfl (lv_at hl 0 rfl) ?_
  refine lv_aload_n B.1 B.2.1 dX16_crash_1 rfl (lv_at hl 0 rfl) ?_
  refine r_geti B hH hS 32 (by decide) wf_X16_688 rfl (by decide) dX16_crash_2 ?_
  refine lv_if_eq (tgt := 12) B.1 B.2.1 dX16_crash_5 (by decide) (fun h9 => ?_) (fun h9 => ?_)
  · rw [if_pos ((z_eq (hGσ _ _)).mp h9)] at h
    exact a_X16_crash_12 B hT hR hFr hLw hQ hX _ _ g1 h hGσ hS _ _ _ hH (lv_sub (l' := [(0, .ref rm), (1, .int (i32 v1))]) hl [0, 1] rfl) hc
  · rw [if_neg (fun q => h9 ((z_eq (hGσ _ _)).mpr q))] at h
    exact a_X16_crash_8 B hT hR hFr hLw hQ hX _ _ g1 h hGσ hS _ _ _ hH (lv_sub (l' := [(0, .ref rm), (1, .int (i32 v1))]) hl [0, 1] rfl) hc
theorem ok_X16_crash {l : Launch} {D : va_G} {cA : Nat → ClassId} {tys : List (ClassId × FieldType)} {A : Nat → Prop} {ra : Nat → Nat} {jx : Nat → Nat → Nat} {rm : Nat} (hT : Tys cA tys) {Q : Sg → Unit → Prop} {X : Sg → String → Prop} (σ : Sg) (v1 : Int) (g1 : rng v1) (hG : RG σ) (hS : Shp ra jx rm σ) (h : wp_X16_crash ra jx rm v1 σ Q X) : Ok l D cA tys A yX16_crash (.code yX16_crash cX16_crash 2 none) 0 0 [.ref rm, .int (i32 v1)] σ (fun σ' w => w = none ∧ Q σ' () ∧ RG σ' ∧ Shp ra jx rm σ') (fun σ' E => X σ' E ∧ RG σ' ∧ Shp ra jx rm σ') := by
  refine ok_of (ret := none) (by decide) (Nat.le_of_ble_eq_true rfl) ?_
  intro p e R s m args below meth c hRR B hr hlocks hex _
  have B : Cx p s m args c cX16_crash 2 RX16 D cA tys A := B
  have hR : Rm R (gc σ) (gs σ) := by rw [hRR]; exact ⟨rfl, rfl⟩
  unfold wp_X16_crash at h
  intro H locs ls hH hl hc
  have hX : ∀ (σ9 : Sg) (E : String) (pc : Nat) (lo : List (Nat × Value)) (st : List Value), X σ9 E → RG σ9 → Shp ra jx rm σ9 → JX p l e R s m args below meth c 2 D cA A (gc σ) (gs σ) (vx_MQ below (Qw D cA A σ (fun σ' w => w = none ∧ Q σ' () ∧ RG σ' ∧ Shp ra jx rm σ')) (Xw D cA A σ (fun σ' E => X σ' E ∧ RG σ' ∧ Shp ra jx rm σ')) args s (BC - gc σ) (BS - gs σ) A) σ9 E pc lo st := fun σ9 E pc lo st hx hG9 hS9 H locs ls ce q hH hl hc hce hcv hcl => e_out hH hc (fun x hx9 => (hex x hx9).elim) hlocks hce hcv hcl ⟨hx, hG9, hS9⟩
  exact a_X16_crash_0 B hT hR (by rw [hRR]; exact Nat.le_refl _) (by rw [hRR]; exact Nat.le_refl _) (fun pc ls σ9 H locs hd hH hc hq hG9 hS9 => e_vret B hH hc hr hlocks ⟨rfl, hq, hG9, hS9⟩ hd) hX σ v1 g1 h hG hS H locs ls hH (lv_sub (l' := [(0, .ref rm), (1, .int (i32 v1))]) hl [0, 1] rfl) hc
theorem dX16_down_0 : decode cX16_down 0 = .ok (.lload_n 0, 1) := by decide +kernel
theorem dX16_down_1 : decode cX16_down 1 = .ok (.lconst 0, 1) := by decide +kernel
theorem dX16_down_2 : decode cX16_down 2 = .ok (.lcmp, 1) := by decide +kernel
theorem dX16_down_3 : decode cX16_down 3 = .ok (.ifCond .lt 9, 3) := by decide +kernel
theorem dX16_down_6 : decode cX16_down 6 = .ok (.lload_n 0, 1) := by decide +kernel
theorem dX16_down_7 : decode cX16_down 7 = .ok (.lload_n 2, 1) := by decide +kernel
theorem dX16_down_8 : decode cX16_down 8 = .ok (.ldiv, 1) := by decide +kernel
theorem dX16_down_9 : decode cX16_down 9 = .ok (.goto 12, 3) := by decide +kernel
theorem dX16_down_12 : decode cX16_down 12 = .ok (.lload_n 0, 1) := by decide +kernel
theorem dX16_down_13 : decode cX16_down 13 = .ok (.lneg, 1) := by decide +kernel
theorem dX16_down_14 : decode cX16_down 14 = .ok (.lload_n 2, 1) := by decide +kernel
theorem dX16_down_15 : decode cX16_down 15 = .ok (.ladd, 1) := by decide +kernel
theorem dX16_down_16 : decode cX16_down 16 = .ok (.lconst 1, 1) := by decide +kernel
theorem dX16_down_17 : decode cX16_down 17 = .ok (.lsub, 1) := by decide +kernel
theorem dX16_down_18 : decode cX16_down 18 = .ok (.lload_n 2, 1) := by decide +kernel
theorem dX16_down_19 : decode cX16_down 19 = .ok (.ldiv, 1) := by decide +kernel
theorem dX16_down_20 : decode cX16_down 20 = .ok (.lneg, 1) := by decide +kernel
theorem dX16_down_21 : decode cX16_down 21 = .ok (.lreturn, 1) := by decide +kernel
set_option maxRecDepth 20000 in
theorem a_X16_down_21 {p : Program} {l : Launch} {e : Env} {R : Room} {s : State} {m : MethodId} {args : Array Value} {below : List Frame} {meth : Method} {c : Code} {D : va_G} {cA : Nat → ClassId} {tys : List (ClassId × FieldType)} {A : Nat → Prop} {n0 s0 : Nat} {QM : State → Prop} {ra : Nat → Nat} {jx : Nat → Nat → Nat} {rm : Nat} {Q : Sg → Int64 → Prop} {X : Sg → String → Prop} (B : Cx p s m args c cX16_down 4 RX16 D cA tys A) (hT : Tys cA tys) (hR : Rm R n0 s0) (hFr : 0 ≤ R.frames) (hLw : 0 ≤ R.locals) (hQ : ∀ (pc : Nat) (ls : Array Slot) (σ : Sg) (H : Heap) (locs : List Loc) (r : Int64), decode cX16_down pc = .ok (.lreturn, 1) → Hd D cA A s σ H locs → CB n0 s0 σ → Q σ r → RG σ → Shp ra jx rm σ → W p l e R s m args below meth c H locs (gc σ - n0) (gs σ - s0) QM (F0 m pc ls [.long r])) (hX : ∀ (σ : Sg) (E : String) (pc : Nat) (lo : List (Nat × Value)) (st : List Value), X σ E → RG σ → Shp ra jx rm σ → JX p l e R s m args below meth c 4 D cA A n0 s0 QM σ E pc lo st) : ∀ (σ : Sg) (u0 : Int64), w_X16_down_21 ra jx rm Q X σ u0 → RG σ → Shp ra jx rm σ → JJ p l e R s m args below meth c 4 D cA A n0 s0 QM σ 21 [] [.long u0] := by
  intro σ u0 h hGσ hS H locs ls hH hl hc
  unfold w_X16_down_21 at h
  exact hQ _ _ _ _ _ _ dX16_down_21 hH hc h hGσ hS
set_option maxRecDepth 20000 in
theorem a_X16_down_12 {p : Program} {l : Launch} {e : Env} {R : Room} {s : State} {m : MethodId} {args : Array Value} {below : List Frame} {meth : Method} {c : Code} {D : va_G} {cA : Nat → ClassId} {tys : List (ClassId × FieldType)} {A : Nat → Prop} {n0 s0 : Nat} {QM : State → Prop} {ra : Nat → Nat} {jx : Nat → Nat → Nat} {rm : Nat} {Q : Sg → Int64 → Prop} {X : Sg → String → Prop} (B : Cx p s m args c cX16_down 4 RX16 D cA tys A) (hT : Tys cA tys) (hR : Rm R n0 s0) (hFr : 0 ≤ R.frames) (hLw : 0 ≤ R.locals) (hQ : ∀ (pc : Nat) (ls : Array Slot) (σ : Sg) (H : Heap) (locs : List Loc) (r : Int64), decode cX16_down pc = .ok (.lreturn, 1) → Hd D cA A s σ H locs → CB n0 s0 σ → Q σ r → RG σ → Shp ra jx rm σ → W p l e R s m args below meth c H locs (gc σ - n0) (gs σ - s0) QM (F0 m pc ls [.long r])) (hX : ∀ (σ : Sg) (E : String) (pc : Nat) (lo : List (Nat × Value)) (st : List Value), X σ E → RG σ → Shp ra jx rm σ → JX p l e R s m args below meth c 4 D cA A n0 s0 QM σ E pc lo st) : ∀ (σ : Sg) (v0 : Int64) (v2 : Int64), w_X16_down_12 ra jx rm Q X σ v0 v2 → RG σ → Shp ra jx rm σ → JJ p l e R s m args below meth c 4 D cA A n0 s0 QM σ 12 [(0, .long v0), (2, .long v2)] [] := by
  intro σ v0 v2 h hGσ hS H locs ls hH hl hc
  unfold w_X16_down_12 at h
  refine lv_lload_n B.1 B.2.1 dX16_down_12 rfl (lv_at hl 0 rfl) ?_
  refine lv_lneg B.1 B.2.1 dX16_down_13 ?_
  refine lv_lload_n B.1 B.2.1 dX16_down_14 rfl (lv_at hl 1 rfl) ?_
  refine lv_ladd B.1 B.2.1 dX16_down_15 ?_
  refine lv_lconst (v := 1) B.1 B.2.1 dX16_down_16 (by decide) ?_
  refine lv_lsub B.1 B.2.1 dX16_down_17 ?_
  refine lv_lload_n B.1 B.2.1 dX16_down_18 rfl (lv_at hl 1 rfl) ?_
  obtain ⟨q1, h⟩ := h
  refine lv_ldiv B.1 B.2.1 dX16_down_19 q1 ?_
  refine lv_lneg B.1 B.2.1 dX16_down_20 ?_
  exact a_X16_down_21 B hT hR hFr hLw hQ hX _ _ h hGσ hS _ _ _ hH (lv_sub (l' := []) hl [] rfl) hc
set_option maxRecDepth 20000 in
theorem a_X16_down_6 {p : Program} {l : Launch} {e : Env} {R : Room} {s : State} {m : MethodId} {args : Array Value} {below : List Frame} {meth : Method} {c : Code} {D : va_G} {cA : Nat → ClassId} {tys : List (ClassId × FieldType)} {A : Nat → Prop} {n0 s0 : Nat} {QM : State → Prop} {ra : Nat → Nat} {jx : Nat → Nat → Nat} {rm : Nat} {Q : Sg → Int64 → Prop} {X : Sg → String → Prop} (B : Cx p s m args c cX16_down 4 RX16 D cA tys A) (hT : Tys cA tys) (hR : Rm R n0 s0) (hFr : 0 ≤ R.frames) (hLw : 0 ≤ R.locals) (hQ : ∀ (pc : Nat) (ls : Array Slot) (σ : Sg) (H : Heap) (locs : List Loc) (r : Int64), decode cX16_down pc = .ok (.lreturn, 1) → Hd D cA A s σ H locs → CB n0 s0 σ → Q σ r → RG σ → Shp ra jx rm σ → W p l e R s m args below meth c H locs (gc σ - n0) (gs σ - s0) QM (F0 m pc ls [.long r])) (hX : ∀ (σ : Sg) (E : String) (pc : Nat) (lo : List (Nat × Value)) (st : List Value), X σ E → RG σ → Shp ra jx rm σ → JX p l e R s m args below meth c 4 D cA A n0 s0 QM σ E pc lo st) : ∀ (σ : Sg) (v0 : Int64) (v2 : Int64), w_X16_down_6 ra jx rm Q X σ v0 v2 → RG σ → Shp ra jx rm σ → JJ p l e R s m args below meth c 4 D cA A n0 s0 QM σ 6 [(0, .long v0), (2, .long v2)] [] := by
  intro σ v0 v2 h hGσ hS H locs ls hH hl hc
  unfold w_X16_down_6 at h
  refine lv_lload_n B.1 B.2.1 dX16_down_6 rfl (lv_at hl 0 rfl) ?_
  refine lv_lload_n B.1 B.2.1 dX16_down_7 rfl (lv_at hl 1 rfl) ?_
  obtain ⟨q1, h⟩ := h
  refine lv_ldiv B.1 B.2.1 dX16_down_8 q1 ?_
  refine lv_goto (tgt := 21) B.1 B.2.1 dX16_down_9 (by decide) ?_
  exact a_X16_down_21 B hT hR hFr hLw hQ hX _ _ h hGσ hS _ _ _ hH (lv_sub (l' := []) hl [] rfl) hc
set_option maxRecDepth 20000 in
theorem a_X16_down_0 {p : Program} {l : Launch} {e : Env} {R : Room} {s : State} {m : MethodId} {args : Array Value} {below : List Frame} {meth : Method} {c : Code} {D : va_G} {cA : Nat → ClassId} {tys : List (ClassId × FieldType)} {A : Nat → Prop} {n0 s0 : Nat} {QM : State → Prop} {ra : Nat → Nat} {jx : Nat → Nat → Nat} {rm : Nat} {Q : Sg → Int64 → Prop} {X : Sg → String → Prop} (B : Cx p s m args c cX16_down 4 RX16 D cA tys A) (hT : Tys cA tys) (hR : Rm R n0 s0) (hFr : 0 ≤ R.frames) (hLw : 0 ≤ R.locals) (hQ : ∀ (pc : Nat) (ls : Array Slot) (σ : Sg) (H : Heap) (locs : List Loc) (r : Int64), decode cX16_down pc = .ok (.lreturn, 1) → Hd D cA A s σ H locs → CB n0 s0 σ → Q σ r → RG σ → Shp ra jx rm σ → W p l e R s m args below meth c H locs (gc σ - n0) (gs σ - s0) QM (F0 m pc ls [.long r])) (hX : ∀ (σ : Sg) (E : String) (pc : Nat) (lo : List (Nat × Value)) (st : List Value), X σ E → RG σ → Shp ra jx rm σ → JX p l e R s m args below meth c 4 D cA A n0 s0 QM σ E pc lo st) : ∀ (σ : Sg) (v0 : Int64) (v2 : Int64), w_X16_down_0 ra jx rm Q X σ v0 v2 → RG σ → Shp ra jx rm σ → JJ p l e R s m args below meth c 4 D cA A n0 s0 QM σ 0 [(0, .long v0), (2, .long v2)] [] := by
  intro σ v0 v2 h hGσ hS H locs ls hH hl hc
  unfold w_X16_down_0 at h
  refine lv_lload_n B.1 B.2.1 dX16_down_0 rfl (lv_at hl 0 rfl) ?_
  refine lv_lconst (v := 0) B.1 B.2.1 dX16_down_1 (by decide) ?_
  refine W.lcmp B.1 B.2.1 dX16_down_2 ?_
  refine lv_if_lt (tgt := 12) B.1 B.2.1 dX16_down_3 (by decide) (fun h9 => ?_) (fun h9 => ?_)
  · rw [if_pos ((lg_cmp_lt _ _).mp h9)] at h
    exact a_X16_down_12 B hT hR hFr hLw hQ hX _ _ _ h hGσ hS _ _ _ hH (lv_sub (l' := [(0, .long v0), (2, .long v2)]) hl [0, 1] rfl) hc
  · rw [if_neg (fun q => h9 ((lg_cmp_lt _ _).mpr q))] at h
    exact a_X16_down_6 B hT hR hFr hLw hQ hX _ _ _ h hGσ hS _ _ _ hH (lv_sub (l' := [(0, .long v0), (2, .long v2)]) hl [0, 1] rfl) hc
theorem ok_X16_down {l : Launch} {D : va_G} {cA : Nat → ClassId} {tys : List (ClassId × FieldType)} {A : Nat → Prop} {ra : Nat → Nat} {jx : Nat → Nat → Nat} {rm : Nat} (hT : Tys cA tys) {Q : Sg → Int64 → Prop} {X : Sg → String → Prop} (σ : Sg) (v0 : Int64) (v2 : Int64) (hG : RG σ) (hS : Shp ra jx rm σ) (h : wp_X16_down ra jx rm v0 v2 σ Q X) : Ok l D cA tys A yX16_down (.code yX16_down cX16_down 4 (some .long)) 0 0 [.long v0, .long v2] σ (fun σ' w => ∃ r, w = some (.long r) ∧ Q σ' r ∧ RG σ' ∧ Shp ra jx rm σ') (fun σ' E => X σ' E ∧ RG σ' ∧ Shp ra jx rm σ') := by
  refine ok_of (ret := (some .long)) (by decide) (Nat.le_of_ble_eq_true rfl) ?_
  intro p e R s m args below meth c hRR B hr hlocks hex _
  have B : Cx p s m args c cX16_down 4 RX16 D cA tys A := B
  have hR : Rm R (gc σ) (gs σ) := by rw [hRR]; exact ⟨rfl, rfl⟩
  unfold wp_X16_down at h
  intro H locs ls hH hl hc
  have hX : ∀ (σ9 : Sg) (E : String) (pc : Nat) (lo : List (Nat × Value)) (st : List Value), X σ9 E → RG σ9 → Shp ra jx rm σ9 → JX p l e R s m args below meth c 4 D cA A (gc σ) (gs σ) (vx_MQ below (Qw D cA A σ (fun σ' w => ∃ r, w = some (.long r) ∧ Q σ' r ∧ RG σ' ∧ Shp ra jx rm σ')) (Xw D cA A σ (fun σ' E => X σ' E ∧ RG σ' ∧ Shp ra jx rm σ')) args s (BC - gc σ) (BS - gs σ) A) σ9 E pc lo st := fun σ9 E pc lo st hx hG9 hS9 H locs ls ce q hH hl hc hce hcv hcl => e_out hH hc (fun x hx9 => (hex x hx9).elim) hlocks hce hcv hcl ⟨hx, hG9, hS9⟩
  exact a_X16_down_0 B hT hR (by rw [hRR]; exact Nat.le_refl _) (by rw [hRR]; exact Nat.le_refl _) (fun pc ls σ9 H locs r hd hH hc hq hG9 hS9 => e_lret B hH hc hr hlocks ⟨r, rfl, hq, hG9, hS9⟩ hd) hX σ v0 v2 h hG hS H locs ls hH (lv_sub (l' := [(0, .long v0), (2, .long v2)]) hl [0, 1] rfl) hc
theorem dX16_drop_0 : decode cX16_drop 0 = .ok (.aload_n 0, 1) := by decide +kernel
theorem dX16_drop_1 : decode cX16_drop 1 = .ok (.getfield 516, 3) := by decide +kernel
theorem dX16_drop_4 : decode cX16_drop 4 = .ok (.iload_n 1, 1) := by decide +kernel
theorem dX16_drop_5 : decode cX16_drop 5 = .ok (.iaload, 1) := by decide +kernel
theorem dX16_drop_6 : decode cX16_drop 6 = .ok (.istore_n 2, 1) := by decide +kernel
theorem dX16_drop_7 : decode cX16_drop 7 = .ok (.iconst (-1), 1) := by decide +kernel
theorem dX16_drop_8 : decode cX16_drop 8 = .ok (.istore_n 3, 1) := by decide +kernel
theorem dX16_drop_9 : decode cX16_drop 9 = .ok (.aload_n 0, 1) := by decide +kernel
theorem dX16_drop_10 : decode cX16_drop 10 = .ok (.getfield 504, 3) := by decide +kernel
theorem dX16_drop_13 : decode cX16_drop 13 = .ok (.iload_n 2, 1) := by decide +kernel
theorem dX16_drop_14 : decode cX16_drop 14 = .ok (.iaload, 1) := by decide +kernel
theorem dX16_drop_15 : decode cX16_drop 15 = .ok (.istore 4, 2) := by decide +kernel
theorem dX16_drop_17 : decode cX16_drop 17 = .ok (.iload 4, 2) := by decide +kernel
theorem dX16_drop_19 : decode cX16_drop 19 = .ok (.iload_n 1, 1) := by decide +kernel
theorem dX16_drop_20 : decode cX16_drop 20 = .ok (.if_icmp .eq 18, 3) := by decide +kernel
theorem dX16_drop_23 : decode cX16_drop 23 = .ok (.iload 4, 2) := by decide +kernel
theorem dX16_drop_25 : decode cX16_drop 25 = .ok (.istore_n 3, 1) := by decide +kernel
theorem dX16_drop_26 : decode cX16_drop 26 = .ok (.aload_n 0, 1) := by decide +kernel
theorem dX16_drop_27 : decode cX16_drop 27 = .ok (.getfield 495, 3) := by decide +kernel
theorem dX16_drop_30 : decode cX16_drop 30 = .ok (.iload 4, 2) := by decide +kernel
theorem dX16_drop_32 : decode cX16_drop 32 = .ok (.iaload, 1) := by decide +kernel
theorem dX16_drop_33 : decode cX16_drop 33 = .ok (.istore 4, 2) := by decide +kernel
theorem dX16_drop_35 : decode cX16_drop 35 = .ok (.goto (-18), 3) := by decide +kernel
theorem dX16_drop_38 : decode cX16_drop 38 = .ok (.iload_n 3, 1) := by decide +kernel
theorem dX16_drop_39 : decode cX16_drop 39 = .ok (.iconst (-1), 1) := by decide +kernel
theorem dX16_drop_40 : decode cX16_drop 40 = .ok (.if_icmp .ne 18, 3) := by decide +kernel
theorem dX16_drop_43 : decode cX16_drop 43 = .ok (.aload_n 0, 1) := by decide +kernel
theorem dX16_drop_44 : decode cX16_drop 44 = .ok (.getfield 504, 3) := by decide +kernel
theorem dX16_drop_47 : decode cX16_drop 47 = .ok (.iload_n 2, 1) := by decide +kernel
theorem dX16_drop_48 : decode cX16_drop 48 = .ok (.aload_n 0, 1) := by decide +kernel
theorem dX16_drop_49 : decode cX16_drop 49 = .ok (.getfield 495, 3) := by decide +kernel
theorem dX16_drop_52 : decode cX16_drop 52 = .ok (.iload_n 1, 1) := by decide +kernel
theorem dX16_drop_53 : decode cX16_drop 53 = .ok (.iaload, 1) := by decide +kernel
theorem dX16_drop_54 : decode cX16_drop 54 = .ok (.iastore, 1) := by decide +kernel
theorem dX16_drop_55 : decode cX16_drop 55 = .ok (.goto 15, 3) := by decide +kernel
theorem dX16_drop_58 : decode cX16_drop 58 = .ok (.aload_n 0, 1) := by decide +kernel
theorem dX16_drop_59 : decode cX16_drop 59 = .ok (.getfield 495, 3) := by decide +kernel
theorem dX16_drop_62 : decode cX16_drop 62 = .ok (.iload_n 3, 1) := by decide +kernel
theorem dX16_drop_63 : decode cX16_drop 63 = .ok (.aload_n 0, 1) := by decide +kernel
theorem dX16_drop_64 : decode cX16_drop 64 = .ok (.getfield 495, 3) := by decide +kernel
theorem dX16_drop_67 : decode cX16_drop 67 = .ok (.iload_n 1, 1) := by decide +kernel
theorem dX16_drop_68 : decode cX16_drop 68 = .ok (.iaload, 1) := by decide +kernel
theorem dX16_drop_69 : decode cX16_drop 69 = .ok (.iastore, 1) := by decide +kernel
theorem dX16_drop_70 : decode cX16_drop 70 = .ok (.aload_n 0, 1) := by decide +kernel
theorem dX16_drop_71 : decode cX16_drop 71 = .ok (.getfield 507, 3) := by decide +kernel
theorem dX16_drop_74 : decode cX16_drop 74 = .ok (.iload_n 2, 1) := by decide +kernel
theorem dX16_drop_75 : decode cX16_drop 75 = .ok (.aload_n 0, 1) := by decide +kernel
theorem dX16_drop_76 : decode cX16_drop 76 = .ok (.getfield 507, 3) := by decide +kernel
theorem dX16_drop_79 : decode cX16_drop 79 = .ok (.iload_n 2, 1) := by decide +kernel
theorem dX16_drop_80 : decode cX16_drop 80 = .ok (.iaload, 1) := by decide +kernel
theorem dX16_drop_81 : decode cX16_drop 81 = .ok (.iload_n 1, 1) := by decide +kernel
theorem dX16_drop_82 : decode cX16_drop 82 = .ok (.if_icmp .ne 7, 3) := by decide +kernel
theorem dX16_drop_85 : decode cX16_drop 85 = .ok (.iload_n 3, 1) := by decide +kernel
theorem dX16_drop_86 : decode cX16_drop 86 = .ok (.goto 9, 3) := by decide +kernel
theorem dX16_drop_89 : decode cX16_drop 89 = .ok (.aload_n 0, 1) := by decide +kernel
theorem dX16_drop_90 : decode cX16_drop 90 = .ok (.getfield 507, 3) := by decide +kernel
theorem dX16_drop_93 : decode cX16_drop 93 = .ok (.iload_n 2, 1) := by decide +kernel
theorem dX16_drop_94 : decode cX16_drop 94 = .ok (.iaload, 1) := by decide +kernel
theorem dX16_drop_95 : decode cX16_drop 95 = .ok (.iastore, 1) := by decide +kernel
theorem dX16_drop_96 : decode cX16_drop 96 = .ok (.aload_n 0, 1) := by decide +kernel
theorem dX16_drop_97 : decode cX16_drop 97 = .ok (.getfield 495, 3) := by decide +kernel
theorem dX16_drop_100 : decode cX16_drop 100 = .ok (.iload_n 1, 1) := by decide +kernel
theorem dX16_drop_101 : decode cX16_drop 101 = .ok (.aload_n 0, 1) := by decide +kernel
theorem dX16_drop_102 : decode cX16_drop 102 = .ok (.getfield 498, 3) := by decide +kernel
theorem dX16_drop_105 : decode cX16_drop 105 = .ok (.iastore, 1) := by decide +kernel
theorem dX16_drop_106 : decode cX16_drop 106 = .ok (.aload_n 0, 1) := by decide +kernel
theorem dX16_drop_107 : decode cX16_drop 107 = .ok (.iload_n 1, 1) := by decide +kernel
theorem dX16_drop_108 : decode cX16_drop 108 = .ok (.putfield 498, 3) := by decide +kernel
theorem dX16_drop_111 : decode cX16_drop 111 = .ok (.aload_n 0, 1) := by decide +kernel
theorem dX16_drop_112 : decode cX16_drop 112 = .ok (.getfield 510, 3) := by decide +kernel
theorem dX16_drop_115 : decode cX16_drop 115 = .ok (.iload_n 2, 1) := by decide +kernel
theorem dX16_drop_116 : decode cX16_drop 116 = .ok (.dup2, 1) := by decide +kernel
theorem dX16_drop_117 : decode cX16_drop 117 = .ok (.iaload, 1) := by decide +kernel
theorem dX16_drop_118 : decode cX16_drop 118 = .ok (.iconst 1, 1) := by decide +kernel
theorem dX16_drop_119 : decode cX16_drop 119 = .ok (.isub, 1) := by decide +kernel
theorem dX16_drop_120 : decode cX16_drop 120 = .ok (.iastore, 1) := by decide +kernel
theorem dX16_drop_121 : decode cX16_drop 121 = .ok (.aload_n 0, 1) := by decide +kernel
theorem dX16_drop_122 : decode cX16_drop 122 = .ok (.dup, 1) := by decide +kernel
theorem dX16_drop_123 : decode cX16_drop 123 = .ok (.getfield 501, 3) := by decide +kernel
theorem dX16_drop_126 : decode cX16_drop 126 = .ok (.iconst 1, 1) := by decide +kernel
theorem dX16_drop_127 : decode cX16_drop 127 = .ok (.isub, 1) := by decide +kernel
theorem dX16_drop_128 : decode cX16_drop 128 = .ok (.putfield 501, 3) := by decide +kernel
theorem dX16_drop_131 : decode cX16_drop 131 = .ok (.return_, 1) := by decide +kernel
set_option maxRecDepth 20000 in
theorem a_X16_drop_95 {p : Program} {l : Launch} {e : Env} {R : Room} {s : State} {m : MethodId} {args : Array Value} {below : List Frame} {meth : Method} {c : Code} {D : va_G} {cA : Nat → ClassId} {tys : List (ClassId × FieldType)} {A : Nat → Prop} {n0 s0 : Nat} {QM : State → Prop} {ra : Nat → Nat} {jx : Nat → Nat → Nat} {rm : Nat} {Q : Sg → Unit → Prop} {X : Sg → String → Prop} (B : Cx p s m args c cX16_drop 5 RX16 D cA tys A) (hT : Tys cA tys) (hR : Rm R n0 s0) (hFr : 0 ≤ R.frames) (hLw : 0 ≤ R.locals) (hQ : ∀ (pc : Nat) (ls : Array Slot) (σ : Sg) (H : Heap) (locs : List Loc), decode cX16_drop pc = .ok (.return_, 1) → Hd D cA A s σ H locs → CB n0 s0 σ → Q σ () → RG σ → Shp ra jx rm σ → W p l e R s m args below meth c H locs (gc σ - n0) (gs σ - s0) QM (F0 m pc ls [])) (hX : ∀ (σ : Sg) (E : String) (pc : Nat) (lo : List (Nat × Value)) (st : List Value), X σ E → RG σ → Shp ra jx rm σ → JX p l e R s m args below meth c 5 D cA A n0 s0 QM σ E pc lo st) : ∀ (σ : Sg) (v1 : Int) (v2 : Int) (u0 : Int) (u1 : Int) (g1 : rng v1) (g2 : rng v2) (gu0 : rng u0) (gu1 : rng u1), w_X16_drop_95 ra jx rm Q X σ v1 v2 u0 u1 → RG σ → Shp ra jx rm σ → JJ p l e R s m args below meth c 5 D cA A n0 s0 QM σ 95 [(0, .ref rm), (1, .int (i32 v1)), (2, .int (i32 v2))] [.int (i32 u0), .int (i32 u1), .ref (ra 77)] := by
  intro σ v1 v2 u0 u1 g1 g2 gu0 gu1 h hGσ hS H locs ls hH hl hc
  unfold w_X16_drop_95 at h
  obtain ⟨q1, h⟩ := h
  obtain ⟨σ15, eσ15⟩ : ∃ z, z = pI σ (ra 77) u1.toNat u0 := ⟨_, rfl⟩
  have h := h σ15 eσ15
  refine r_iast B hT hH hS 77 (n := 64) (by decide) (by decide) q1 dX16_drop_95 (fun H locs hH => ?_)
  have hH : Hd D cA A s (pI σ (ra 77) u1.toNat u0) H locs := hH
  rw [← eσ15] at hH
  have hGσ15 : RG σ15 := by rw [eσ15]; exact hGσ.pI gu0
  have hS : Shp ra jx rm σ15 := by rw [eσ15]; exact hS
  have hc : CB n0 s0 σ15 := by rw [eσ15]; exact hc
  rw [show gc σ = gc σ15 by rw [eσ15], show gs σ = gs σ15 by rw [eσ15]]
  refine lv_aload_n B.1 B.2.1 dX16_drop_96 rfl (lv_at hl 0 rfl) ?_
  refine r_arr B hH hS 75 (kd := 100) (n := 4000) (by decide) (by decide) wf_X16_495 rfl (by decide) dX16_drop_97 ?_
  refine lv_iload_n B.1 B.2.1 dX16_drop_100 rfl (lv_at hl 1 rfl) ?_
  refine lv_aload_n B.1 B.2.1 dX16_drop_101 rfl (lv_at hl 0 rfl) ?_
  refine r_geti B hH hS 79 (by decide) wf_X16_498 rfl (by decide) dX16_drop_102 ?_
  obtain ⟨q2, h⟩ := h
  obtain ⟨σ16, eσ16⟩ : ∃ z, z = pI σ15 (ra 75) v1.toNat (gI σ15 rm 79) := ⟨_, rfl⟩
  have h := h σ16 eσ16
  refine r_iast B hT hH hS 75 (n := 4000) (by decide) (by decide) q2 dX16_drop_105 (fun H locs hH => ?_)
  have hH : Hd D cA A s (pI σ15 (ra 75) v1.toNat (gI σ15 rm 79)) H locs := hH
  rw [← eσ16] at hH
  have hGσ16 : RG σ16 := by rw [eσ16]; exact hGσ15.pI (hGσ15 _ _)
  have hS : Shp ra jx rm σ16 := by rw [eσ16]; exact hS
  have hc : CB n0 s0 σ16 := by rw [eσ16]; exact hc
  rw [show gc σ15 = gc σ16 by rw [eσ16], show gs σ15 = gs σ16 by rw [eσ16]]
  refine lv_aload_n B.1 B.2.1 dX16_drop_106 rfl (lv_at hl 0 rfl) ?_
  refine lv_iload_n B.1 B.2.1 dX16_drop_107 rfl (lv_at hl 1 rfl) ?_
  obtain ⟨σ17, eσ17⟩ : ∃ z, z = pI σ16 rm 79 v1 := ⟨_, rfl⟩
  have h := h σ17 eσ17
  refine r_puti B hH hS 79 (ty := .int) (by decide) wf_X16_498 rfl rfl (by decide) rfl rfl rfl dX16_drop_108 (fun H locs hH => ?_)
  have hH : Hd D cA A s (pI σ16 rm 79 v1) H locs := hH
  rw [← eσ17] at hH
  have hGσ17 : RG σ17 := by rw [eσ17]; exact hGσ16.pI g1
  have hS : Shp ra jx rm σ17 := by rw [eσ17]; exact hS
  have hc : CB n0 s0 σ17 := by rw [eσ17]; exact hc
  rw [show gc σ16 = gc σ17 by rw [eσ17], show gs σ16 = gs σ17 by rw [eσ17]]
  refine lv_aload_n B.1 B.2.1 dX16_drop_111 rfl (lv_at hl 0 rfl) ?_
  refine r_arr B hH hS 78 (kd := 100) (n := 64) (by decide) (by decide) wf_X16_510 rfl (by decide) dX16_drop_112 ?_
  refine lv_iload_n B.1 B.2.1 dX16_drop_115 rfl (lv_at hl 2 rfl) ?_
  refine lv_dup2_11 B.1 B.2.1 dX16_drop_116 rfl rfl ?_
  obtain ⟨q3, h⟩ := h
  refine r_iald B hT hH hS 78 (n := 64) (by decide) (by decide) q3 dX16_drop_117 ?_
  refine lv_iconst (v := i32 1) B.1 B.2.1 dX16_drop_118 (by decide) ?_
  obtain ⟨q4, h⟩ := h
  refine lv_isub B.1 B.2.1 dX16_drop_119 ?_
  rw [i32_sub]
  obtain ⟨q5, h⟩ := h
  obtain ⟨σ18, eσ18⟩ : ∃ z, z = pI σ17 (ra 78) v2.toNat ((gI σ17 (ra 78) v2.toNat) - 1) := ⟨_, rfl⟩
  have h := h σ18 eσ18
  refine r_iast B hT hH hS 78 (n := 64) (by decide) (by decide) q5 dX16_drop_120 (fun H locs hH => ?_)
  have hH : Hd D cA A s (pI σ17 (ra 78) v2.toNat ((gI σ17 (ra 78) v2.toNat) - 1)) H locs := hH
  rw [← eσ18] at hH
  have hGσ18 : RG σ18 := by rw [eσ18]; exact hGσ17.pI q4
  have hS : Shp ra jx rm σ18 := by rw [eσ18]; exact hS
  have hc : CB n0 s0 σ18 := by rw [eσ18]; exact hc
  rw [show gc σ17 = gc σ18 by rw [eσ18], show gs σ17 = gs σ18 by rw [eσ18]]
  refine lv_aload_n B.1 B.2.1 dX16_drop_121 rfl (lv_at hl 0 rfl) ?_
  refine lv_dup B.1 B.2.1 dX16_drop_122 rfl ?_
  refine r_geti B hH hS 80 (by decide) wf_X16_501 rfl (by decide) dX16_drop_123 ?_
  refine lv_iconst (v := i32 1) B.1 B.2.1 dX16_drop_126 (by decide) ?_
  obtain ⟨q6, h⟩ := h
  refine lv_isub B.1 B.2.1 dX16_drop_127 ?_
  rw [i32_sub]
  obtain ⟨σ19, eσ19⟩ : ∃ z, z = pI σ18 rm 80 (gI σ18 rm 80 - 1) := ⟨_, rfl⟩
  have h := h σ19 eσ19
  refine r_puti B hH hS 80 (ty := .int) (by decide) wf_X16_501 rfl rfl (by decide) rfl rfl rfl dX16_drop_128 (fun H locs hH => ?_)
  have hH : Hd D cA A s (pI σ18 rm 80 (gI σ18 rm 80 - 1)) H locs := hH
  rw [← eσ19] at hH
  have hGσ19 : RG σ19 := by rw [eσ19]; exact hGσ18.pI q6
  have hS : Shp ra jx rm σ19 := by rw [eσ19]; exact hS
  have hc : CB n0 s0 σ19 := by rw [eσ19]; exact hc
  rw [show gc σ18 = gc σ19 by rw [eσ19], show gs σ18 = gs σ19 by rw [eσ19]]
  exact hQ _ _ _ _ _ dX16_drop_131 hH hc h hGσ19 hS
set_option maxRecDepth 20000 in
theorem a_X16_drop_89 {p : Program} {l : Launch} {e : Env} {R : Room} {s : State} {m : MethodId} {args : Array Value} {below : List Frame} {meth : Method} {c : Code} {D : va_G} {cA : Nat → ClassId} {tys : List (ClassId × FieldType)} {A : Nat → Prop} {n0 s0 : Nat} {QM : State → Prop} {ra : Nat → Nat} {jx : Nat → Nat → Nat} {rm : Nat} {Q : Sg → Unit → Prop} {X : Sg → String → Prop} (B : Cx p s m args c cX16_drop 5 RX16 D cA tys A) (hT : Tys cA tys) (hR : Rm R n0 s0) (hFr : 0 ≤ R.frames) (hLw : 0 ≤ R.locals) (hQ : ∀ (pc : Nat) (ls : Array Slot) (σ : Sg) (H : Heap) (locs : List Loc), decode cX16_drop pc = .ok (.return_, 1) → Hd D cA A s σ H locs → CB n0 s0 σ → Q σ () → RG σ → Shp ra jx rm σ → W p l e R s m args below meth c H locs (gc σ - n0) (gs σ - s0) QM (F0 m pc ls [])) (hX : ∀ (σ : Sg) (E : String) (pc : Nat) (lo : List (Nat × Value)) (st : List Value), X σ E → RG σ → Shp ra jx rm σ → JX p l e R s m args below meth c 5 D cA A n0 s0 QM σ E pc lo st) : ∀ (σ : Sg) (v1 : Int) (v2 : Int) (u0 : Int) (g1 : rng v1) (g2 : rng v2) (gu0 : rng u0), w_X16_drop_89 ra jx rm Q X σ v1 v2 u0 → RG σ → Shp ra jx rm σ → JJ p l e R s m args below meth c 5 D cA A n0 s0 QM σ 89 [(0, .ref rm), (1, .int (i32 v1)), (2, .int (i32 v2))] [.int (i32 u0), .ref (ra 77)] := by
  intro σ v1 v2 u0 g1 g2 gu0 h hGσ hS H locs ls hH hl hc
  unfold w_X16_drop_89 at h
  refine lv_aload_n B.1 B.2.1 dX16_drop_89 rfl (lv_at hl 0 rfl) ?_
  refine r_arr B hH hS 77 (kd := 100) (n := 64) (by decide) (by decide) wf_X16_507 rfl (by decide) dX16_drop_90 ?_
  refine lv_iload_n B.1 B.2.1 dX16_drop_93 rfl (lv_at hl 2 rfl) ?_
  obtain ⟨q1, h⟩ := h
  refine r_iald B hT hH hS 77 (n := 64) (by decide) (by decide) q1 dX16_drop_94 ?_
  exact a_X16_drop_95 B hT hR hFr hLw hQ hX _ _ _ _ _ g1 g2 (hGσ _ _) gu0 h hGσ hS _ _ _ hH (lv_sub (l' := [(0, .ref rm), (1, .int (i32 v1)), (2, .int (i32 v2))]) hl [0, 1, 2] rfl) hc
set_option maxRecDepth 20000 in
theorem a_X16_drop_85 {p : Program} {l : Launch} {e : Env} {R : Room} {s : State} {m : MethodId} {args : Array Value} {below : List Frame} {meth : Method} {c : Code} {D : va_G} {cA : Nat → ClassId} {tys : List (ClassId × FieldType)} {A : Nat → Prop} {n0 s0 : Nat} {QM : State → Prop} {ra : Nat → Nat} {jx : Nat → Nat → Nat} {rm : Nat} {Q : Sg → Unit → Prop} {X : Sg → String → Prop} (B : Cx p s m args c cX16_drop 5 RX16 D cA tys A) (hT : Tys cA tys) (hR : Rm R n0 s0) (hFr : 0 ≤ R.frames) (hLw : 0 ≤ R.locals) (hQ : ∀ (pc : Nat) (ls : Array Slot) (σ : Sg) (H : Heap) (locs : List Loc), decode cX16_drop pc = .ok (.return_, 1) → Hd D cA A s σ H locs → CB n0 s0 σ → Q σ () → RG σ → Shp ra jx rm σ → W p l e R s m args below meth c H locs (gc σ - n0) (gs σ - s0) QM (F0 m pc ls [])) (hX : ∀ (σ : Sg) (E : String) (pc : Nat) (lo : List (Nat × Value)) (st : List Value), X σ E → RG σ → Shp ra jx rm σ → JX p l e R s m args below meth c 5 D cA A n0 s0 QM σ E pc lo st) : ∀ (σ : Sg) (v1 : Int) (v2 : Int) (v3 : Int) (u0 : Int) (g1 : rng v1) (g2 : rng v2) (g3 : rng v3) (gu0 : rng u0), w_X16_drop_85 ra jx rm Q X σ v1 v2 v3 u0 → RG σ → Shp ra jx rm σ → JJ p l e R s m args below meth c 5 D cA A n0 s0 QM σ 85 [(0, .ref rm), (1, .int (i32 v1)), (2, .int (i32 v2)), (3, .int (i32 v3))] [.int (i32 u0), .ref (ra 77)] := by
  intro σ v1 v2 v3 u0 g1 g2 g3 gu0 h hGσ hS H locs ls hH hl hc
  unfold w_X16_drop_85 at h
  refine lv_iload_n B.1 B.2.1 dX16_drop_85 rfl (lv_at hl 3 rfl) ?_
  refine lv_goto (tgt := 95) B.1 B.2.1 dX16_drop_86 (by decide) ?_
  exact a_X16_drop_95 B hT hR hFr hLw hQ hX _ _ _ _ _ g1 g2 g3 gu0 h hGσ hS _ _ _ hH (lv_sub (l' := [(0, .ref rm), (1, .int (i32 v1)), (2, .int (i32 v2))]) hl [0, 1, 2] rfl) hc
set_option maxRecDepth 20000 in
theorem a_X16_drop_70 {p : Program} {l : Launch} {e : Env} {R : Room} {s : State} {m : MethodId} {args : Array Value} {below : List Frame} {meth : Method} {c : Code} {D : va_G} {cA : Nat → ClassId} {tys : List (ClassId × FieldType)} {A : Nat → Prop} {n0 s0 : Nat} {QM : State → Prop} {ra : Nat → Nat} {jx : Nat → Nat → Nat} {rm : Nat} {Q : Sg → Unit → Prop} {X : Sg → String → Prop} (B : Cx p s m args c cX16_drop 5 RX16 D cA tys A) (hT : Tys cA tys) (hR : Rm R n0 s0) (hFr : 0 ≤ R.frames) (hLw : 0 ≤ R.locals) (hQ : ∀ (pc : Nat) (ls : Array Slot) (σ : Sg) (H : Heap) (locs : List Loc), decode cX16_drop pc = .ok (.return_, 1) → Hd D cA A s σ H locs → CB n0 s0 σ → Q σ () → RG σ → Shp ra jx rm σ → W p l e R s m args below meth c H locs (gc σ - n0) (gs σ - s0) QM (F0 m pc ls [])) (hX : ∀ (σ : Sg) (E : String) (pc : Nat) (lo : List (Nat × Value)) (st : List Value), X σ E → RG σ → Shp ra jx rm σ → JX p l e R s m args below meth c 5 D cA A n0 s0 QM σ E pc lo st) : ∀ (σ : Sg) (v1 : Int) (v2 : Int) (v3 : Int) (g1 : rng v1) (g2 : rng v2) (g3 : rng v3), w_X16_drop_70 ra jx rm Q X σ v1 v2 v3 → RG σ → Shp ra jx rm σ → JJ p l e R s m args below meth c 5 D cA A n0 s0 QM σ 70 [(0, .ref rm), (1, .int (i32 v1)), (2, .int (i32 v2)), (3, .int (i32 v3))] [] := by
  intro σ v1 v2 v3 g1 g2 g3 h hGσ hS H locs ls hH hl hc
  unfold w_X16_drop_70 at h
  refine lv_aload_n B.1 B.2.1 dX16_drop_70 rfl (lv_at hl 0 rfl) ?_
  refine r_arr B hH hS 77 (kd := 100) (n := 64) (by decide) (by decide) wf_X16_507 rfl (by decide) dX16_drop_71 ?_
  refine lv_iload_n B.1 B.2.1 dX16_drop_74 rfl (lv_at hl 2 rfl) ?_
  refine lv_aload_n B.1 B.2.1 dX16_drop_75 rfl (lv_at hl 0 rfl) ?_
  refine r_arr B hH hS 77 (kd := 100) (n := 64) (by decide) (by decide) wf_X16_507 rfl (by decide) dX16_drop_76 ?_
  refine lv_iload_n B.1 B.2.1 dX16_drop_79 rfl (lv_at hl 2 rfl) ?_
  obtain ⟨q1, h⟩ := h
  refine r_iald B hT hH hS 77 (n := 64) (by decide) (by decide) q1 dX16_drop_80 ?_
  refine lv_iload_n B.1 B.2.1 dX16_drop_81 rfl (lv_at hl 1 rfl) ?_
  refine lv_icmp_ne (tgt := 89) B.1 B.2.1 dX16_drop_82 (by decide) (fun h9 => ?_) (fun h9 => ?_)
  · rw [if_pos (fun q => h9 ((i32_eq (hGσ _ _) g1).mpr q))] at h
    exact a_X16_drop_89 B hT hR hFr hLw hQ hX _ _ _ _ g1 g2 g2 h hGσ hS _ _ _ hH (lv_sub (l' := [(0, .ref rm), (1, .int (i32 v1)), (2, .int (i32 v2))]) hl [0, 1, 2] rfl) hc
  · rw [if_neg (fun q => q ((i32_eq (hGσ _ _) g1).mp h9))] at h
    exact a_X16_drop_85 B hT hR hFr hLw hQ hX _ _ _ _ _ g1 g2 g3 g2 h hGσ hS _ _ _ hH (lv_sub (l' := [(0, .ref rm), (1, .int (i32 v1)), (2, .int (i32 v2)), (3, .int (i32 v3))]) hl [0, 1, 2, 3] rfl) hc
set_option maxRecDepth 20000 in
theorem a_X16_drop_58 {p : Program} {l : Launch} {e : Env} {R : Room} {s : State} {m : MethodId} {args : Array Value} {below : List Frame} {meth : Method} {c : Code} {D : va_G} {cA : Nat → ClassId} {tys : List (ClassId × FieldType)} {A : Nat → Prop} {n0 s0 : Nat} {QM : State → Prop} {ra : Nat → Nat} {jx : Nat → Nat → Nat} {rm : Nat} {Q : Sg → Unit → Prop} {X : Sg → String → Prop} (B : Cx p s m args c cX16_drop 5 RX16 D cA tys A) (hT : Tys cA tys) (hR : Rm R n0 s0) (hFr : 0 ≤ R.frames) (hLw : 0 ≤ R.locals) (hQ : ∀ (pc : Nat) (ls : Array Slot) (σ : Sg) (H : Heap) (locs : List Loc), decode cX16_drop pc = .ok (.return_, 1) → Hd D cA A s σ H locs → CB n0 s0 σ → Q σ () → RG σ → Shp ra jx rm σ → W p l e R s m args below meth c H locs (gc σ - n0) (gs σ - s0) QM (F0 m pc ls [])) (hX : ∀ (σ : Sg) (E : String) (pc : Nat) (lo : List (Nat × Value)) (st : List Value), X σ E → RG σ → Shp ra jx rm σ → JX p l e R s m args below meth c 5 D cA A n0 s0 QM σ E pc lo st) : ∀ (σ : Sg) (v1 : Int) (v2 : Int) (v3 : Int) (g1 : rng v1) (g2 : rng v2) (g3 : rng v3), w_X16_drop_58 ra jx rm Q X σ v1 v2 v3 → RG σ → Shp ra jx rm σ → JJ p l e R s m args below meth c 5 D cA A n0 s0 QM σ 58 [(0, .ref rm), (1, .int (i32 v1)), (2, .int (i32 v2)), (3, .int (i32 v3))] [] := by
  intro σ v1 v2 v3 g1 g2 g3 h hGσ hS H locs ls hH hl hc
  unfold w_X16_drop_58 at h
  refine lv_aload_n B.1 B.2.1 dX16_drop_58 rfl (lv_at hl 0 rfl) ?_
  refine r_arr B hH hS 75 (kd := 100) (n := 4000) (by decide) (by decide) wf_X16_495 rfl (by decide) dX16_drop_59 ?_
  refine lv_iload_n B.1 B.2.1 dX16_drop_62 rfl (lv_at hl 3 rfl) ?_
  refine lv_aload_n B.1 B.2.1 dX16_drop_63 rfl (lv_at hl 0 rfl) ?_
  refine r_arr B hH hS 75 (kd := 100) (n := 4000) (by decide) (by decide) wf_X16_495 rfl (by decide) dX16_drop_64 ?_
  refine lv_iload_n B.1 B.2.1 dX16_drop_67 rfl (lv_at hl 1 rfl) ?_
  obtain ⟨q1, h⟩ := h
  refine r_iald B hT hH hS 75 (n := 4000) (by decide) (by decide) q1 dX16_drop_68 ?_
  obtain ⟨q2, h⟩ := h
  obtain ⟨σ20, eσ20⟩ : ∃ z, z = pI σ (ra 75) v3.toNat (gI σ (ra 75) v1.toNat) := ⟨_, rfl⟩
  have h := h σ20 eσ20
  refine r_iast B hT hH hS 75 (n := 4000) (by decide) (by decide) q2 dX16_drop_69 (fun H locs hH => ?_)
  have hH : Hd D cA A s (pI σ (ra 75) v3.toNat (gI σ (ra 75) v1.toNat)) H locs := hH
  rw [← eσ20] at hH
  have hGσ20 : RG σ20 := by rw [eσ20]; exact hGσ.pI (hGσ _ _)
  have hS : Shp ra jx rm σ20 := by rw [eσ20]; exact hS
  have hc : CB n0 s0 σ20 := by rw [eσ20]; exact hc
  rw [show gc σ = gc σ20 by rw [eσ20], show gs σ = gs σ20 by rw [eσ20]]
  exact a_X16_drop_70 B hT hR hFr hLw hQ hX _ _ _ _ g1 g2 g3 h hGσ20 hS _ _ _ hH (lv_sub (l' := [(0, .ref rm), (1, .int (i32 v1)), (2, .int (i32 v2)), (3, .int (i32 v3))]) hl [0, 1, 2, 3] rfl) hc
set_option maxRecDepth 20000 in
theorem a_X16_drop_43 {p : Program} {l : Launch} {e : Env} {R : Room} {s : State} {m : MethodId} {args : Array Value} {below : List Frame} {meth : Method} {c : Code} {D : va_G} {cA : Nat → ClassId} {tys : List (ClassId × FieldType)} {A : Nat → Prop} {n0 s0 : Nat} {QM : State → Prop} {ra : Nat → Nat} {jx : Nat → Nat → Nat} {rm : Nat} {Q : Sg → Unit → Prop} {X : Sg → String → Prop} (B : Cx p s m args c cX16_drop 5 RX16 D cA tys A) (hT : Tys cA tys) (hR : Rm R n0 s0) (hFr : 0 ≤ R.frames) (hLw : 0 ≤ R.locals) (hQ : ∀ (pc : Nat) (ls : Array Slot) (σ : Sg) (H : Heap) (locs : List Loc), decode cX16_drop pc = .ok (.return_, 1) → Hd D cA A s σ H locs → CB n0 s0 σ → Q σ () → RG σ → Shp ra jx rm σ → W p l e R s m args below meth c H locs (gc σ - n0) (gs σ - s0) QM (F0 m pc ls [])) (hX : ∀ (σ : Sg) (E : String) (pc : Nat) (lo : List (Nat × Value)) (st : List Value), X σ E → RG σ → Shp ra jx rm σ → JX p l e R s m args below meth c 5 D cA A n0 s0 QM σ E pc lo st) : ∀ (σ : Sg) (v1 : Int) (v2 : Int) (v3 : Int) (g1 : rng v1) (g2 : rng v2) (g3 : rng v3), w_X16_drop_43 ra jx rm Q X σ v1 v2 v3 → RG σ → Shp ra jx rm σ → JJ p l e R s m args below meth c 5 D cA A n0 s0 QM σ 43 [(0, .ref rm), (1, .int (i32 v1)), (2, .int (i32 v2)), (3, .int (i32 v3))] [] := by
  intro σ v1 v2 v3 g1 g2 g3 h hGσ hS H locs ls hH hl hc
  unfold w_X16_drop_43 at h
  refine lv_aload_n B.1 B.2.1 dX16_drop_43 rfl (lv_at hl 0 rfl) ?_
  refine r_arr B hH hS 76 (kd := 100) (n := 64) (by decide) (by decide) wf_X16_504 rfl (by decide) dX16_drop_44 ?_
  refine lv_iload_n B.1 B.2.1 dX16_drop_47 rfl (lv_at hl 2 rfl) ?_
  refine lv_aload_n B.1 B.2.1 dX16_drop_48 rfl (lv_at hl 0 rfl) ?_
  refine r_arr B hH hS 75 (kd := 100) (n := 4000) (by decide) (by decide) wf_X16_495 rfl (by decide) dX16_drop_49 ?_
  refine lv_iload_n B.1 B.2.1 dX16_drop_52 rfl (lv_at hl 1 rfl) ?_
  obtain ⟨q1, h⟩ := h
  refine r_iald B hT hH hS 75 (n := 4000) (by decide) (by decide) q1 dX16_drop_53 ?_
  obtain ⟨q2, h⟩ := h
  obtain ⟨σ21, eσ21⟩ : ∃ z, z = pI σ (ra 76) v2.toNat (gI σ (ra 75) v1.toNat) := ⟨_, rfl⟩
  have h := h σ21 eσ21
  refine r_iast B hT hH hS 76 (n := 64) (by decide) (by decide) q2 dX16_drop_54 (fun H locs hH => ?_)
  have hH : Hd D cA A s (pI σ (ra 76) v2.toNat (gI σ (ra 75) v1.toNat)) H locs := hH
  rw [← eσ21] at hH
  have hGσ21 : RG σ21 := by rw [eσ21]; exact hGσ.pI (hGσ _ _)
  have hS : Shp ra jx rm σ21 := by rw [eσ21]; exact hS
  have hc : CB n0 s0 σ21 := by rw [eσ21]; exact hc
  rw [show gc σ = gc σ21 by rw [eσ21], show gs σ = gs σ21 by rw [eσ21]]
  refine lv_goto (tgt := 70) B.1 B.2.1 dX16_drop_55 (by decide) ?_
  exact a_X16_drop_70 B hT hR hFr hLw hQ hX _ _ _ _ g1 g2 g3 h hGσ21 hS _ _ _ hH (lv_sub (l' := [(0, .ref rm), (1, .int (i32 v1)), (2, .int (i32 v2)), (3, .int (i32 v3))]) hl [0, 1, 2, 3] rfl) hc
set_option maxRecDepth 20000 in
theorem a_X16_drop_38 {p : Program} {l : Launch} {e : Env} {R : Room} {s : State} {m : MethodId} {args : Array Value} {below : List Frame} {meth : Method} {c : Code} {D : va_G} {cA : Nat → ClassId} {tys : List (ClassId × FieldType)} {A : Nat → Prop} {n0 s0 : Nat} {QM : State → Prop} {ra : Nat → Nat} {jx : Nat → Nat → Nat} {rm : Nat} {Q : Sg → Unit → Prop} {X : Sg → String → Prop} (B : Cx p s m args c cX16_drop 5 RX16 D cA tys A) (hT : Tys cA tys) (hR : Rm R n0 s0) (hFr : 0 ≤ R.frames) (hLw : 0 ≤ R.locals) (hQ : ∀ (pc : Nat) (ls : Array Slot) (σ : Sg) (H : Heap) (locs : List Loc), decode cX16_drop pc = .ok (.return_, 1) → Hd D cA A s σ H locs → CB n0 s0 σ → Q σ () → RG σ → Shp ra jx rm σ → W p l e R s m args below meth c H locs (gc σ - n0) (gs σ - s0) QM (F0 m pc ls [])) (hX : ∀ (σ : Sg) (E : String) (pc : Nat) (lo : List (Nat × Value)) (st : List Value), X σ E → RG σ → Shp ra jx rm σ → JX p l e R s m args below meth c 5 D cA A n0 s0 QM σ E pc lo st) : ∀ (σ : Sg) (v1 : Int) (v2 : Int) (v3 : Int) (g1 : rng v1) (g2 : rng v2) (g3 : rng v3), w_X16_drop_38 ra jx rm Q X σ v1 v2 v3 → RG σ → Shp ra jx rm σ → JJ p l e R s m args below meth c 5 D cA A n0 s0 QM σ 38 [(0, .ref rm), (1, .int (i32 v1)), (2, .int (i32 v2)), (3, .int (i32 v3))] [] := by
  intro σ v1 v2 v3 g1 g2 g3 h hGσ hS H locs ls hH hl hc
  unfold w_X16_drop_38 at h
  refine lv_iload_n B.1 B.2.1 dX16_drop_38 rfl (lv_at hl 3 rfl) ?_
  refine lv_iconst (v := i32 (-1)) B.1 B.2.1 dX16_drop_39 (by decide) ?_
  refine lv_icmp_ne (tgt := 58) B.1 B.2.1 dX16_drop_40 (by decide) (fun h9 => ?_) (fun h9 => ?_)
  · rw [if_pos (fun q => h9 ((i32_eq g3 (by unfold rng; omega)).mpr q))] at h
    exact a_X16_drop_58 B hT hR hFr hLw hQ hX _ _ _ _ g1 g2 g3 h hGσ hS _ _ _ hH (lv_sub (l' := [(0, .ref rm), (1, .int (i32 v1)), (2, .int (i32 v2)), (3, .int (i32 v3))]) hl [0, 1, 2, 3] rfl) hc
  · rw [if_neg (fun q => q ((i32_eq g3 (by unfold rng; omega)).mp h9))] at h
    exact a_X16_drop_43 B hT hR hFr hLw hQ hX _ _ _ _ g1 g2 g3 h hGσ hS _ _ _ hH (lv_sub (l' := [(0, .ref rm), (1, .int (i32 v1)), (2, .int (i32 v2)), (3, .int (i32 v3))]) hl [0, 1, 2, 3] rfl) hc
set_option maxRecDepth 20000 in
theorem a_X16_drop_23 {p : Program} {l : Launch} {e : Env} {R : Room} {s : State} {m : MethodId} {args : Array Value} {below : List Frame} {meth : Method} {c : Code} {D : va_G} {cA : Nat → ClassId} {tys : List (ClassId × FieldType)} {A : Nat → Prop} {n0 s0 : Nat} {QM : State → Prop} {ra : Nat → Nat} {jx : Nat → Nat → Nat} {rm : Nat} {Q : Sg → Unit → Prop} {X : Sg → String → Prop} (B : Cx p s m args c cX16_drop 5 RX16 D cA tys A) (hT : Tys cA tys) (hR : Rm R n0 s0) (hFr : 0 ≤ R.frames) (hLw : 0 ≤ R.locals) (hQ : ∀ (pc : Nat) (ls : Array Slot) (σ : Sg) (H : Heap) (locs : List Loc), decode cX16_drop pc = .ok (.return_, 1) → Hd D cA A s σ H locs → CB n0 s0 σ → Q σ () → RG σ → Shp ra jx rm σ → W p l e R s m args below meth c H locs (gc σ - n0) (gs σ - s0) QM (F0 m pc ls [])) (hX : ∀ (σ : Sg) (E : String) (pc : Nat) (lo : List (Nat × Value)) (st : List Value), X σ E → RG σ → Shp ra jx rm σ → JX p l e R s m args below meth c 5 D cA A n0 s0 QM σ E pc lo st) {K17 : Sg → Int → Int → Int → Int → Prop} (hK17 : ∀ (σ : Sg) (v1 : Int) (v2 : Int) (v3 : Int) (v4 : Int) (g1 : rng v1) (g2 : rng v2) (g3 : rng v3) (g4 : rng v4), K17 σ v1 v2 v3 v4 → RG σ → Shp ra jx rm σ → JJ p l e R s m args below meth c 5 D cA A n0 s0 QM σ 17 [(0, .ref rm), (1, .int (i32 v1)), (2, .int (i32 v2)), (3, .int (i32 v3)), (4, .int (i32 v4))] []) : ∀ (σ : Sg) (v1 : Int) (v2 : Int) (v4 : Int) (g1 : rng v1) (g2 : rng v2) (g4 : rng v4), w_X16_drop_23 ra jx rm K17 Q X σ v1 v2 v4 → RG σ → Shp ra jx rm σ → JJ p l e R s m args below meth c 5 D cA A n0 s0 QM σ 23 [(0, .ref rm), (1, .int (i32 v1)), (2, .int (i32 v2)), (4, .int (i32 v4))] [] := by
  intro σ v1 v2 v4 g1 g2 g4 h hGσ hS H locs ls hH hl hc
  unfold w_X16_drop_23 at h
  refine lv_iload B.1 B.2.1 dX16_drop_23 (lv_at hl 3 rfl) ?_
  refine lv_istore_n (lv' := [(3, .int (i32 v4)), (0, .ref rm), (1, .int (i32 v1)), (2, .int (i32 v2)), (4, .int (i32 v4))]) B.1 B.2.1 dX16_drop_25 rfl hl (by decide) rfl (fun ls hl => ?_)
  refine lv_aload_n B.1 B.2.1 dX16_drop_26 rfl (lv_at hl 1 rfl) ?_
  refine r_arr B hH hS 75 (kd := 100) (n := 4000) (by decide) (by decide) wf_X16_495 rfl (by decide) dX16_drop_27 ?_
  refine lv_iload B.1 B.2.1 dX16_drop_30 (lv_at hl 4 rfl) ?_
  obtain ⟨q1, h⟩ := h
  refine r_iald B hT hH hS 75 (n := 4000) (by decide) (by decide) q1 dX16_drop_32 ?_
  refine lv_istore (lv' := [(4, .int (i32 (gI σ (ra 75) v4.toNat))), (3, .int (i32 v4)), (0, .ref rm), (1, .int (i32 v1)), (2, .int (i32 v2))]) B.1 B.2.1 dX16_drop_33 hl (by decide) rfl (fun ls hl => ?_)
  refine lv_goto (tgt := 17) B.1 B.2.1 dX16_drop_35 (by decide) ?_
  exact hK17 _ _ _ _ _ g1 g2 g4 (hGσ _ _) h hGσ hS _ _ _ hH (lv_sub (l' := [(0, .ref rm), (1, .int (i32 v1)), (2, .int (i32 v2)), (3, .int (i32 v4)), (4, .int (i32 (gI σ (ra 75) v4.toNat)))]) hl [2, 3, 4, 1, 0] rfl) hc
set_option maxRecDepth 20000 in
theorem a_X16_drop_17 {p : Program} {l : Launch} {e : Env} {R : Room} {s : State} {m : MethodId} {args : Array Value} {below : List Frame} {meth : Method} {c : Code} {D : va_G} {cA : Nat → ClassId} {tys : List (ClassId × FieldType)} {A : Nat → Prop} {n0 s0 : Nat} {QM : State → Prop} {ra : Nat → Nat} {jx : Nat → Nat → Nat} {rm : Nat} {Q : Sg → Unit → Prop} {X : Sg → String → Prop} (B : Cx p s m args c cX16_drop 5 RX16 D cA tys A) (hT : Tys cA tys) (hR : Rm R n0 s0) (hFr : 0 ≤ R.frames) (hLw : 0 ≤ R.locals) (hQ : ∀ (pc : Nat) (ls : Array Slot) (σ : Sg) (H : Heap) (locs : List Loc), decode cX16_drop pc = .ok (.return_, 1) → Hd D cA A s σ H locs → CB n0 s0 σ → Q σ () → RG σ → Shp ra jx rm σ → W p l e R s m args below meth c H locs (gc σ - n0) (gs σ - s0) QM (F0 m pc ls [])) (hX : ∀ (σ : Sg) (E : String) (pc : Nat) (lo : List (Nat × Value)) (st : List Value), X σ E → RG σ → Shp ra jx rm σ → JX p l e R s m args below meth c 5 D cA A n0 s0 QM σ E pc lo st) {K17 : Sg → Int → Int → Int → Int → Prop} (hK17 : ∀ (σ : Sg) (v1 : Int) (v2 : Int) (v3 : Int) (v4 : Int) (g1 : rng v1) (g2 : rng v2) (g3 : rng v3) (g4 : rng v4), K17 σ v1 v2 v3 v4 → RG σ → Shp ra jx rm σ → JJ p l e R s m args below meth c 5 D cA A n0 s0 QM σ 17 [(0, .ref rm), (1, .int (i32 v1)), (2, .int (i32 v2)), (3, .int (i32 v3)), (4, .int (i32 v4))] []) : ∀ (σ : Sg) (v1 : Int) (v2 : Int) (v3 : Int) (v4 : Int) (g1 : rng v1) (g2 : rng v2) (g3 : rng v3) (g4 : rng v4), w_X16_drop_17 ra jx rm K17 Q X σ v1 v2 v3 v4 → RG σ → Shp ra jx rm σ → JJ p l e R s m args below meth c 5 D cA A n0 s0 QM σ 17 [(0, .ref rm), (1, .int (i32 v1)), (2, .int (i32 v2)), (3, .int (i32 v3)), (4, .int (i32 v4))] [] := by
  intro σ v1 v2 v3 v4 g1 g2 g3 g4 h hGσ hS H locs ls hH hl hc
  unfold w_X16_drop_17 at h
  refine lv_iload B.1 B.2.1 dX16_drop_17 (lv_at hl 4 rfl) ?_
  refine lv_iload_n B.1 B.2.1 dX16_drop_19 rfl (lv_at hl 1 rfl) ?_
  refine lv_icmp_eq (tgt := 38) B.1 B.2.1 dX16_drop_20 (by decide) (fun h9 => ?_) (fun h9 => ?_)
  · rw [if_pos ((i32_eq g4 g1).mp h9)] at h
    exact a_X16_drop_38 B hT hR hFr hLw hQ hX _ _ _ _ g1 g2 g3 h hGσ hS _ _ _ hH (lv_sub (l' := [(0, .ref rm), (1, .int (i32 v1)), (2, .int (i32 v2)), (3, .int (i32 v3))]) hl [0, 1, 2, 3] rfl) hc
  · rw [if_neg (fun q => h9 ((i32_eq g4 g1).mpr q))] at h
    exact a_X16_drop_23 B hT hR hFr hLw hQ hX hK17 _ _ _ _ g1 g2 g4 h hGσ hS _ _ _ hH (lv_sub (l' := [(0, .ref rm), (1, .int (i32 v1)), (2, .int (i32 v2)), (4, .int (i32 v4))]) hl [0, 1, 2, 4] rfl) hc
theorem al_X16_drop_17 {p : Program} {l : Launch} {e : Env} {R : Room} {s : State} {m : MethodId} {args : Array Value} {below : List Frame} {meth : Method} {c : Code} {D : va_G} {cA : Nat → ClassId} {tys : List (ClassId × FieldType)} {A : Nat → Prop} {n0 s0 : Nat} {QM : State → Prop} {ra : Nat → Nat} {jx : Nat → Nat → Nat} {rm : Nat} {Q : Sg → Unit → Prop} {X : Sg → String → Prop} (B : Cx p s m args c cX16_drop 5 RX16 D cA tys A) (hT : Tys cA tys) (hR : Rm R n0 s0) (hFr : 0 ≤ R.frames) (hLw : 0 ≤ R.locals) (hQ : ∀ (pc : Nat) (ls : Array Slot) (σ : Sg) (H : Heap) (locs : List Loc), decode cX16_drop pc = .ok (.return_, 1) → Hd D cA A s σ H locs → CB n0 s0 σ → Q σ () → RG σ → Shp ra jx rm σ → W p l e R s m args below meth c H locs (gc σ - n0) (gs σ - s0) QM (F0 m pc ls [])) (hX : ∀ (σ : Sg) (E : String) (pc : Nat) (lo : List (Nat × Value)) (st : List Value), X σ E → RG σ → Shp ra jx rm σ → JX p l e R s m args below meth c 5 D cA A n0 s0 QM σ E pc lo st) : ∀ (n : Nat), ∀ (σ : Sg) (v1 : Int) (v2 : Int) (v3 : Int) (v4 : Int) (g1 : rng v1) (g2 : rng v2) (g3 : rng v3) (g4 : rng v4), wl_X16_drop_17 ra jx rm Q X n σ v1 v2 v3 v4 → RG σ → Shp ra jx rm σ → JJ p l e R s m args below meth c 5 D cA A n0 s0 QM σ 17 [(0, .ref rm), (1, .int (i32 v1)), (2, .int (i32 v2)), (3, .int (i32 v3)), (4, .int (i32 v4))] [] := by
  intro n
  induction n with
  | zero => intro σ v1 v2 v3 v4 g1 g2 g3 g4 h; exact h.elim
  | succ n ih => exact fun σ v1 v2 v3 v4 g1 g2 g3 g4 h => a_X16_drop_17 B hT hR hFr hLw hQ hX ih σ v1 v2 v3 v4 g1 g2 g3 g4 h
set_option maxRecDepth 20000 in
theorem a_X16_drop_0 {p : Program} {l : Launch} {e : Env} {R : Room} {s : State} {m : MethodId} {args : Array Value} {below : List Frame} {meth : Method} {c : Code} {D : va_G} {cA : Nat → ClassId} {tys : List (ClassId × FieldType)} {A : Nat → Prop} {n0 s0 : Nat} {QM : State → Prop} {ra : Nat → Nat} {jx : Nat → Nat → Nat} {rm : Nat} {Q : Sg → Unit → Prop} {X : Sg → String → Prop} (B : Cx p s m args c cX16_drop 5 RX16 D cA tys A) (hT : Tys cA tys) (hR : Rm R n0 s0) (hFr : 0 ≤ R.frames) (hLw : 0 ≤ R.locals) (hQ : ∀ (pc : Nat) (ls : Array Slot) (σ : Sg) (H : Heap) (locs : List Loc), decode cX16_drop pc = .ok (.return_, 1) → Hd D cA A s σ H locs → CB n0 s0 σ → Q σ () → RG σ → Shp ra jx rm σ → W p l e R s m args below meth c H locs (gc σ - n0) (gs σ - s0) QM (F0 m pc ls [])) (hX : ∀ (σ : Sg) (E : String) (pc : Nat) (lo : List (Nat × Value)) (st : List Value), X σ E → RG σ → Shp ra jx rm σ → JX p l e R s m args below meth c 5 D cA A n0 s0 QM σ E pc lo st) : ∀ (σ : Sg) (v1 : Int) (g1 : rng v1), w_X16_drop_0 ra jx rm Q X σ v1 → RG σ → Shp ra jx rm σ → JJ p l e R s m args below meth c 5 D cA A n0 s0 QM σ 0 [(0, .ref rm), (1, .int (i32 v1))] [] := by
  intro σ v1 g1 h hGσ hS H locs ls hH hl hc
  unfold w_X16_drop_0 at h
  refine lv_aload_n B.1 B.2.1 dX16_drop_0 rfl (lv_at hl 0 rfl) ?_
  refine r_arr B hH hS 69 (kd := 100) (n := 4000) (by decide) (by decide) wf_X16_516 rfl (by decide) dX16_drop_1 ?_
  refine lv_iload_n B.1 B.2.1 dX16_drop_4 rfl (lv_at hl 1 rfl) ?_
  obtain ⟨q1, h⟩ := h
  refine r_iald B hT hH hS 69 (n := 4000) (by decide) (by decide) q1 dX16_drop_5 ?_
  refine lv_istore_n (lv' := [(2, .int (i32 (gI σ (ra 69) v1.toNat))), (0, .ref rm), (1, .int (i32 v1))]) B.1 B.2.1 dX16_drop_6 rfl hl (by decide) rfl (fun ls hl => ?_)
  refine lv_iconst (v := i32 (-1)) B.1 B.2.1 dX16_drop_7 (by decide) ?_
  refine lv_istore_n (lv' := [(3, .int (i32 (-1))), (2, .int (i32 (gI σ (ra 69) v1.toNat))), (0, .ref rm), (1, .int (i32 v1))]) B.1 B.2.1 dX16_drop_8 rfl hl (by decide) rfl (fun ls hl => ?_)
  refine lv_aload_n B.1 B.2.1 dX16_drop_9 rfl (lv_at hl 2 rfl) ?_
  refine r_arr B hH hS 76 (kd := 100) (n := 64) (by decide) (by decide) wf_X16_504 rfl (by decide) dX16_drop_10 ?_
  refine lv_iload_n B.1 B.2.1 dX16_drop_13 rfl (lv_at hl 1 rfl) ?_
  obtain ⟨q2, h⟩ := h
  refine r_iald B hT hH hS 76 (n := 64) (by decide) (by decide) q2 dX16_drop_14 ?_
  refine lv_istore (lv' := [(4, .int (i32 (gI σ (ra 76) (gI σ (ra 69) v1.toNat).toNat))), (3, .int (i32 (-1))), (2, .int (i32 (gI σ (ra 69) v1.toNat))), (0, .ref rm), (1, .int (i32 v1))]) B.1 B.2.1 dX16_drop_15 hl (by decide) rfl (fun ls hl => ?_)
  obtain ⟨n9, h⟩ := h
  exact al_X16_drop_17 B hT hR hFr hLw hQ hX n9 _ _ _ _ _ g1 (hGσ _ _) (by unfold rng; omega) (hGσ _ _) h hGσ hS _ _ _ hH (lv_sub (l' := [(0, .ref rm), (1, .int (i32 v1)), (2, .int (i32 (gI σ (ra 69) v1.toNat))), (3, .int (i32 (-1))), (4, .int (i32 (gI σ (ra 76) (gI σ (ra 69) v1.toNat).toNat)))]) hl [3, 4, 2, 1, 0] rfl) hc
theorem ok_X16_drop {l : Launch} {D : va_G} {cA : Nat → ClassId} {tys : List (ClassId × FieldType)} {A : Nat → Prop} {ra : Nat → Nat} {jx : Nat → Nat → Nat} {rm : Nat} (hT : Tys cA tys) {Q : Sg → Unit → Prop} {X : Sg → String → Prop} (σ : Sg) (v1 : Int) (g1 : rng v1) (hG : RG σ) (hS : Shp ra jx rm σ) (h : wp_X16_drop ra jx rm v1 σ Q X) : Ok l D cA tys A yX16_drop (.code yX16_drop cX16_drop 5 none) 0 0 [.ref rm, .int (i32 v1)] σ (fun σ' w => w = none ∧ Q σ' () ∧ RG σ' ∧ Shp ra jx rm σ') (fun σ' E => X σ' E ∧ RG σ' ∧ Shp ra jx rm σ') := by
  refine ok_of (ret := none) (by decide) (Nat.le_of_ble_eq_true rfl) ?_
  intro p e R s m args below meth c hRR B hr hlocks hex _
  have B : Cx p s m args c cX16_drop 5 RX16 D cA tys A := B
  have hR : Rm R (gc σ) (gs σ) := by rw [hRR]; exact ⟨rfl, rfl⟩
  unfold wp_X16_drop at h
  intro H locs ls hH hl hc
  have hX : ∀ (σ9 : Sg) (E : String) (pc : Nat) (lo : List (Nat × Value)) (st : List Value), X σ9 E → RG σ9 → Shp ra jx rm σ9 → JX p l e R s m args below meth c 5 D cA A (gc σ) (gs σ) (vx_MQ below (Qw D cA A σ (fun σ' w => w = none ∧ Q σ' () ∧ RG σ' ∧ Shp ra jx rm σ')) (Xw D cA A σ (fun σ' E => X σ' E ∧ RG σ' ∧ Shp ra jx rm σ')) args s (BC - gc σ) (BS - gs σ) A) σ9 E pc lo st := fun σ9 E pc lo st hx hG9 hS9 H locs ls ce q hH hl hc hce hcv hcl => e_out hH hc (fun x hx9 => (hex x hx9).elim) hlocks hce hcv hcl ⟨hx, hG9, hS9⟩
  exact a_X16_drop_0 B hT hR (by rw [hRR]; exact Nat.le_refl _) (by rw [hRR]; exact Nat.le_refl _) (fun pc ls σ9 H locs hd hH hc hq hG9 hS9 => e_vret B hH hc hr hlocks ⟨rfl, hq, hG9, hS9⟩ hd) hX σ v1 g1 h hG hS H locs ls hH (lv_sub (l' := [(0, .ref rm), (1, .int (i32 v1))]) hl [0, 1] rfl) hc
theorem dX16_empty_0 : decode cX16_empty 0 = .ok (.iconst 0, 1) := by decide +kernel
theorem dX16_empty_1 : decode cX16_empty 1 = .ok (.istore_n 1, 1) := by decide +kernel
theorem dX16_empty_2 : decode cX16_empty 2 = .ok (.iload_n 1, 1) := by decide +kernel
theorem dX16_empty_3 : decode cX16_empty 3 = .ok (.sipush 12802, 3) := by decide +kernel
theorem dX16_empty_6 : decode cX16_empty 6 = .ok (.if_icmp .ge 31, 3) := by decide +kernel
theorem dX16_empty_9 : decode cX16_empty 9 = .ok (.aload_n 0, 1) := by decide +kernel
theorem dX16_empty_10 : decode cX16_empty 10 = .ok (.getfield 405, 3) := by decide +kernel
theorem dX16_empty_13 : decode cX16_empty 13 = .ok (.iload_n 1, 1) := by decide +kernel
theorem dX16_empty_14 : decode cX16_empty 14 = .ok (.iload_n 1, 1) := by decide +kernel
theorem dX16_empty_15 : decode cX16_empty 15 = .ok (.iconst 1, 1) := by decide +kernel
theorem dX16_empty_16 : decode cX16_empty 16 = .ok (.iadd, 1) := by decide +kernel
theorem dX16_empty_17 : decode cX16_empty 17 = .ok (.sipush 12802, 3) := by decide +kernel
theorem dX16_empty_20 : decode cX16_empty 20 = .ok (.if_icmp .ge 9, 3) := by decide +kernel
theorem dX16_empty_23 : decode cX16_empty 23 = .ok (.iload_n 1, 1) := by decide +kernel
theorem dX16_empty_24 : decode cX16_empty 24 = .ok (.iconst 1, 1) := by decide +kernel
theorem dX16_empty_25 : decode cX16_empty 25 = .ok (.iadd, 1) := by decide +kernel
theorem dX16_empty_26 : decode cX16_empty 26 = .ok (.goto 4, 3) := by decide +kernel
theorem dX16_empty_29 : decode cX16_empty 29 = .ok (.iconst (-1), 1) := by decide +kernel
theorem dX16_empty_30 : decode cX16_empty 30 = .ok (.iastore, 1) := by decide +kernel
theorem dX16_empty_31 : decode cX16_empty 31 = .ok (.iinc 1 1, 3) := by decide +kernel
theorem dX16_empty_34 : decode cX16_empty 34 = .ok (.goto (-32), 3) := by decide +kernel
theorem dX16_empty_37 : decode cX16_empty 37 = .ok (.aload_n 0, 1) := by decide +kernel
theorem dX16_empty_38 : decode cX16_empty 38 = .ok (.iconst 0, 1) := by decide +kernel
theorem dX16_empty_39 : decode cX16_empty 39 = .ok (.putfield 408, 3) := by decide +kernel
theorem dX16_empty_42 : decode cX16_empty 42 = .ok (.aload_n 0, 1) := by decide +kernel
theorem dX16_empty_43 : decode cX16_empty 43 = .ok (.iconst 0, 1) := by decide +kernel
theorem dX16_empty_44 : decode cX16_empty 44 = .ok (.putfield 411, 3) := by decide +kernel
theorem dX16_empty_47 : decode cX16_empty 47 = .ok (.iconst 0, 1) := by decide +kernel
theorem dX16_empty_48 : decode cX16_empty 48 = .ok (.istore_n 1, 1) := by decide +kernel
theorem dX16_empty_49 : decode cX16_empty 49 = .ok (.iload_n 1, 1) := by decide +kernel
theorem dX16_empty_50 : decode cX16_empty 50 = .ok (.bipush 64, 2) := by decide +kernel
theorem dX16_empty_52 : decode cX16_empty 52 = .ok (.if_icmp .ge 74, 3) := by decide +kernel
theorem dX16_empty_55 : decode cX16_empty 55 = .ok (.aload_n 0, 1) := by decide +kernel
theorem dX16_empty_56 : decode cX16_empty 56 = .ok (.getfield 414, 3) := by decide +kernel
theorem dX16_empty_59 : decode cX16_empty 59 = .ok (.iload_n 1, 1) := by decide +kernel
theorem dX16_empty_60 : decode cX16_empty 60 = .ok (.ldc2_w 417, 3) := by decide +kernel
theorem dX16_empty_63 : decode cX16_empty 63 = .ok (.lastore, 1) := by decide +kernel
theorem dX16_empty_64 : decode cX16_empty 64 = .ok (.aload_n 0, 1) := by decide +kernel
theorem dX16_empty_65 : decode cX16_empty 65 = .ok (.getfield 419, 3) := by decide +kernel
theorem dX16_empty_68 : decode cX16_empty 68 = .ok (.iload_n 1, 1) := by decide +kernel
theorem dX16_empty_69 : decode cX16_empty 69 = .ok (.iconst 0, 1) := by decide +kernel
theorem dX16_empty_70 : decode cX16_empty 70 = .ok (.iastore, 1) := by decide +kernel
theorem dX16_empty_71 : decode cX16_empty 71 = .ok (.aload_n 0, 1) := by decide +kernel
theorem dX16_empty_72 : decode cX16_empty 72 = .ok (.getfield 422, 3) := by decide +kernel
theorem dX16_empty_75 : decode cX16_empty 75 = .ok (.iload_n 1, 1) := by decide +kernel
theorem dX16_empty_76 : decode cX16_empty 76 = .ok (.iconst 0, 1) := by decide +kernel
theorem dX16_empty_77 : decode cX16_empty 77 = .ok (.iastore, 1) := by decide +kernel
theorem dX16_empty_78 : decode cX16_empty 78 = .ok (.aload_n 0, 1) := by decide +kernel
theorem dX16_empty_79 : decode cX16_empty 79 = .ok (.getfield 425, 3) := by decide +kernel
theorem dX16_empty_82 : decode cX16_empty 82 = .ok (.iload_n 1, 1) := by decide +kernel
theorem dX16_empty_83 : decode cX16_empty 83 = .ok (.iconst 0, 1) := by decide +kernel
theorem dX16_empty_84 : decode cX16_empty 84 = .ok (.iastore, 1) := by decide +kernel
theorem dX16_empty_85 : decode cX16_empty 85 = .ok (.aload_n 0, 1) := by decide +kernel
theorem dX16_empty_86 : decode cX16_empty 86 = .ok (.getfield 428, 3) := by decide +kernel
theorem dX16_empty_89 : decode cX16_empty 89 = .ok (.iload_n 1, 1) := by decide +kernel
theorem dX16_empty_90 : decode cX16_empty 90 = .ok (.iconst 0, 1) := by decide +kernel
theorem dX16_empty_91 : decode cX16_empty 91 = .ok (.bastore, 1) := by decide +kernel
theorem dX16_empty_92 : decode cX16_empty 92 = .ok (.aload_n 0, 1) := by decide +kernel
theorem dX16_empty_93 : decode cX16_empty 93 = .ok (.getfield 432, 3) := by decide +kernel
theorem dX16_empty_96 : decode cX16_empty 96 = .ok (.iload_n 1, 1) := by decide +kernel
theorem dX16_empty_97 : decode cX16_empty 97 = .ok (.iconst (-1), 1) := by decide +kernel
theorem dX16_empty_98 : decode cX16_empty 98 = .ok (.iastore, 1) := by decide +kernel
theorem dX16_empty_99 : decode cX16_empty 99 = .ok (.aload_n 0, 1) := by decide +kernel
theorem dX16_empty_100 : decode cX16_empty 100 = .ok (.getfield 435, 3) := by decide +kernel
theorem dX16_empty_103 : decode cX16_empty 103 = .ok (.iload_n 1, 1) := by decide +kernel
theorem dX16_empty_104 : decode cX16_empty 104 = .ok (.iconst (-1), 1) := by decide +kernel
theorem dX16_empty_105 : decode cX16_empty 105 = .ok (.iastore, 1) := by decide +kernel
theorem dX16_empty_106 : decode cX16_empty 106 = .ok (.aload_n 0, 1) := by decide +kernel
theorem dX16_empty_107 : decode cX16_empty 107 = .ok (.getfield 438, 3) := by decide +kernel
theorem dX16_empty_110 : decode cX16_empty 110 = .ok (.iload_n 1, 1) := by decide +kernel
theorem dX16_empty_111 : decode cX16_empty 111 = .ok (.iconst (-1), 1) := by decide +kernel
theorem dX16_empty_112 : decode cX16_empty 112 = .ok (.iastore, 1) := by decide +kernel
theorem dX16_empty_113 : decode cX16_empty 113 = .ok (.aload_n 0, 1) := by decide +kernel
theorem dX16_empty_114 : decode cX16_empty 114 = .ok (.getfield 441, 3) := by decide +kernel
theorem dX16_empty_117 : decode cX16_empty 117 = .ok (.iload_n 1, 1) := by decide +kernel
theorem dX16_empty_118 : decode cX16_empty 118 = .ok (.iconst 0, 1) := by decide +kernel
theorem dX16_empty_119 : decode cX16_empty 119 = .ok (.iastore, 1) := by decide +kernel
theorem dX16_empty_120 : decode cX16_empty 120 = .ok (.iinc 1 1, 3) := by decide +kernel
theorem dX16_empty_123 : decode cX16_empty 123 = .ok (.goto (-74), 3) := by decide +kernel
theorem dX16_empty_126 : decode cX16_empty 126 = .ok (.iconst 0, 1) := by decide +kernel
theorem dX16_empty_127 : decode cX16_empty 127 = .ok (.istore_n 1, 1) := by decide +kernel
theorem dX16_empty_128 : decode cX16_empty 128 = .ok (.iload_n 1, 1) := by decide +kernel
theorem dX16_empty_129 : decode cX16_empty 129 = .ok (.bipush 32, 2) := by decide +kernel
theorem dX16_empty_131 : decode cX16_empty 131 = .ok (.if_icmp .ge 16, 3) := by decide +kernel
theorem dX16_empty_134 : decode cX16_empty 134 = .ok (.aload_n 0, 1) := by decide +kernel
theorem dX16_empty_135 : decode cX16_empty 135 = .ok (.getfield 444, 3) := by decide +kernel
theorem dX16_empty_138 : decode cX16_empty 138 = .ok (.iload_n 1, 1) := by decide +kernel
theorem dX16_empty_139 : decode cX16_empty 139 = .ok (.lconst 0, 1) := by decide +kernel
theorem dX16_empty_140 : decode cX16_empty 140 = .ok (.lastore, 1) := by decide +kernel
theorem dX16_empty_141 : decode cX16_empty 141 = .ok (.iinc 1 1, 3) := by decide +kernel
theorem dX16_empty_144 : decode cX16_empty 144 = .ok (.goto (-16), 3) := by decide +kernel
theorem dX16_empty_147 : decode cX16_empty 147 = .ok (.iconst 0, 1) := by decide +kernel
theorem dX16_empty_148 : decode cX16_empty 148 = .ok (.istore_n 1, 1) := by decide +kernel
theorem dX16_empty_149 : decode cX16_empty 149 = .ok (.iload_n 1, 1) := by decide +kernel
theorem dX16_empty_150 : decode cX16_empty 150 = .ok (.sipush 1100, 3) := by decide +kernel
theorem dX16_empty_153 : decode cX16_empty 153 = .ok (.if_icmp .ge 46, 3) := by decide +kernel
theorem dX16_empty_156 : decode cX16_empty 156 = .ok (.aload_n 0, 1) := by decide +kernel
theorem dX16_empty_157 : decode cX16_empty 157 = .ok (.getfield 447, 3) := by decide +kernel
theorem dX16_empty_160 : decode cX16_empty 160 = .ok (.iload_n 1, 1) := by decide +kernel
theorem dX16_empty_161 : decode cX16_empty 161 = .ok (.iconst 0, 1) := by decide +kernel
theorem dX16_empty_162 : decode cX16_empty 162 = .ok (.iastore, 1) := by decide +kernel
theorem dX16_empty_163 : decode cX16_empty 163 = .ok (.aload_n 0, 1) := by decide +kernel
theorem dX16_empty_164 : decode cX16_empty 164 = .ok (.getfield 450, 3) := by decide +kernel
theorem dX16_empty_167 : decode cX16_empty 167 = .ok (.iload_n 1, 1) := by decide +kernel
theorem dX16_empty_168 : decode cX16_empty 168 = .ok (.iconst 0, 1) := by decide +kernel
theorem dX16_empty_169 : decode cX16_empty 169 = .ok (.iastore, 1) := by decide +kernel
theorem dX16_empty_170 : decode cX16_empty 170 = .ok (.aload_n 0, 1) := by decide +kernel
theorem dX16_empty_171 : decode cX16_empty 171 = .ok (.getfield 453, 3) := by decide +kernel
theorem dX16_empty_174 : decode cX16_empty 174 = .ok (.iload_n 1, 1) := by decide +kernel
theorem dX16_empty_175 : decode cX16_empty 175 = .ok (.ldc2_w 417, 3) := by decide +kernel
theorem dX16_empty_178 : decode cX16_empty 178 = .ok (.lastore, 1) := by decide +kernel
theorem dX16_empty_179 : decode cX16_empty 179 = .ok (.aload_n 0, 1) := by decide +kernel
theorem dX16_empty_180 : decode cX16_empty 180 = .ok (.getfield 456, 3) := by decide +kernel
theorem dX16_empty_183 : decode cX16_empty 183 = .ok (.iload_n 1, 1) := by decide +kernel
theorem dX16_empty_184 : decode cX16_empty 184 = .ok (.iconst 0, 1) := by decide +kernel
theorem dX16_empty_185 : decode cX16_empty 185 = .ok (.bastore, 1) := by decide +kernel
theorem dX16_empty_186 : decode cX16_empty 186 = .ok (.aload_n 0, 1) := by decide +kernel
theorem dX16_empty_187 : decode cX16_empty 187 = .ok (.getfield 459, 3) := by decide +kernel
theorem dX16_empty_190 : decode cX16_empty 190 = .ok (.iload_n 1, 1) := by decide +kernel
theorem dX16_empty_191 : decode cX16_empty 191 = .ok (.lconst 0, 1) := by decide +kernel
theorem dX16_empty_192 : decode cX16_empty 192 = .ok (.lastore, 1) := by decide +kernel
theorem dX16_empty_193 : decode cX16_empty 193 = .ok (.iinc 1 1, 3) := by decide +kernel
theorem dX16_empty_196 : decode cX16_empty 196 = .ok (.goto (-47), 3) := by decide +kernel
theorem dX16_empty_199 : decode cX16_empty 199 = .ok (.return_, 1) := by decide +kernel
set_option maxRecDepth 20000 in
theorem a_X16_empty_199 {p : Program} {l : Launch} {e : Env} {R : Room} {s : State} {m : MethodId} {args : Array Value} {below : List Frame} {meth : Method} {c : Code} {D : va_G} {cA : Nat → ClassId} {tys : List (ClassId × FieldType)} {A : Nat → Prop} {n0 s0 : Nat} {QM : State → Prop} {ra : Nat → Nat} {jx : Nat → Nat → Nat} {rm : Nat} {Q : Sg → Unit → Prop} {X : Sg → String → Prop} (B : Cx p s m args c cX16_empty 2 RX16 D cA tys A) (hT : Tys cA tys) (hR : Rm R n0 s0) (hFr : 0 ≤ R.frames) (hLw : 0 ≤ R.locals) (hQ : ∀ (pc : Nat) (ls : Array Slot) (σ : Sg) (H : Heap) (locs : List Loc), decode cX16_empty pc = .ok (.return_, 1) → Hd D cA A s σ H locs → CB n0 s0 σ → Q σ () → RG σ → Shp ra jx rm σ → W p l e R s m args below meth c H locs (gc σ - n0) (gs σ - s0) QM (F0 m pc ls [])) (hX : ∀ (σ : Sg) (E : String) (pc : Nat) (lo : List (Nat × Value)) (st : List Value), X σ E → RG σ → Shp ra jx rm σ → JX p l e R s m args below meth c 2 D cA A n0 s0 QM σ E pc lo st) : ∀ (σ : Sg), w_X16_empty_199 ra jx rm Q X σ → RG σ → Shp ra jx rm σ → JJ p l e R s m args below meth c 2 D cA A n0 s0 QM σ 199 [(0, .ref rm)] [] := by
  intro σ h hGσ hS H locs ls hH hl hc
  unfold w_X16_empty_199 at h
  exact hQ _ _ _ _ _ dX16_empty_199 hH hc h hGσ hS
set_option maxRecDepth 20000 in
theorem a_X16_empty_156 {p : Program} {l : Launch} {e : Env} {R : Room} {s : State} {m : MethodId} {args : Array Value} {below : List Frame} {meth : Method} {c : Code} {D : va_G} {cA : Nat → ClassId} {tys : List (ClassId × FieldType)} {A : Nat → Prop} {n0 s0 : Nat} {QM : State → Prop} {ra : Nat → Nat} {jx : Nat → Nat → Nat} {rm : Nat} {Q : Sg → Unit → Prop} {X : Sg → String → Prop} (B : Cx p s m args c cX16_empty 2 RX16 D cA tys A) (hT : Tys cA tys) (hR : Rm R n0 s0) (hFr : 0 ≤ R.frames) (hLw : 0 ≤ R.locals) (hQ : ∀ (pc : Nat) (ls : Array Slot) (σ : Sg) (H : Heap) (locs : List Loc), decode cX16_empty pc = .ok (.return_, 1) → Hd D cA A s σ H locs → CB n0 s0 σ → Q σ () → RG σ → Shp ra jx rm σ → W p l e R s m args below meth c H locs (gc σ - n0) (gs σ - s0) QM (F0 m pc ls [])) (hX : ∀ (σ : Sg) (E : String) (pc : Nat) (lo : List (Nat × Value)) (st : List Value), X σ E → RG σ → Shp ra jx rm σ → JX p l e R s m args below meth c 2 D cA A n0 s0 QM σ E pc lo st) {K149 : Sg → Int → Prop} (hK149 : ∀ (σ : Sg) (v1 : Int) (g1 : rng v1), K149 σ v1 → RG σ → Shp ra jx rm σ → JJ p l e R s m args below meth c 2 D cA A n0 s0 QM σ 149 [(0, .ref rm), (1, .int (i32 v1))] []) : ∀ (σ : Sg) (v1 : Int) (g1 : rng v1), w_X16_empty_156 ra jx rm K149 Q X σ v1 → RG σ → Shp ra jx rm σ → JJ p l e R s m args below meth c 2 D cA A n0 s0 QM σ 156 [(0, .ref rm), (1, .int (i32 v1))] [] := by
  intro σ v1 g1 h hGσ hS H locs ls hH hl hc
  unfold w_X16_empty_156 at h
  refine lv_aload_n B.1 B.2.1 dX16_empty_156 rfl (lv_at hl 0 rfl) ?_
  refine r_arr B hH hS 54 (kd := 100) (n := 1100) (by decide) (by decide) wf_X16_447 rfl (by decide) dX16_empty_157 ?_
  refine lv_iload_n B.1 B.2.1 dX16_empty_160 rfl (lv_at hl 1 rfl) ?_
  refine lv_iconst (v := i32 0) B.1 B.2.1 dX16_empty_161 (by decide) ?_
  obtain ⟨q1, h⟩ := h
  obtain ⟨σ37, eσ37⟩ : ∃ z, z = pI σ (ra 54) v1.toNat 0 := ⟨_, rfl⟩
  have h := h σ37 eσ37
  refine r_iast B hT hH hS 54 (n := 1100) (by decide) (by decide) q1 dX16_empty_162 (fun H locs hH => ?_)
  have hH : Hd D cA A s (pI σ (ra 54) v1.toNat 0) H locs := hH
  rw [← eσ37] at hH
  have hGσ37 : RG σ37 := by rw [eσ37]; exact hGσ.pI (by unfold rng; omega)
  have hS : Shp ra jx rm σ37 := by rw [eσ37]; exact hS
  have hc : CB n0 s0 σ37 := by rw [eσ37]; exact hc
  rw [show gc σ = gc σ37 by rw [eσ37], show gs σ = gs σ37 by rw [eσ37]]
  refine lv_aload_n B.1 B.2.1 dX16_empty_163 rfl (lv_at hl 0 rfl) ?_
  refine r_arr B hH hS 55 (kd := 100) (n := 1100) (by decide) (by decide) wf_X16_450 rfl (by decide) dX16_empty_164 ?_
  refine lv_iload_n B.1 B.2.1 dX16_empty_167 rfl (lv_at hl 1 rfl) ?_
  refine lv_iconst (v := i32 0) B.1 B.2.1 dX16_empty_168 (by decide) ?_
  obtain ⟨q2, h⟩ := h
  obtain ⟨σ38, eσ38⟩ : ∃ z, z = pI σ37 (ra 55) v1.toNat 0 := ⟨_, rfl⟩
  have h := h σ38 eσ38
  refine r_iast B hT hH hS 55 (n := 1100) (by decide) (by decide) q2 dX16_empty_169 (fun H locs hH => ?_)
  have hH : Hd D cA A s (pI σ37 (ra 55) v1.toNat 0) H locs := hH
  rw [← eσ38] at hH
  have hGσ38 : RG σ38 := by rw [eσ38]; exact hGσ37.pI (by unfold rng; omega)
  have hS : Shp ra jx rm σ38 := by rw [eσ38]; exact hS
  have hc : CB n0 s0 σ38 := by rw [eσ38]; exact hc
  rw [show gc σ37 = gc σ38 by rw [eσ38], show gs σ37 = gs σ38 by rw [eσ38]]
  refine lv_aload_n B.1 B.2.1 dX16_empty_170 rfl (lv_at hl 0 rfl) ?_
  refine r_arr B hH hS 56 (kd := 101) (n := 1100) (by decide) (by decide) wf_X16_453 rfl (by decide) dX16_empty_171 ?_
  refine lv_iload_n B.1 B.2.1 dX16_empty_174 rfl (lv_at hl 1 rfl) ?_
  refine lv_ldc2 B.1 B.2.1 B.2.2.1 (B.2.2.2.1 _ (wk_X16_417)) dX16_empty_175 ?_
  obtain ⟨q3, h⟩ := h
  obtain ⟨σ39, eσ39⟩ : ∃ z, z = pJ σ38 (ra 56) v1.toNat (-1) := ⟨_, rfl⟩
  have h := h σ39 eσ39
  refine r_last B hT hH hS 56 (n := 1100) (by decide) (by decide) q3 dX16_empty_178 (fun H locs hH => ?_)
  have hH : Hd D cA A s (pJ σ38 (ra 56) v1.toNat (-1)) H locs := hH
  rw [← eσ39] at hH
  have hGσ39 : RG σ39 := by rw [eσ39]; exact hGσ38.pJ
  have hS : Shp ra jx rm σ39 := by rw [eσ39]; exact hS
  have hc : CB n0 s0 σ39 := by rw [eσ39]; exact hc
  rw [show gc σ38 = gc σ39 by rw [eσ39], show gs σ38 = gs σ39 by rw [eσ39]]
  refine lv_aload_n B.1 B.2.1 dX16_empty_179 rfl (lv_at hl 0 rfl) ?_
  refine r_arr B hH hS 57 (kd := 103) (n := 1100) (by decide) (by decide) wf_X16_456 rfl (by decide) dX16_empty_180 ?_
  refine lv_iload_n B.1 B.2.1 dX16_empty_183 rfl (lv_at hl 1 rfl) ?_
  refine lv_iconst (v := i32 0) B.1 B.2.1 dX16_empty_184 (by decide) ?_
  obtain ⟨q4, h⟩ := h
  obtain ⟨σ40, eσ40⟩ : ∃ z, z = pI σ39 (ra 57) v1.toNat ((vp_nar .boolean (i32 0)).toInt) := ⟨_, rfl⟩
  have h := h σ40 eσ40
  refine r_zast B hT hH hS 57 (n := 1100) (by decide) (by decide) q4 dX16_empty_185 (fun H locs hH => ?_)
  have hH : Hd D cA A s (pI σ39 (ra 57) v1.toNat ((vp_nar .boolean (i32 0)).toInt)) H locs := hH
  rw [← eσ40] at hH
  have hGσ40 : RG σ40 := by rw [eσ40]; exact hGσ39.pI (rng_toInt _)
  have hS : Shp ra jx rm σ40 := by rw [eσ40]; exact hS
  have hc : CB n0 s0 σ40 := by rw [eσ40]; exact hc
  rw [show gc σ39 = gc σ40 by rw [eσ40], show gs σ39 = gs σ40 by rw [eσ40]]
  refine lv_aload_n B.1 B.2.1 dX16_empty_186 rfl (lv_at hl 0 rfl) ?_
  refine r_arr B hH hS 58 (kd := 101) (n := 1100) (by decide) (by decide) wf_X16_459 rfl (by decide) dX16_empty_187 ?_
  refine lv_iload_n B.1 B.2.1 dX16_empty_190 rfl (lv_at hl 1 rfl) ?_
  refine lv_lconst (v := 0) B.1 B.2.1 dX16_empty_191 (by decide) ?_
  obtain ⟨q5, h⟩ := h
  obtain ⟨σ41, eσ41⟩ : ∃ z, z = pJ σ40 (ra 58) v1.toNat 0 := ⟨_, rfl⟩
  have h := h σ41 eσ41
  refine r_last B hT hH hS 58 (n := 1100) (by decide) (by decide) q5 dX16_empty_192 (fun H locs hH => ?_)
  have hH : Hd D cA A s (pJ σ40 (ra 58) v1.toNat 0) H locs := hH
  rw [← eσ41] at hH
  have hGσ41 : RG σ41 := by rw [eσ41]; exact hGσ40.pJ
  have hS : Shp ra jx rm σ41 := by rw [eσ41]; exact hS
  have hc : CB n0 s0 σ41 := by rw [eσ41]; exact hc
  rw [show gc σ40 = gc σ41 by rw [eσ41], show gs σ40 = gs σ41 by rw [eσ41]]
  obtain ⟨q6, h⟩ := h
  refine lv_iinc (k := 1) (v := i32 (v1 + 1)) (lv' := [(1, .int (i32 (v1 + 1))), (0, .ref rm)]) B.1 B.2.1 dX16_empty_193 hl rfl (i32_add _ _) (by decide) rfl (fun ls hl => ?_)
  refine lv_goto (tgt := 149) B.1 B.2.1 dX16_empty_196 (by decide) ?_
  exact hK149 _ _ q6 h hGσ41 hS _ _ _ hH (lv_sub (l' := [(0, .ref rm), (1, .int (i32 (v1 + 1)))]) hl [1, 0] rfl) hc
set_option maxRecDepth 20000 in
theorem a_X16_empty_149 {p : Program} {l : Launch} {e : Env} {R : Room} {s : State} {m : MethodId} {args : Array Value} {below : List Frame} {meth : Method} {c : Code} {D : va_G} {cA : Nat → ClassId} {tys : List (ClassId × FieldType)} {A : Nat → Prop} {n0 s0 : Nat} {QM : State → Prop} {ra : Nat → Nat} {jx : Nat → Nat → Nat} {rm : Nat} {Q : Sg → Unit → Prop} {X : Sg → String → Prop} (B : Cx p s m args c cX16_empty 2 RX16 D cA tys A) (hT : Tys cA tys) (hR : Rm R n0 s0) (hFr : 0 ≤ R.frames) (hLw : 0 ≤ R.locals) (hQ : ∀ (pc : Nat) (ls : Array Slot) (σ : Sg) (H : Heap) (locs : List Loc), decode cX16_empty pc = .ok (.return_, 1) → Hd D cA A s σ H locs → CB n0 s0 σ → Q σ () → RG σ → Shp ra jx rm σ → W p l e R s m args below meth c H locs (gc σ - n0) (gs σ - s0) QM (F0 m pc ls [])) (hX : ∀ (σ : Sg) (E : String) (pc : Nat) (lo : List (Nat × Value)) (st : List Value), X σ E → RG σ → Shp ra jx rm σ → JX p l e R s m args below meth c 2 D cA A n0 s0 QM σ E pc lo st) {K149 : Sg → Int → Prop} (hK149 : ∀ (σ : Sg) (v1 : Int) (g1 : rng v1), K149 σ v1 → RG σ → Shp ra jx rm σ → JJ p l e R s m args below meth c 2 D cA A n0 s0 QM σ 149 [(0, .ref rm), (1, .int (i32 v1))] []) : ∀ (σ : Sg) (v1 : Int) (g1 : rng v1), w_X16_empty_149 ra jx rm K149 Q X σ v1 → RG σ → Shp ra jx rm σ → JJ p l e R s m args below meth c 2 D cA A n0 s0 QM σ 149 [(0, .ref rm), (1, .int (i32 v1))] [] := by
  intro σ v1 g1 h hGσ hS H locs ls hH hl hc
  unfold w_X16_empty_149 at h
  refine lv_iload_n B.1 B.2.1 dX16_empty_149 rfl (lv_at hl 1 rfl) ?_
  refine lv_sipush (v := i32 1100) B.1 B.2.1 dX16_empty_150 (by decide) ?_
  refine lv_icmp_ge (tgt := 199) B.1 B.2.1 dX16_empty_153 (by decide) (fun h9 => ?_) (fun h9 => ?_)
  · rw [if_pos ((i32_le (by unfold rng; omega) g1).mp h9)] at h
    exact a_X16_empty_199 B hT hR hFr hLw hQ hX _ h hGσ hS _ _ _ hH (lv_sub (l' := [(0, .ref rm)]) hl [0] rfl) hc
  · rw [if_neg (fun q => h9 ((i32_le (by unfold rng; omega) g1).mpr q))] at h
    exact a_X16_empty_156 B hT hR hFr hLw hQ hX hK149 _ _ g1 h hGσ hS _ _ _ hH (lv_sub (l' := [(0, .ref rm), (1, .int (i32 v1))]) hl [0, 1] rfl) hc
theorem al_X16_empty_149 {p : Program} {l : Launch} {e : Env} {R : Room} {s : State} {m : MethodId} {args : Array Value} {below : List Frame} {meth : Method} {c : Code} {D : va_G} {cA : Nat → ClassId} {tys : List (ClassId × FieldType)} {A : Nat → Prop} {n0 s0 : Nat} {QM : State → Prop} {ra : Nat → Nat} {jx : Nat → Nat → Nat} {rm : Nat} {Q : Sg → Unit → Prop} {X : Sg → String → Prop} (B : Cx p s m args c cX16_empty 2 RX16 D cA tys A) (hT : Tys cA tys) (hR : Rm R n0 s0) (hFr : 0 ≤ R.frames) (hLw : 0 ≤ R.locals) (hQ : ∀ (pc : Nat) (ls : Array Slot) (σ : Sg) (H : Heap) (locs : List Loc), decode cX16_empty pc = .ok (.return_, 1) → Hd D cA A s σ H locs → CB n0 s0 σ → Q σ () → RG σ → Shp ra jx rm σ → W p l e R s m args below meth c H locs (gc σ - n0) (gs σ - s0) QM (F0 m pc ls [])) (hX : ∀ (σ : Sg) (E : String) (pc : Nat) (lo : List (Nat × Value)) (st : List Value), X σ E → RG σ → Shp ra jx rm σ → JX p l e R s m args below meth c 2 D cA A n0 s0 QM σ E pc lo st) : ∀ (n : Nat), ∀ (σ : Sg) (v1 : Int) (g1 : rng v1), wl_X16_empty_149 ra jx rm Q X n σ v1 → RG σ → Shp ra jx rm σ → JJ p l e R s m args below meth c 2 D cA A n0 s0 QM σ 149 [(0, .ref rm), (1, .int (i32 v1))] [] := by
  intro n
  induction n with
  | zero => intro σ v1 g1 h; exact h.elim
  | succ n ih => exact fun σ v1 g1 h => a_X16_empty_149 B hT hR hFr hLw hQ hX ih σ v1 g1 h
set_option maxRecDepth 20000 in
theorem a_X16_empty_147 {p : Program} {l : Launch} {e : Env} {R : Room} {s : State} {m : MethodId} {args : Array Value} {below : List Frame} {meth : Method} {c : Code} {D : va_G} {cA : Nat → ClassId} {tys : List (ClassId × FieldType)} {A : Nat → Prop} {n0 s0 : Nat} {QM : State → Prop} {ra : Nat → Nat} {jx : Nat → Nat → Nat} {rm : Nat} {Q : Sg → Unit → Prop} {X : Sg → String → Prop} (B : Cx p s m args c cX16_empty 2 RX16 D cA tys A) (hT : Tys cA tys) (hR : Rm R n0 s0) (hFr : 0 ≤ R.frames) (hLw : 0 ≤ R.locals) (hQ : ∀ (pc : Nat) (ls : Array Slot) (σ : Sg) (H : Heap) (locs : List Loc), decode cX16_empty pc = .ok (.return_, 1) → Hd D cA A s σ H locs → CB n0 s0 σ → Q σ () → RG σ → Shp ra jx rm σ → W p l e R s m args below meth c H locs (gc σ - n0) (gs σ - s0) QM (F0 m pc ls [])) (hX : ∀ (σ : Sg) (E : String) (pc : Nat) (lo : List (Nat × Value)) (st : List Value), X σ E → RG σ → Shp ra jx rm σ → JX p l e R s m args below meth c 2 D cA A n0 s0 QM σ E pc lo st) : ∀ (σ : Sg), w_X16_empty_147 ra jx rm Q X σ → RG σ → Shp ra jx rm σ → JJ p l e R s m args below meth c 2 D cA A n0 s0 QM σ 147 [(0, .ref rm)] [] := by
  intro σ h hGσ hS H locs ls hH hl hc
  unfold w_X16_empty_147 at h
  refine lv_iconst (v := i32 0) B.1 B.2.1 dX16_empty_147 (by decide) ?_
  refine lv_istore_n (lv' := [(1, .int (i32 0)), (0, .ref rm)]) B.1 B.2.1 dX16_empty_148 rfl hl (by decide) rfl (fun ls hl => ?_)
  obtain ⟨n9, h⟩ := h
  exact al_X16_empty_149 B hT hR hFr hLw hQ hX n9 _ _ (by unfold rng; omega) h hGσ hS _ _ _ hH (lv_sub (l' := [(0, .ref rm), (1, .int (i32 0))]) hl [1, 0] rfl) hc
set_option maxRecDepth 20000 in
theorem a_X16_empty_134 {p : Program} {l : Launch} {e : Env} {R : Room} {s : State} {m : MethodId} {args : Array Value} {below : List Frame} {meth : Method} {c : Code} {D : va_G} {cA : Nat → ClassId} {tys : List (ClassId × FieldType)} {A : Nat → Prop} {n0 s0 : Nat} {QM : State → Prop} {ra : Nat → Nat} {jx : Nat → Nat → Nat} {rm : Nat} {Q : Sg → Unit → Prop} {X : Sg → String → Prop} (B : Cx p s m args c cX16_empty 2 RX16 D cA tys A) (hT : Tys cA tys) (hR : Rm R n0 s0) (hFr : 0 ≤ R.frames) (hLw : 0 ≤ R.locals) (hQ : ∀ (pc : Nat) (ls : Array Slot) (σ : Sg) (H : Heap) (locs : List Loc), decode cX16_empty pc = .ok (.return_, 1) → Hd D cA A s σ H locs → CB n0 s0 σ → Q σ () → RG σ → Shp ra jx rm σ → W p l e R s m args below meth c H locs (gc σ - n0) (gs σ - s0) QM (F0 m pc ls [])) (hX : ∀ (σ : Sg) (E : String) (pc : Nat) (lo : List (Nat × Value)) (st : List Value), X σ E → RG σ → Shp ra jx rm σ → JX p l e R s m args below meth c 2 D cA A n0 s0 QM σ E pc lo st) {K128 : Sg → Int → Prop} (hK128 : ∀ (σ : Sg) (v1 : Int) (g1 : rng v1), K128 σ v1 → RG σ → Shp ra jx rm σ → JJ p l e R s m args below meth c 2 D cA A n0 s0 QM σ 128 [(0, .ref rm), (1, .int (i32 v1))] []) : ∀ (σ : Sg) (v1 : Int) (g1 : rng v1), w_X16_empty_134 ra jx rm K128 Q X σ v1 → RG σ → Shp ra jx rm σ → JJ p l e R s m args below meth c 2 D cA A n0 s0 QM σ 134 [(0, .ref rm), (1, .int (i32 v1))] [] := by
  intro σ v1 g1 h hGσ hS H locs ls hH hl hc
  unfold w_X16_empty_134 at h
  refine lv_aload_n B.1 B.2.1 dX16_empty_134 rfl (lv_at hl 0 rfl) ?_
  refine r_arr B hH hS 49 (kd := 101) (n := 32) (by decide) (by decide) wf_X16_444 rfl (by decide) dX16_empty_135 ?_
  refine lv_iload_n B.1 B.2.1 dX16_empty_138 rfl (lv_at hl 1 rfl) ?_
  refine lv_lconst (v := 0) B.1 B.2.1 dX16_empty_139 (by decide) ?_
  obtain ⟨q1, h⟩ := h
  obtain ⟨σ42, eσ42⟩ : ∃ z, z = pJ σ (ra 49) v1.toNat 0 := ⟨_, rfl⟩
  have h := h σ42 eσ42
  refine r_last B hT hH hS 49 (n := 32) (by decide) (by decide) q1 dX16_empty_140 (fun H locs hH => ?_)
  have hH : Hd D cA A s (pJ σ (ra 49) v1.toNat 0) H locs := hH
  rw [← eσ42] at hH
  have hGσ42 : RG σ42 := by rw [eσ42]; exact hGσ.pJ
  have hS : Shp ra jx rm σ42 := by rw [eσ42]; exact hS
  have hc : CB n0 s0 σ42 := by rw [eσ42]; exact hc
  rw [show gc σ = gc σ42 by rw [eσ42], show gs σ = gs σ42 by rw [eσ42]]
  obtain ⟨q2, h⟩ := h
  refine lv_iinc (k := 1) (v := i32 (v1 + 1)) (lv' := [(1, .int (i32 (v1 + 1))), (0, .ref rm)]) B.1 B.2.1 dX16_empty_141 hl rfl (i32_add _ _) (by decide) rfl (fun ls hl => ?_)
  refine lv_goto (tgt := 128) B.1 B.2.1 dX16_empty_144 (by decide) ?_
  exact hK128 _ _ q2 h hGσ42 hS _ _ _ hH (lv_sub (l' := [(0, .ref rm), (1, .int (i32 (v1 + 1)))]) hl [1, 0] rfl) hc
set_option maxRecDepth 20000 in
theorem a_X16_empty_128 {p : Program} {l : Launch} {e : Env} {R : Room} {s : State} {m : MethodId} {args : Array Value} {below : List Frame} {meth : Method} {c : Code} {D : va_G} {cA : Nat → ClassId} {tys : List (ClassId × FieldType)} {A : Nat → Prop} {n0 s0 : Nat} {QM : State → Prop} {ra : Nat → Nat} {jx : Nat → Nat → Nat} {rm : Nat} {Q : Sg → Unit → Prop} {X : Sg → String → Prop} (B : Cx p s m args c cX16_empty 2 RX16 D cA tys A) (hT : Tys cA tys) (hR : Rm R n0 s0) (hFr : 0 ≤ R.frames) (hLw : 0 ≤ R.locals) (hQ : ∀ (pc : Nat) (ls : Array Slot) (σ : Sg) (H : Heap) (locs : List Loc), decode cX16_empty pc = .ok (.return_, 1) → Hd D cA A s σ H locs → CB n0 s0 σ → Q σ () → RG σ → Shp ra jx rm σ → W p l e R s m args below meth c H locs (gc σ - n0) (gs σ - s0) QM (F0 m pc ls [])) (hX : ∀ (σ : Sg) (E : String) (pc : Nat) (lo : List (Nat × Value)) (st : List Value), X σ E → RG σ → Shp ra jx rm σ → JX p l e R s m args below meth c 2 D cA A n0 s0 QM σ E pc lo st) {K128 : Sg → Int → Prop} (hK128 : ∀ (σ : Sg) (v1 : Int) (g1 : rng v1), K128 σ v1 → RG σ → Shp ra jx rm σ → JJ p l e R s m args below meth c 2 D cA A n0 s0 QM σ 128 [(0, .ref rm), (1, .int (i32 v1))] []) : ∀ (σ : Sg) (v1 : Int) (g1 : rng v1), w_X16_empty_128 ra jx rm K128 Q X σ v1 → RG σ → Shp ra jx rm σ → JJ p l e R s m args below meth c 2 D cA A n0 s0 QM σ 128 [(0, .ref rm), (1, .int (i32 v1))] [] := by
  intro σ v1 g1 h hGσ hS H locs ls hH hl hc
  unfold w_X16_empty_128 at h
  refine lv_iload_n B.1 B.2.1 dX16_empty_128 rfl (lv_at hl 1 rfl) ?_
  refine lv_bipush (v := i32 32) B.1 B.2.1 dX16_empty_129 (by decide) ?_
  refine lv_icmp_ge (tgt := 147) B.1 B.2.1 dX16_empty_131 (by decide) (fun h9 => ?_) (fun h9 => ?_)
  · rw [if_pos ((i32_le (by unfold rng; omega) g1).mp h9)] at h
    exact a_X16_empty_147 B hT hR hFr hLw hQ hX _ h hGσ hS _ _ _ hH (lv_sub (l' := [(0, .ref rm)]) hl [0] rfl) hc
  · rw [if_neg (fun q => h9 ((i32_le (by unfold rng; omega) g1).mpr q))] at h
    exact a_X16_empty_134 B hT hR hFr hLw hQ hX hK128 _ _ g1 h hGσ hS _ _ _ hH (lv_sub (l' := [(0, .ref rm), (1, .int (i32 v1))]) hl [0, 1] rfl) hc
theorem al_X16_empty_128 {p : Program} {l : Launch} {e : Env} {R : Room} {s : State} {m : MethodId} {args : Array Value} {below : List Frame} {meth : Method} {c : Code} {D : va_G} {cA : Nat → ClassId} {tys : List (ClassId × FieldType)} {A : Nat → Prop} {n0 s0 : Nat} {QM : State → Prop} {ra : Nat → Nat} {jx : Nat → Nat → Nat} {rm : Nat} {Q : Sg → Unit → Prop} {X : Sg → String → Prop} (B : Cx p s m args c cX16_empty 2 RX16 D cA tys A) (hT : Tys cA tys) (hR : Rm R n0 s0) (hFr : 0 ≤ R.frames) (hLw : 0 ≤ R.locals) (hQ : ∀ (pc : Nat) (ls : Array Slot) (σ : Sg) (H : Heap) (locs : List Loc), decode cX16_empty pc = .ok (.return_, 1) → Hd D cA A s σ H locs → CB n0 s0 σ → Q σ () → RG σ → Shp ra jx rm σ → W p l e R s m args below meth c H locs (gc σ - n0) (gs σ - s0) QM (F0 m pc ls [])) (hX : ∀ (σ : Sg) (E : String) (pc : Nat) (lo : List (Nat × Value)) (st : List Value), X σ E → RG σ → Shp ra jx rm σ → JX p l e R s m args below meth c 2 D cA A n0 s0 QM σ E pc lo st) : ∀ (n : Nat), ∀ (σ : Sg) (v1 : Int) (g1 : rng v1), wl_X16_empty_128 ra jx rm Q X n σ v1 → RG σ → Shp ra jx rm σ → JJ p l e R s m args below meth c 2 D cA A n0 s0 QM σ 128 [(0, .ref rm), (1, .int (i32 v1))] [] := by
  intro n
  induction n with
  | zero => intro σ v1 g1 h; exact h.elim
  | succ n ih => exact fun σ v1 g1 h => a_X16_empty_128 B hT hR hFr hLw hQ hX ih σ v1 g1 h
set_option maxRecDepth 20000 in
theorem a_X16_empty_126 {p : Program} {l : Launch} {e : Env} {R : Room} {s : State} {m : MethodId} {args : Array Value} {below : List Frame} {meth : Method} {c : Code} {D : va_G} {cA : Nat → ClassId} {tys : List (ClassId × FieldType)} {A : Nat → Prop} {n0 s0 : Nat} {QM : State → Prop} {ra : Nat → Nat} {jx : Nat → Nat → Nat} {rm : Nat} {Q : Sg → Unit → Prop} {X : Sg → String → Prop} (B : Cx p s m args c cX16_empty 2 RX16 D cA tys A) (hT : Tys cA tys) (hR : Rm R n0 s0) (hFr : 0 ≤ R.frames) (hLw : 0 ≤ R.locals) (hQ : ∀ (pc : Nat) (ls : Array Slot) (σ : Sg) (H : Heap) (locs : List Loc), decode cX16_empty pc = .ok (.return_, 1) → Hd D cA A s σ H locs → CB n0 s0 σ → Q σ () → RG σ → Shp ra jx rm σ → W p l e R s m args below meth c H locs (gc σ - n0) (gs σ - s0) QM (F0 m pc ls [])) (hX : ∀ (σ : Sg) (E : String) (pc : Nat) (lo : List (Nat × Value)) (st : List Value), X σ E → RG σ → Shp ra jx rm σ → JX p l e R s m args below meth c 2 D cA A n0 s0 QM σ E pc lo st) : ∀ (σ : Sg), w_X16_empty_126 ra jx rm Q X σ → RG σ → Shp ra jx rm σ → JJ p l e R s m args below meth c 2 D cA A n0 s0 QM σ 126 [(0, .ref rm)] [] := by
  intro σ h hGσ hS H locs ls hH hl hc
  unfold w_X16_empty_126 at h
  refine lv_iconst (v := i32 0) B.1 B.2.1 dX16_empty_126 (by decide) ?_
  refine lv_istore_n (lv' := [(1, .int (i32 0)), (0, .ref rm)]) B.1 B.2.1 dX16_empty_127 rfl hl (by decide) rfl (fun ls hl => ?_)
  obtain ⟨n9, h⟩ := h
  exact al_X16_empty_128 B hT hR hFr hLw hQ hX n9 _ _ (by unfold rng; omega) h hGσ hS _ _ _ hH (lv_sub (l' := [(0, .ref rm), (1, .int (i32 0))]) hl [1, 0] rfl) hc
set_option maxRecDepth 20000 in
theorem a_X16_empty_55 {p : Program} {l : Launch} {e : Env} {R : Room} {s : State} {m : MethodId} {args : Array Value} {below : List Frame} {meth : Method} {c : Code} {D : va_G} {cA : Nat → ClassId} {tys : List (ClassId × FieldType)} {A : Nat → Prop} {n0 s0 : Nat} {QM : State → Prop} {ra : Nat → Nat} {jx : Nat → Nat → Nat} {rm : Nat} {Q : Sg → Unit → Prop} {X : Sg → String → Prop} (B : Cx p s m args c cX16_empty 2 RX16 D cA tys A) (hT : Tys cA tys) (hR : Rm R n0 s0) (hFr : 0 ≤ R.frames) (hLw : 0 ≤ R.locals) (hQ : ∀ (pc : Nat) (ls : Array Slot) (σ : Sg) (H : Heap) (locs : List Loc), decode cX16_empty pc = .ok (.return_, 1) → Hd D cA A s σ H locs → CB n0 s0 σ → Q σ () → RG σ → Shp ra jx rm σ → W p l e R s m args below meth c H locs (gc σ - n0) (gs σ - s0) QM (F0 m pc ls [])) (hX : ∀ (σ : Sg) (E : String) (pc : Nat) (lo : List (Nat × Value)) (st : List Value), X σ E → RG σ → Shp ra jx rm σ → JX p l e R s m args below meth c 2 D cA A n0 s0 QM σ E pc lo st) {K49 : Sg → Int → Prop} (hK49 : ∀ (σ : Sg) (v1 : Int) (g1 : rng v1), K49 σ v1 → RG σ → Shp ra jx rm σ → JJ p l e R s m args below meth c 2 D cA A n0 s0 QM σ 49 [(0, .ref rm), (1, .int (i32 v1))] []) : ∀ (σ : Sg) (v1 : Int) (g1 : rng v1), w_X16_empty_55 ra jx rm K49 Q X σ v1 → RG σ → Shp ra jx rm σ → JJ p l e R s m args below meth c 2 D cA A n0 s0 QM σ 55 [(0, .ref rm), (1, .int (i32 v1))] [] := by
  intro σ v1 g1 h hGσ hS H locs ls hH hl hc
  unfold w_X16_empty_55 at h
  refine lv_aload_n B.1 B.2.1 dX16_empty_55 rfl (lv_at hl 0 rfl) ?_
  refine r_arr B hH hS 40 (kd := 101) (n := 64) (by decide) (by decide) wf_X16_414 rfl (by decide) dX16_empty_56 ?_
  refine lv_iload_n B.1 B.2.1 dX16_empty_59 rfl (lv_at hl 1 rfl) ?_
  refine lv_ldc2 B.1 B.2.1 B.2.2.1 (B.2.2.2.1 _ (wk_X16_417)) dX16_empty_60 ?_
  obtain ⟨q1, h⟩ := h
  obtain ⟨σ43, eσ43⟩ : ∃ z, z = pJ σ (ra 40) v1.toNat (-1) := ⟨_, rfl⟩
  have h := h σ43 eσ43
  refine r_last B hT hH hS 40 (n := 64) (by decide) (by decide) q1 dX16_empty_63 (fun H locs hH => ?_)
  have hH : Hd D cA A s (pJ σ (ra 40) v1.toNat (-1)) H locs := hH
  rw [← eσ43] at hH
  have hGσ43 : RG σ43 := by rw [eσ43]; exact hGσ.pJ
  have hS : Shp ra jx rm σ43 := by rw [eσ43]; exact hS
  have hc : CB n0 s0 σ43 := by rw [eσ43]; exact hc
  rw [show gc σ = gc σ43 by rw [eσ43], show gs σ = gs σ43 by rw [eσ43]]
  refine lv_aload_n B.1 B.2.1 dX16_empty_64 rfl (lv_at hl 0 rfl) ?_
  refine r_arr B hH hS 41 (kd := 100) (n := 64) (by decide) (by decide) wf_X16_419 rfl (by decide) dX16_empty_65 ?_
  refine lv_iload_n B.1 B.2.1 dX16_empty_68 rfl (lv_at hl 1 rfl) ?_
  refine lv_iconst (v := i32 0) B.1 B.2.1 dX16_empty_69 (by decide) ?_
  obtain ⟨q2, h⟩ := h
  obtain ⟨σ44, eσ44⟩ : ∃ z, z = pI σ43 (ra 41) v1.toNat 0 := ⟨_, rfl⟩
  have h := h σ44 eσ44
  refine r_iast B hT hH hS 41 (n := 64) (by decide) (by decide) q2 dX16_empty_70 (fun H locs hH => ?_)
  have hH : Hd D cA A s (pI σ43 (ra 41) v1.toNat 0) H locs := hH
  rw [← eσ44] at hH
  have hGσ44 : RG σ44 := by rw [eσ44]; exact hGσ43.pI (by unfold rng; omega)
  have hS : Shp ra jx rm σ44 := by rw [eσ44]; exact hS
  have hc : CB n0 s0 σ44 := by rw [eσ44]; exact hc
  rw [show gc σ43 = gc σ44 by rw [eσ44], show gs σ43 = gs σ44 by rw [eσ44]]
  refine lv_aload_n B.1 B.2.1 dX16_empty_71 rfl (lv_at hl 0 rfl) ?_
  refine r_arr B hH hS 42 (kd := 100) (n := 64) (by decide) (by decide) wf_X16_422 rfl (by decide) dX16_empty_72 ?_
  refine lv_iload_n B.1 B.2.1 dX16_empty_75 rfl (lv_at hl 1 rfl) ?_
  refine lv_iconst (v := i32 0) B.1 B.2.1 dX16_empty_76 (by decide) ?_
  obtain ⟨q3, h⟩ := h
  obtain ⟨σ45, eσ45⟩ : ∃ z, z = pI σ44 (ra 42) v1.toNat 0 := ⟨_, rfl⟩
  have h := h σ45 eσ45
  refine r_iast B hT hH hS 42 (n := 64) (by decide) (by decide) q3 dX16_empty_77 (fun H locs hH => ?_)
  have hH : Hd D cA A s (pI σ44 (ra 42) v1.toNat 0) H locs := hH
  rw [← eσ45] at hH
  have hGσ45 : RG σ45 := by rw [eσ45]; exact hGσ44.pI (by unfold rng; omega)
  have hS : Shp ra jx rm σ45 := by rw [eσ45]; exact hS
  have hc : CB n0 s0 σ45 := by rw [eσ45]; exact hc
  rw [show gc σ44 = gc σ45 by rw [eσ45], show gs σ44 = gs σ45 by rw [eσ45]]
  refine lv_aload_n B.1 B.2.1 dX16_empty_78 rfl (lv_at hl 0 rfl) ?_
  refine r_arr B hH hS 43 (kd := 100) (n := 64) (by decide) (by decide) wf_X16_425 rfl (by decide) dX16_empty_79 ?_
  refine lv_iload_n B.1 B.2.1 dX16_empty_82 rfl (lv_at hl 1 rfl) ?_
  refine lv_iconst (v := i32 0) B.1 B.2.1 dX16_empty_83 (by decide) ?_
  obtain ⟨q4, h⟩ := h
  obtain ⟨σ46, eσ46⟩ : ∃ z, z = pI σ45 (ra 43) v1.toNat 0 := ⟨_, rfl⟩
  have h := h σ46 eσ46
  refine r_iast B hT hH hS 43 (n := 64) (by decide) (by decide) q4 dX16_empty_84 (fun H locs hH => ?_)
  have hH : Hd D cA A s (pI σ45 (ra 43) v1.toNat 0) H locs := hH
  rw [← eσ46] at hH
  have hGσ46 : RG σ46 := by rw [eσ46]; exact hGσ45.pI (by unfold rng; omega)
  have hS : Shp ra jx rm σ46 := by rw [eσ46]; exact hS
  have hc : CB n0 s0 σ46 := by rw [eσ46]; exact hc
  rw [show gc σ45 = gc σ46 by rw [eσ46], show gs σ45 = gs σ46 by rw [eσ46]]
  refine lv_aload_n B.1 B.2.1 dX16_empty_85 rfl (lv_at hl 0 rfl) ?_
  refine r_arr B hH hS 44 (kd := 103) (n := 64) (by decide) (by decide) wf_X16_428 rfl (by decide) dX16_empty_86 ?_
  refine lv_iload_n B.1 B.2.1 dX16_empty_89 rfl (lv_at hl 1 rfl) ?_
  refine lv_iconst (v := i32 0) B.1 B.2.1 dX16_empty_90 (by decide) ?_
  obtain ⟨q5, h⟩ := h
  obtain ⟨σ47, eσ47⟩ : ∃ z, z = pI σ46 (ra 44) v1.toNat ((vp_nar .boolean (i32 0)).toInt) := ⟨_, rfl⟩
  have h := h σ47 eσ47
  refine r_zast B hT hH hS 44 (n := 64) (by decide) (by decide) q5 dX16_empty_91 (fun H locs hH => ?_)
  have hH : Hd D cA A s (pI σ46 (ra 44) v1.toNat ((vp_nar .boolean (i32 0)).toInt)) H locs := hH
  rw [← eσ47] at hH
  have hGσ47 : RG σ47 := by rw [eσ47]; exact hGσ46.pI (rng_toInt _)
  have hS : Shp ra jx rm σ47 := by rw [eσ47]; exact hS
  have hc : CB n0 s0 σ47 := by rw [eσ47]; exact hc
  rw [show gc σ46 = gc σ47 by rw [eσ47], show gs σ46 = gs σ47 by rw [eσ47]]
  refine lv_aload_n B.1 B.2.1 dX16_empty_92 rfl (lv_at hl 0 rfl) ?_
  refine r_arr B hH hS 45 (kd := 100) (n := 64) (by decide) (by decide) wf_X16_432 rfl (by decide) dX16_empty_93 ?_
  refine lv_iload_n B.1 B.2.1 dX16_empty_96 rfl (lv_at hl 1 rfl) ?_
  refine lv_iconst (v := i32 (-1)) B.1 B.2.1 dX16_empty_97 (by decide) ?_
  obtain ⟨q6, h⟩ := h
  obtain ⟨σ48, eσ48⟩ : ∃ z, z = pI σ47 (ra 45) v1.toNat (-1) := ⟨_, rfl⟩
  have h := h σ48 eσ48
  refine r_iast B hT hH hS 45 (n := 64) (by decide) (by decide) q6 dX16_empty_98 (fun H locs hH => ?_)
  have hH : Hd D cA A s (pI σ47 (ra 45) v1.toNat (-1)) H locs := hH
  rw [← eσ48] at hH
  have hGσ48 : RG σ48 := by rw [eσ48]; exact hGσ47.pI (by unfold rng; omega)
  have hS : Shp ra jx rm σ48 := by rw [eσ48]; exact hS
  have hc : CB n0 s0 σ48 := by rw [eσ48]; exact hc
  rw [show gc σ47 = gc σ48 by rw [eσ48], show gs σ47 = gs σ48 by rw [eσ48]]
  refine lv_aload_n B.1 B.2.1 dX16_empty_99 rfl (lv_at hl 0 rfl) ?_
  refine r_arr B hH hS 46 (kd := 100) (n := 64) (by decide) (by decide) wf_X16_435 rfl (by decide) dX16_empty_100 ?_
  refine lv_iload_n B.1 B.2.1 dX16_empty_103 rfl (lv_at hl 1 rfl) ?_
  refine lv_iconst (v := i32 (-1)) B.1 B.2.1 dX16_empty_104 (by decide) ?_
  obtain ⟨q7, h⟩ := h
  obtain ⟨σ49, eσ49⟩ : ∃ z, z = pI σ48 (ra 46) v1.toNat (-1) := ⟨_, rfl⟩
  have h := h σ49 eσ49
  refine r_iast B hT hH hS 46 (n := 64) (by decide) (by decide) q7 dX16_empty_105 (fun H locs hH => ?_)
  have hH : Hd D cA A s (pI σ48 (ra 46) v1.toNat (-1)) H locs := hH
  rw [← eσ49] at hH
  have hGσ49 : RG σ49 := by rw [eσ49]; exact hGσ48.pI (by unfold rng; omega)
  have hS : Shp ra jx rm σ49 := by rw [eσ49]; exact hS
  have hc : CB n0 s0 σ49 := by rw [eσ49]; exact hc
  rw [show gc σ48 = gc σ49 by rw [eσ49], show gs σ48 = gs σ49 by rw [eσ49]]
  refine lv_aload_n B.1 B.2.1 dX16_empty_106 rfl (lv_at hl 0 rfl) ?_
  refine r_arr B hH hS 47 (kd := 100) (n := 64) (by decide) (by decide) wf_X16_438 rfl (by decide) dX16_empty_107 ?_
  refine lv_iload_n B.1 B.2.1 dX16_empty_110 rfl (lv_at hl 1 rfl) ?_
  refine lv_iconst (v := i32 (-1)) B.1 B.2.1 dX16_empty_111 (by decide) ?_
  obtain ⟨q8, h⟩ := h
  obtain ⟨σ50, eσ50⟩ : ∃ z, z = pI σ49 (ra 47) v1.toNat (-1) := ⟨_, rfl⟩
  have h := h σ50 eσ50
  refine r_iast B hT hH hS 47 (n := 64) (by decide) (by decide) q8 dX16_empty_112 (fun H locs hH => ?_)
  have hH : Hd D cA A s (pI σ49 (ra 47) v1.toNat (-1)) H locs := hH
  rw [← eσ50] at hH
  have hGσ50 : RG σ50 := by rw [eσ50]; exact hGσ49.pI (by unfold rng; omega)
  have hS : Shp ra jx rm σ50 := by rw [eσ50]; exact hS
  have hc : CB n0 s0 σ50 := by rw [eσ50]; exact hc
  rw [show gc σ49 = gc σ50 by rw [eσ50], show gs σ49 = gs σ50 by rw [eσ50]]
  refine lv_aload_n B.1 B.2.1 dX16_empty_113 rfl (lv_at hl 0 rfl) ?_
  refine r_arr B hH hS 48 (kd := 100) (n := 64) (by decide) (by decide) wf_X16_441 rfl (by decide) dX16_empty_114 ?_
  refine lv_iload_n B.1 B.2.1 dX16_empty_117 rfl (lv_at hl 1 rfl) ?_
  refine lv_iconst (v := i32 0) B.1 B.2.1 dX16_empty_118 (by decide) ?_
  obtain ⟨q9, h⟩ := h
  obtain ⟨σ51, eσ51⟩ : ∃ z, z = pI σ50 (ra 48) v1.toNat 0 := ⟨_, rfl⟩
  have h := h σ51 eσ51
  refine r_iast B hT hH hS 48 (n := 64) (by decide) (by decide) q9 dX16_empty_119 (fun H locs hH => ?_)
  have hH : Hd D cA A s (pI σ50 (ra 48) v1.toNat 0) H locs := hH
  rw [← eσ51] at hH
  have hGσ51 : RG σ51 := by rw [eσ51]; exact hGσ50.pI (by unfold rng; omega)
  have hS : Shp ra jx rm σ51 := by rw [eσ51]; exact hS
  have hc : CB n0 s0 σ51 := by rw [eσ51]; exact hc
  rw [show gc σ50 = gc σ51 by rw [eσ51], show gs σ50 = gs σ51 by rw [eσ51]]
  obtain ⟨q10, h⟩ := h
  refine lv_iinc (k := 1) (v := i32 (v1 + 1)) (lv' := [(1, .int (i32 (v1 + 1))), (0, .ref rm)]) B.1 B.2.1 dX16_empty_120 hl rfl (i32_add _ _) (by decide) rfl (fun ls hl => ?_)
  refine lv_goto (tgt := 49) B.1 B.2.1 dX16_empty_123 (by decide) ?_
  exact hK49 _ _ q10 h hGσ51 hS _ _ _ hH (lv_sub (l' := [(0, .ref rm), (1, .int (i32 (v1 + 1)))]) hl [1, 0] rfl) hc
set_option maxRecDepth 20000 in
theorem a_X16_empty_49 {p : Program} {l : Launch} {e : Env} {R : Room} {s : State} {m : MethodId} {args : Array Value} {below : List Frame} {meth : Method} {c : Code} {D : va_G} {cA : Nat → ClassId} {tys : List (ClassId × FieldType)} {A : Nat → Prop} {n0 s0 : Nat} {QM : State → Prop} {ra : Nat → Nat} {jx : Nat → Nat → Nat} {rm : Nat} {Q : Sg → Unit → Prop} {X : Sg → String → Prop} (B : Cx p s m args c cX16_empty 2 RX16 D cA tys A) (hT : Tys cA tys) (hR : Rm R n0 s0) (hFr : 0 ≤ R.frames) (hLw : 0 ≤ R.locals) (hQ : ∀ (pc : Nat) (ls : Array Slot) (σ : Sg) (H : Heap) (locs : List Loc), decode cX16_empty pc = .ok (.return_, 1) → Hd D cA A s σ H locs → CB n0 s0 σ → Q σ () → RG σ → Shp ra jx rm σ → W p l e R s m args below meth c H locs (gc σ - n0) (gs σ - s0) QM (F0 m pc ls [])) (hX : ∀ (σ : Sg) (E : String) (pc : Nat) (lo : List (Nat × Value)) (st : List Value), X σ E → RG σ → Shp ra jx rm σ → JX p l e R s m args below meth c 2 D cA A n0 s0 QM σ E pc lo st) {K49 : Sg → Int → Prop} (hK49 : ∀ (σ : Sg) (v1 : Int) (g1 : rng v1), K49 σ v1 → RG σ → Shp ra jx rm σ → JJ p l e R s m args below meth c 2 D cA A n0 s0 QM σ 49 [(0, .ref rm), (1, .int (i32 v1))] []) : ∀ (σ : Sg) (v1 : Int) (g1 : rng v1), w_X16_empty_49 ra jx rm K49 Q X σ v1 → RG σ → Shp ra jx rm σ → JJ p l e R s m args below meth c 2 D cA A n0 s0 QM σ 49 [(0, .ref rm), (1, .int (i32 v1))] [] := by
  intro σ v1 g1 h hGσ hS H locs ls hH hl hc
  unfold w_X16_empty_49 at h
  refine lv_iload_n B.1 B.2.1 dX16_empty_49 rfl (lv_at hl 1 rfl) ?_
  refine lv_bipush (v := i32 64) B.1 B.2.1 dX16_empty_50 (by decide) ?_
  refine lv_icmp_ge (tgt := 126) B.1 B.2.1 dX16_empty_52 (by decide) (fun h9 => ?_) (fun h9 => ?_)
  · rw [if_pos ((i32_le (by unfold rng; omega) g1).mp h9)] at h
    exact a_X16_empty_126 B hT hR hFr hLw hQ hX _ h hGσ hS _ _ _ hH (lv_sub (l' := [(0, .ref rm)]) hl [0] rfl) hc
  · rw [if_neg (fun q => h9 ((i32_le (by unfold rng; omega) g1).mpr q))] at h
    exact a_X16_empty_55 B hT hR hFr hLw hQ hX hK49 _ _ g1 h hGσ hS _ _ _ hH (lv_sub (l' := [(0, .ref rm), (1, .int (i32 v1))]) hl [0, 1] rfl) hc
theorem al_X16_empty_49 {p : Program} {l : Launch} {e : Env} {R : Room} {s : State} {m : MethodId} {args : Array Value} {below : List Frame} {meth : Method} {c : Code} {D : va_G} {cA : Nat → ClassId} {tys : List (ClassId × FieldType)} {A : Nat → Prop} {n0 s0 : Nat} {QM : State → Prop} {ra : Nat → Nat} {jx : Nat → Nat → Nat} {rm : Nat} {Q : Sg → Unit → Prop} {X : Sg → String → Prop} (B : Cx p s m args c cX16_empty 2 RX16 D cA tys A) (hT : Tys cA tys) (hR : Rm R n0 s0) (hFr : 0 ≤ R.frames) (hLw : 0 ≤ R.locals) (hQ : ∀ (pc : Nat) (ls : Array Slot) (σ : Sg) (H : Heap) (locs : List Loc), decode cX16_empty pc = .ok (.return_, 1) → Hd D cA A s σ H locs → CB n0 s0 σ → Q σ () → RG σ → Shp ra jx rm σ → W p l e R s m args below meth c H locs (gc σ - n0) (gs σ - s0) QM (F0 m pc ls [])) (hX : ∀ (σ : Sg) (E : String) (pc : Nat) (lo : List (Nat × Value)) (st : List Value), X σ E → RG σ → Shp ra jx rm σ → JX p l e R s m args below meth c 2 D cA A n0 s0 QM σ E pc lo st) : ∀ (n : Nat), ∀ (σ : Sg) (v1 : Int) (g1 : rng v1), wl_X16_empty_49 ra jx rm Q X n σ v1 → RG σ → Shp ra jx rm σ → JJ p l e R s m args below meth c 2 D cA A n0 s0 QM σ 49 [(0, .ref rm), (1, .int (i32 v1))] [] := by
  intro n
  induction n with
  | zero => intro σ v1 g1 h; exact h.elim
  | succ n ih => exact fun σ v1 g1 h => a_X16_empty_49 B hT hR hFr hLw hQ hX ih σ v1 g1 h
set_option maxRecDepth 20000 in
theorem a_X16_empty_37 {p : Program} {l : Launch} {e : Env} {R : Room} {s : State} {m : MethodId} {args : Array Value} {below : List Frame} {meth : Method} {c : Code} {D : va_G} {cA : Nat → ClassId} {tys : List (ClassId × FieldType)} {A : Nat → Prop} {n0 s0 : Nat} {QM : State → Prop} {ra : Nat → Nat} {jx : Nat → Nat → Nat} {rm : Nat} {Q : Sg → Unit → Prop} {X : Sg → String → Prop} (B : Cx p s m args c cX16_empty 2 RX16 D cA tys A) (hT : Tys cA tys) (hR : Rm R n0 s0) (hFr : 0 ≤ R.frames) (hLw : 0 ≤ R.locals) (hQ : ∀ (pc : Nat) (ls : Array Slot) (σ : Sg) (H : Heap) (locs : List Loc), decode cX16_empty pc = .ok (.return_, 1) → Hd D cA A s σ H locs → CB n0 s0 σ → Q σ () → RG σ → Shp ra jx rm σ → W p l e R s m args below meth c H locs (gc σ - n0) (gs σ - s0) QM (F0 m pc ls [])) (hX : ∀ (σ : Sg) (E : String) (pc : Nat) (lo : List (Nat × Value)) (st : List Value), X σ E → RG σ → Shp ra jx rm σ → JX p l e R s m args below meth c 2 D cA A n0 s0 QM σ E pc lo st) : ∀ (σ : Sg), w_X16_empty_37 ra jx rm Q X σ → RG σ → Shp ra jx rm σ → JJ p l e R s m args below meth c 2 D cA A n0 s0 QM σ 37 [(0, .ref rm)] [] := by
  intro σ h hGσ hS H locs ls hH hl hc
  unfold w_X16_empty_37 at h
  refine lv_aload_n B.1 B.2.1 dX16_empty_37 rfl (lv_at hl 0 rfl) ?_
  refine lv_iconst (v := i32 0) B.1 B.2.1 dX16_empty_38 (by decide) ?_
  obtain ⟨σ52, eσ52⟩ : ∃ z, z = pI σ rm 66 0 := ⟨_, rfl⟩
  have h := h σ52 eσ52
  refine r_puti B hH hS 66 (ty := .int) (by decide) wf_X16_408 rfl rfl (by decide) rfl rfl rfl dX16_empty_39 (fun H locs hH => ?_)
  have hH : Hd D cA A s (pI σ rm 66 0) H locs := hH
  rw [← eσ52] at hH
  have hGσ52 : RG σ52 := by rw [eσ52]; exact hGσ.pI (by unfold rng; omega)
  have hS : Shp ra jx rm σ52 := by rw [eσ52]; exact hS
  have hc : CB n0 s0 σ52 := by rw [eσ52]; exact hc
  rw [show gc σ = gc σ52 by rw [eσ52], show gs σ = gs σ52 by rw [eσ52]]
  refine lv_aload_n B.1 B.2.1 dX16_empty_42 rfl (lv_at hl 0 rfl) ?_
  refine lv_iconst (v := i32 0) B.1 B.2.1 dX16_empty_43 (by decide) ?_
  obtain ⟨σ53, eσ53⟩ : ∃ z, z = pI σ52 rm 67 0 := ⟨_, rfl⟩
  have h := h σ53 eσ53
  refine r_puti B hH hS 67 (ty := .int) (by decide) wf_X16_411 rfl rfl (by decide) rfl rfl rfl dX16_empty_44 (fun H locs hH => ?_)
  have hH : Hd D cA A s (pI σ52 rm 67 0) H locs := hH
  rw [← eσ53] at hH
  have hGσ53 : RG σ53 := by rw [eσ53]; exact hGσ52.pI (by unfold rng; omega)
  have hS : Shp ra jx rm σ53 := by rw [eσ53]; exact hS
  have hc : CB n0 s0 σ53 := by rw [eσ53]; exact hc
  rw [show gc σ52 = gc σ53 by rw [eσ53], show gs σ52 = gs σ53 by rw [eσ53]]
  refine lv_iconst (v := i32 0) B.1 B.2.1 dX16_empty_47 (by decide) ?_
  refine lv_istore_n (lv' := [(1, .int (i32 0)), (0, .ref rm)]) B.1 B.2.1 dX16_empty_48 rfl hl (by decide) rfl (fun ls hl => ?_)
  obtain ⟨n9, h⟩ := h
  exact al_X16_empty_49 B hT hR hFr hLw hQ hX n9 _ _ (by unfold rng; omega) h hGσ53 hS _ _ _ hH (lv_sub (l' := [(0, .ref rm), (1, .int (i32 0))]) hl [1, 0] rfl) hc
set_option maxRecDepth 20000 in
theorem a_X16_empty_30 {p : Program} {l : Launch} {e : Env} {R : Room} {s : State} {m : MethodId} {args : Array Value} {below : List Frame} {meth : Method} {c : Code} {D : va_G} {cA : Nat → ClassId} {tys : List (ClassId × FieldType)} {A : Nat → Prop} {n0 s0 : Nat} {QM : State → Prop} {ra : Nat → Nat} {jx : Nat → Nat → Nat} {rm : Nat} {Q : Sg → Unit → Prop} {X : Sg → String → Prop} (B : Cx p s m args c cX16_empty 2 RX16 D cA tys A) (hT : Tys cA tys) (hR : Rm R n0 s0) (hFr : 0 ≤ R.frames) (hLw : 0 ≤ R.locals) (hQ : ∀ (pc : Nat) (ls : Array Slot) (σ : Sg) (H : Heap) (locs : List Loc), decode cX16_empty pc = .ok (.return_, 1) → Hd D cA A s σ H locs → CB n0 s0 σ → Q σ () → RG σ → Shp ra jx rm σ → W p l e R s m args below meth c H locs (gc σ - n0) (gs σ - s0) QM (F0 m pc ls [])) (hX : ∀ (σ : Sg) (E : String) (pc : Nat) (lo : List (Nat × Value)) (st : List Value), X σ E → RG σ → Shp ra jx rm σ → JX p l e R s m args below meth c 2 D cA A n0 s0 QM σ E pc lo st) {K2 : Sg → Int → Prop} (hK2 : ∀ (σ : Sg) (v1 : Int) (g1 : rng v1), K2 σ v1 → RG σ → Shp ra jx rm σ → JJ p l e R s m args below meth c 2 D cA A n0 s0 QM σ 2 [(0, .ref rm), (1, .int (i32 v1))] []) : ∀ (σ : Sg) (v1 : Int) (u0 : Int) (u1 : Int) (g1 : rng v1) (gu0 : rng u0) (gu1 : rng u1), w_X16_empty_30 ra jx rm K2 Q X σ v1 u0 u1 → RG σ → Shp ra jx rm σ → JJ p l e R s m args below meth c 2 D cA A n0 s0 QM σ 30 [(0, .ref rm), (1, .int (i32 v1))] [.int (i32 u0), .int (i32 u1), .ref (ra 65)] := by
  intro σ v1 u0 u1 g1 gu0 gu1 h hGσ hS H locs ls hH hl hc
  unfold w_X16_empty_30 at h
  obtain ⟨q1, h⟩ := h
  obtain ⟨σ54, eσ54⟩ : ∃ z, z = pI σ (ra 65) u1.toNat u0 := ⟨_, rfl⟩
  have h := h σ54 eσ54
  refine r_iast B hT hH hS 65 (n := 12802) (by decide) (by decide) q1 dX16_empty_30 (fun H locs hH => ?_)
  have hH : Hd D cA A s (pI σ (ra 65) u1.toNat u0) H locs := hH
  rw [← eσ54] at hH
  have hGσ54 : RG σ54 := by rw [eσ54]; exact hGσ.pI gu0
  have hS : Shp ra jx rm σ54 := by rw [eσ54]; exact hS
  have hc : CB n0 s0 σ54 := by rw [eσ54]; exact hc
  rw [show gc σ = gc σ54 by rw [eσ54], show gs σ = gs σ54 by rw [eσ54]]
  obtain ⟨q2, h⟩ := h
  refine lv_iinc (k := 1) (v := i32 (v1 + 1)) (lv' := [(1, .int (i32 (v1 + 1))), (0, .ref rm)]) B.1 B.2.1 dX16_empty_31 hl rfl (i32_add _ _) (by decide) rfl (fun ls hl => ?_)
  refine lv_goto (tgt := 2) B.1 B.2.1 dX16_empty_34 (by decide) ?_
  exact hK2 _ _ q2 h hGσ54 hS _ _ _ hH (lv_sub (l' := [(0, .ref rm), (1, .int (i32 (v1 + 1)))]) hl [1, 0] rfl) hc
set_option maxRecDepth 20000 in
theorem a_X16_empty_29 {p : Program} {l : Launch} {e : Env} {R : Room} {s : State} {m : MethodId} {args : Array Value} {below : List Frame} {meth : Method} {c : Code} {D : va_G} {cA : Nat → ClassId} {tys : List (ClassId × FieldType)} {A : Nat → Prop} {n0 s0 : Nat} {QM : State → Prop} {ra : Nat → Nat} {jx : Nat → Nat → Nat} {rm : Nat} {Q : Sg → Unit → Prop} {X : Sg → String → Prop} (B : Cx p s m args c cX16_empty 2 RX16 D cA tys A) (hT : Tys cA tys) (hR : Rm R n0 s0) (hFr : 0 ≤ R.frames) (hLw : 0 ≤ R.locals) (hQ : ∀ (pc : Nat) (ls : Array Slot) (σ : Sg) (H : Heap) (locs : List Loc), decode cX16_empty pc = .ok (.return_, 1) → Hd D cA A s σ H locs → CB n0 s0 σ → Q σ () → RG σ → Shp ra jx rm σ → W p l e R s m args below meth c H locs (gc σ - n0) (gs σ - s0) QM (F0 m pc ls [])) (hX : ∀ (σ : Sg) (E : String) (pc : Nat) (lo : List (Nat × Value)) (st : List Value), X σ E → RG σ → Shp ra jx rm σ → JX p l e R s m args below meth c 2 D cA A n0 s0 QM σ E pc lo st) {K2 : Sg → Int → Prop} (hK2 : ∀ (σ : Sg) (v1 : Int) (g1 : rng v1), K2 σ v1 → RG σ → Shp ra jx rm σ → JJ p l e R s m args below meth c 2 D cA A n0 s0 QM σ 2 [(0, .ref rm), (1, .int (i32 v1))] []) : ∀ (σ : Sg) (v1 : Int) (u0 : Int) (g1 : rng v1) (gu0 : rng u0), w_X16_empty_29 ra jx rm K2 Q X σ v1 u0 → RG σ → Shp ra jx rm σ → JJ p l e R s m args below meth c 2 D cA A n0 s0 QM σ 29 [(0, .ref rm), (1, .int (i32 v1))] [.int (i32 u0), .ref (ra 65)] := by
  intro σ v1 u0 g1 gu0 h hGσ hS H locs ls hH hl hc
  unfold w_X16_empty_29 at h
  refine lv_iconst (v := i32 (-1)) B.1 B.2.1 dX16_empty_29 (by decide) ?_
  exact a_X16_empty_30 B hT hR hFr hLw hQ hX hK2 _ _ _ _ g1 (by unfold rng; omega) gu0 h hGσ hS _ _ _ hH (lv_sub (l' := [(0, .ref rm), (1, .int (i32 v1))]) hl [0, 1] rfl) hc
set_option maxRecDepth 20000 in
theorem a_X16_empty_23 {p : Program} {l : Launch} {e : Env} {R : Room} {s : State} {m : MethodId} {args : Array Value} {below : List Frame} {meth : Method} {c : Code} {D : va_G} {cA : Nat → ClassId} {tys : List (ClassId × FieldType)} {A : Nat → Prop} {n0 s0 : Nat} {QM : State → Prop} {ra : Nat → Nat} {jx : Nat → Nat → Nat} {rm : Nat} {Q : Sg → Unit → Prop} {X : Sg → String → Prop} (B : Cx p s m args c cX16_empty 2 RX16 D cA tys A) (hT : Tys cA tys) (hR : Rm R n0 s0) (hFr : 0 ≤ R.frames) (hLw : 0 ≤ R.locals) (hQ : ∀ (pc : Nat) (ls : Array Slot) (σ : Sg) (H : Heap) (locs : List Loc), decode cX16_empty pc = .ok (.return_, 1) → Hd D cA A s σ H locs → CB n0 s0 σ → Q σ () → RG σ → Shp ra jx rm σ → W p l e R s m args below meth c H locs (gc σ - n0) (gs σ - s0) QM (F0 m pc ls [])) (hX : ∀ (σ : Sg) (E : String) (pc : Nat) (lo : List (Nat × Value)) (st : List Value), X σ E → RG σ → Shp ra jx rm σ → JX p l e R s m args below meth c 2 D cA A n0 s0 QM σ E pc lo st) {K2 : Sg → Int → Prop} (hK2 : ∀ (σ : Sg) (v1 : Int) (g1 : rng v1), K2 σ v1 → RG σ → Shp ra jx rm σ → JJ p l e R s m args below meth c 2 D cA A n0 s0 QM σ 2 [(0, .ref rm), (1, .int (i32 v1))] []) : ∀ (σ : Sg) (v1 : Int) (u0 : Int) (g1 : rng v1) (gu0 : rng u0), w_X16_empty_23 ra jx rm K2 Q X σ v1 u0 → RG σ → Shp ra jx rm σ → JJ p l e R s m args below meth c 2 D cA A n0 s0 QM σ 23 [(0, .ref rm), (1, .int (i32 v1))] [.int (i32 u0), .ref (ra 65)] := by
  intro σ v1 u0 g1 gu0 h hGσ hS H locs ls hH hl hc
  unfold w_X16_empty_23 at h
  refine lv_iload_n B.1 B.2.1 dX16_empty_23 rfl (lv_at hl 1 rfl) ?_
  refine lv_iconst (v := i32 1) B.1 B.2.1 dX16_empty_24 (by decide) ?_
  obtain ⟨q1, h⟩ := h
  refine lv_iadd B.1 B.2.1 dX16_empty_25 ?_
  rw [i32_add]
  refine lv_goto (tgt := 30) B.1 B.2.1 dX16_empty_26 (by decide) ?_
  exact a_X16_empty_30 B hT hR hFr hLw hQ hX hK2 _ _ _ _ g1 q1 gu0 h hGσ hS _ _ _ hH (lv_sub (l' := [(0, .ref rm), (1, .int (i32 v1))]) hl [0, 1] rfl) hc
set_option maxRecDepth 20000 in
theorem a_X16_empty_9 {p : Program} {l : Launch} {e : Env} {R : Room} {s : State} {m : MethodId} {args : Array Value} {below : List Frame} {meth : Method} {c : Code} {D : va_G} {cA : Nat → ClassId} {tys : List (ClassId × FieldType)} {A : Nat → Prop} {n0 s0 : Nat} {QM : State → Prop} {ra : Nat → Nat} {jx : Nat → Nat → Nat} {rm : Nat} {Q : Sg → Unit → Prop} {X : Sg → String → Prop} (B : Cx p s m args c cX16_empty 2 RX16 D cA tys A) (hT : Tys cA tys) (hR : Rm R n0 s0) (hFr : 0 ≤ R.frames) (hLw : 0 ≤ R.locals) (hQ : ∀ (pc : Nat) (ls : Array Slot) (σ : Sg) (H : Heap) (locs : List Loc), decode cX16_empty pc = .ok (.return_, 1) → Hd D cA A s σ H locs → CB n0 s0 σ → Q σ () → RG σ → Shp ra jx rm σ → W p l e R s m args below meth c H locs (gc σ - n0) (gs σ - s0) QM (F0 m pc ls [])) (hX : ∀ (σ : Sg) (E : String) (pc : Nat) (lo : List (Nat × Value)) (st : List Value), X σ E → RG σ → Shp ra jx rm σ → JX p l e R s m args below meth c 2 D cA A n0 s0 QM σ E pc lo st) {K2 : Sg → Int → Prop} (hK2 : ∀ (σ : Sg) (v1 : Int) (g1 : rng v1), K2 σ v1 → RG σ → Shp ra jx rm σ → JJ p l e R s m args below meth c 2 D cA A n0 s0 QM σ 2 [(0, .ref rm), (1, .int (i32 v1))] []) : ∀ (σ : Sg) (v1 : Int) (g1 : rng v1), w_X16_empty_9 ra jx rm K2 Q X σ v1 → RG σ → Shp ra jx rm σ → JJ p l e R s m args below meth c 2 D cA A n0 s0 QM σ 9 [(0, .ref rm), (1, .int (i32 v1))] [] := by
  intro σ v1 g1 h hGσ hS H locs ls hH hl hc
  unfold w_X16_empty_9 at h
  refine lv_aload_n B.1 B.2.1 dX16_empty_9 rfl (lv_at hl 0 rfl) ?_
  refine r_arr B hH hS 65 (kd := 100) (n := 12802) (by decide) (by decide) wf_X16_405 rfl (by decide) dX16_empty_10 ?_
  refine lv_iload_n B.1 B.2.1 dX16_empty_13 rfl (lv_at hl 1 rfl) ?_
  refine lv_iload_n B.1 B.2.1 dX16_empty_14 rfl (lv_at hl 1 rfl) ?_
  refine lv_iconst (v := i32 1) B.1 B.2.1 dX16_empty_15 (by decide) ?_
  obtain ⟨q1, h⟩ := h
  refine lv_iadd B.1 B.2.1 dX16_empty_16 ?_
  rw [i32_add]
  refine lv_sipush (v := i32 12802) B.1 B.2.1 dX16_empty_17 (by decide) ?_
  refine lv_icmp_ge (tgt := 29) B.1 B.2.1 dX16_empty_20 (by decide) (fun h9 => ?_) (fun h9 => ?_)
  · rw [if_pos ((i32_le (by unfold rng; omega) q1).mp h9)] at h
    exact a_X16_empty_29 B hT hR hFr hLw hQ hX hK2 _ _ _ g1 g1 h hGσ hS _ _ _ hH (lv_sub (l' := [(0, .ref rm), (1, .int (i32 v1))]) hl [0, 1] rfl) hc
  · rw [if_neg (fun q => h9 ((i32_le (by unfold rng; omega) q1).mpr q))] at h
    exact a_X16_empty_23 B hT hR hFr hLw hQ hX hK2 _ _ _ g1 g1 h hGσ hS _ _ _ hH (lv_sub (l' := [(0, .ref rm), (1, .int (i32 v1))]) hl [0, 1] rfl) hc
set_option maxRecDepth 20000 in
theorem a_X16_empty_2 {p : Program} {l : Launch} {e : Env} {R : Room} {s : State} {m : MethodId} {args : Array Value} {below : List Frame} {meth : Method} {c : Code} {D : va_G} {cA : Nat → ClassId} {tys : List (ClassId × FieldType)} {A : Nat → Prop} {n0 s0 : Nat} {QM : State → Prop} {ra : Nat → Nat} {jx : Nat → Nat → Nat} {rm : Nat} {Q : Sg → Unit → Prop} {X : Sg → String → Prop} (B : Cx p s m args c cX16_empty 2 RX16 D cA tys A) (hT : Tys cA tys) (hR : Rm R n0 s0) (hFr : 0 ≤ R.frames) (hLw : 0 ≤ R.locals) (hQ : ∀ (pc : Nat) (ls : Array Slot) (σ : Sg) (H : Heap) (locs : List Loc), decode cX16_empty pc = .ok (.return_, 1) → Hd D cA A s σ H locs → CB n0 s0 σ → Q σ () → RG σ → Shp ra jx rm σ → W p l e R s m args below meth c H locs (gc σ - n0) (gs σ - s0) QM (F0 m pc ls [])) (hX : ∀ (σ : Sg) (E : String) (pc : Nat) (lo : List (Nat × Value)) (st : List Value), X σ E → RG σ → Shp ra jx rm σ → JX p l e R s m args below meth c 2 D cA A n0 s0 QM σ E pc lo st) {K2 : Sg → Int → Prop} (hK2 : ∀ (σ : Sg) (v1 : Int) (g1 : rng v1), K2 σ v1 → RG σ → Shp ra jx rm σ → JJ p l e R s m args below meth c 2 D cA A n0 s0 QM σ 2 [(0, .ref rm), (1, .int (i32 v1))] []) : ∀ (σ : Sg) (v1 : Int) (g1 : rng v1), w_X16_empty_2 ra jx rm K2 Q X σ v1 → RG σ → Shp ra jx rm σ → JJ p l e R s m args below meth c 2 D cA A n0 s0 QM σ 2 [(0, .ref rm), (1, .int (i32 v1))] [] := by
  intro σ v1 g1 h hGσ hS H locs ls hH hl hc
  unfold w_X16_empty_2 at h
  refine lv_iload_n B.1 B.2.1 dX16_empty_2 rfl (lv_at hl 1 rfl) ?_
  refine lv_sipush (v := i32 12802) B.1 B.2.1 dX16_empty_3 (by decide) ?_
  refine lv_icmp_ge (tgt := 37) B.1 B.2.1 dX16_empty_6 (by decide) (fun h9 => ?_) (fun h9 => ?_)
  · rw [if_pos ((i32_le (by unfold rng; omega) g1).mp h9)] at h
    exact a_X16_empty_37 B hT hR hFr hLw hQ hX _ h hGσ hS _ _ _ hH (lv_sub (l' := [(0, .ref rm)]) hl [0] rfl) hc
  · rw [if_neg (fun q => h9 ((i32_le (by unfold rng; omega) g1).mpr q))] at h
    exact a_X16_empty_9 B hT hR hFr hLw hQ hX hK2 _ _ g1 h hGσ hS _ _ _ hH (lv_sub (l' := [(0, .ref rm), (1, .int (i32 v1))]) hl [0, 1] rfl) hc
theorem al_X16_empty_2 {p : Program} {l : Launch} {e : Env} {R : Room} {s : State} {m : MethodId} {args : Array Value} {below : List Frame} {meth : Method} {c : Code} {D : va_G} {cA : Nat → ClassId} {tys : List (ClassId × FieldType)} {A : Nat → Prop} {n0 s0 : Nat} {QM : State → Prop} {ra : Nat → Nat} {jx : Nat → Nat → Nat} {rm : Nat} {Q : Sg → Unit → Prop} {X : Sg → String → Prop} (B : Cx p s m args c cX16_empty 2 RX16 D cA tys A) (hT : Tys cA tys) (hR : Rm R n0 s0) (hFr : 0 ≤ R.frames) (hLw : 0 ≤ R.locals) (hQ : ∀ (pc : Nat) (ls : Array Slot) (σ : Sg) (H : Heap) (locs : List Loc), decode cX16_empty pc = .ok (.return_, 1) → Hd D cA A s σ H locs → CB n0 s0 σ → Q σ () → RG σ → Shp ra jx rm σ → W p l e R s m args below meth c H locs (gc σ - n0) (gs σ - s0) QM (F0 m pc ls [])) (hX : ∀ (σ : Sg) (E : String) (pc : Nat) (lo : List (Nat × Value)) (st : List Value), X σ E → RG σ → Shp ra jx rm σ → JX p l e R s m args below meth c 2 D cA A n0 s0 QM σ E pc lo st) : ∀ (n : Nat), ∀ (σ : Sg) (v1 : Int) (g1 : rng v1), wl_X16_empty_2 ra jx rm Q X n σ v1 → RG σ → Shp ra jx rm σ → JJ p l e R s m args below meth c 2 D cA A n0 s0 QM σ 2 [(0, .ref rm), (1, .int (i32 v1))] [] := by
  intro n
  induction n with
  | zero => intro σ v1 g1 h; exact h.elim
  | succ n ih => exact fun σ v1 g1 h => a_X16_empty_2 B hT hR hFr hLw hQ hX ih σ v1 g1 h
set_option maxRecDepth 20000 in
theorem a_X16_empty_0 {p : Program} {l : Launch} {e : Env} {R : Room} {s : State} {m : MethodId} {args : Array Value} {below : List Frame} {meth : Method} {c : Code} {D : va_G} {cA : Nat → ClassId} {tys : List (ClassId × FieldType)} {A : Nat → Prop} {n0 s0 : Nat} {QM : State → Prop} {ra : Nat → Nat} {jx : Nat → Nat → Nat} {rm : Nat} {Q : Sg → Unit → Prop} {X : Sg → String → Prop} (B : Cx p s m args c cX16_empty 2 RX16 D cA tys A) (hT : Tys cA tys) (hR : Rm R n0 s0) (hFr : 0 ≤ R.frames) (hLw : 0 ≤ R.locals) (hQ : ∀ (pc : Nat) (ls : Array Slot) (σ : Sg) (H : Heap) (locs : List Loc), decode cX16_empty pc = .ok (.return_, 1) → Hd D cA A s σ H locs → CB n0 s0 σ → Q σ () → RG σ → Shp ra jx rm σ → W p l e R s m args below meth c H locs (gc σ - n0) (gs σ - s0) QM (F0 m pc ls [])) (hX : ∀ (σ : Sg) (E : String) (pc : Nat) (lo : List (Nat × Value)) (st : List Value), X σ E → RG σ → Shp ra jx rm σ → JX p l e R s m args below meth c 2 D cA A n0 s0 QM σ E pc lo st) : ∀ (σ : Sg), w_X16_empty_0 ra jx rm Q X σ → RG σ → Shp ra jx rm σ → JJ p l e R s m args below meth c 2 D cA A n0 s0 QM σ 0 [(0, .ref rm)] [] := by
  intro σ h hGσ hS H locs ls hH hl hc
  unfold w_X16_empty_0 at h
  refine lv_iconst (v := i32 0) B.1 B.2.1 dX16_empty_0 (by decide) ?_
  refine lv_istore_n (lv' := [(1, .int (i32 0)), (0, .ref rm)]) B.1 B.2.1 dX16_empty_1 rfl hl (by decide) rfl (fun ls hl => ?_)
  obtain ⟨n9, h⟩ := h
  exact al_X16_empty_2 B hT hR hFr hLw hQ hX n9 _ _ (by unfold rng; omega) h hGσ hS _ _ _ hH (lv_sub (l' := [(0, .ref rm), (1, .int (i32 0))]) hl [1, 0] rfl) hc
theorem ok_X16_empty {l : Launch} {D : va_G} {cA : Nat → ClassId} {tys : List (ClassId × FieldType)} {A : Nat → Prop} {ra : Nat → Nat} {jx : Nat → Nat → Nat} {rm : Nat} (hT : Tys cA tys) {Q : Sg → Unit → Prop} {X : Sg → String → Prop} (σ : Sg) (hG : RG σ) (hS : Shp ra jx rm σ) (h : wp_X16_empty ra jx rm σ Q X) : Ok l D cA tys A yX16_empty (.code yX16_empty cX16_empty 2 none) 0 0 [.ref rm] σ (fun σ' w => w = none ∧ Q σ' () ∧ RG σ' ∧ Shp ra jx rm σ') (fun σ' E => X σ' E ∧ RG σ' ∧ Shp ra jx rm σ') := by
  refine ok_of (ret := none) (by decide) (Nat.le_of_ble_eq_true rfl) ?_
  intro p e R s m args below meth c hRR B hr hlocks hex _
  have B : Cx p s m args c cX16_empty 2 RX16 D cA tys A := B
  have hR : Rm R (gc σ) (gs σ) := by rw [hRR]; exact ⟨rfl, rfl⟩
  unfold wp_X16_empty at h
  intro H locs ls hH hl hc
  have hX : ∀ (σ9 : Sg) (E : String) (pc : Nat) (lo : List (Nat × Value)) (st : List Value), X σ9 E → RG σ9 → Shp ra jx rm σ9 → JX p l e R s m args below meth c 2 D cA A (gc σ) (gs σ) (vx_MQ below (Qw D cA A σ (fun σ' w => w = none ∧ Q σ' () ∧ RG σ' ∧ Shp ra jx rm σ')) (Xw D cA A σ (fun σ' E => X σ' E ∧ RG σ' ∧ Shp ra jx rm σ')) args s (BC - gc σ) (BS - gs σ) A) σ9 E pc lo st := fun σ9 E pc lo st hx hG9 hS9 H locs ls ce q hH hl hc hce hcv hcl => e_out hH hc (fun x hx9 => (hex x hx9).elim) hlocks hce hcv hcl ⟨hx, hG9, hS9⟩
  exact a_X16_empty_0 B hT hR (by rw [hRR]; exact Nat.le_refl _) (by rw [hRR]; exact Nat.le_refl _) (fun pc ls σ9 H locs hd hH hc hq hG9 hS9 => e_vret B hH hc hr hlocks ⟨rfl, hq, hG9, hS9⟩ hd) hX σ h hG hS H locs ls hH (lv_sub (l' := [(0, .ref rm)]) hl [0] rfl) hc
theorem dX16_fail_0 : decode cX16_fail 0 = .ok (.aload_n 0, 1) := by decide +kernel
theorem dX16_fail_1 : decode cX16_fail 1 = .ok (.iload_n 1, 1) := by decide +kernel
theorem dX16_fail_2 : decode cX16_fail 2 = .ok (.putfield 7, 3) := by decide +kernel
theorem dX16_fail_5 : decode cX16_fail 5 = .ok (.aload_n 0, 1) := by decide +kernel
theorem dX16_fail_6 : decode cX16_fail 6 = .ok (.aload_n 0, 1) := by decide +kernel
theorem dX16_fail_7 : decode cX16_fail 7 = .ok (.getfield 10, 3) := by decide +kernel
theorem dX16_fail_10 : decode cX16_fail 10 = .ok (.putfield 13, 3) := by decide +kernel
theorem dX16_fail_13 : decode cX16_fail 13 = .ok (.aload_n 0, 1) := by decide +kernel
theorem dX16_fail_14 : decode cX16_fail 14 = .ok (.getfield 16, 3) := by decide +kernel
theorem dX16_fail_17 : decode cX16_fail 17 = .ok (.areturn, 1) := by decide +kernel
set_option maxRecDepth 20000 in
theorem a_X16_fail_0 {p : Program} {l : Launch} {e : Env} {R : Room} {s : State} {m : MethodId} {args : Array Value} {below : List Frame} {meth : Method} {c : Code} {D : va_G} {cA : Nat → ClassId} {tys : List (ClassId × FieldType)} {A : Nat → Prop} {n0 s0 : Nat} {QM : State → Prop} {ra : Nat → Nat} {jx : Nat → Nat → Nat} {rm : Nat} {Q : Sg → Option Nat → Prop} {X : Sg → String → Prop} (B : Cx p s m args c cX16_fail 2 RX16 D cA tys A) (hT : Tys cA tys) (hR : Rm R n0 s0) (hFr : 0 ≤ R.frames) (hLw : 0 ≤ R.locals) (hQ : ∀ (pc : Nat) (ls : Array Slot) (σ : Sg) (H : Heap) (locs : List Loc) (r : Option Nat), decode cX16_fail pc = .ok (.areturn, 1) → Hd D cA A s σ H locs → CB n0 s0 σ → Q σ r → RG σ → Shp ra jx rm σ → W p l e R s m args below meth c H locs (gc σ - n0) (gs σ - s0) QM (F0 m pc ls [va_rf r])) (hX : ∀ (σ : Sg) (E : String) (pc : Nat) (lo : List (Nat × Value)) (st : List Value), X σ E → RG σ → Shp ra jx rm σ → JX p l e R s m args below meth c 2 D cA A n0 s0 QM σ E pc lo st) : ∀ (σ : Sg) (v1 : Int) (g1 : rng v1), w_X16_fail_0 ra jx rm Q X σ v1 → RG σ → Shp ra jx rm σ → JJ p l e R s m args below meth c 2 D cA A n0 s0 QM σ 0 [(0, .ref rm), (1, .int (i32 v1))] [] := by
  intro σ v1 g1 h hGσ hS H locs ls hH hl hc
  unfold w_X16_fail_0 at h
  refine lv_aload_n B.1 B.2.1 dX16_fail_0 rfl (lv_at hl 0 rfl) ?_
  refine lv_iload_n B.1 B.2.1 dX16_fail_1 rfl (lv_at hl 1 rfl) ?_
  obtain ⟨σ5, eσ5⟩ : ∃ z, z = pI σ rm 4 v1 := ⟨_, rfl⟩
  have h := h σ5 eσ5
  refine r_puti B hH hS 4 (ty := .int) (by decide) wf_X16_7 rfl rfl (by decide) rfl rfl rfl dX16_fail_2 (fun H locs hH => ?_)
  have hH : Hd D cA A s (pI σ rm 4 v1) H locs := hH
  rw [← eσ5] at hH
  have hGσ5 : RG σ5 := by rw [eσ5]; exact hGσ.pI g1
  have hS : Shp ra jx rm σ5 := by rw [eσ5]; exact hS
  have hc : CB n0 s0 σ5 := by rw [eσ5]; exact hc
  rw [show gc σ = gc σ5 by rw [eσ5], show gs σ = gs σ5 by rw [eσ5]]
  refine lv_aload_n B.1 B.2.1 dX16_fail_5 rfl (lv_at hl 0 rfl) ?_
  refine lv_aload_n B.1 B.2.1 dX16_fail_6 rfl (lv_at hl 0 rfl) ?_
  refine r_geti B hH hS 10 (by decide) wf_X16_10 rfl (by decide) dX16_fail_7 ?_
  obtain ⟨σ6, eσ6⟩ : ∃ z, z = pI σ5 rm 5 (gI σ5 rm 10) := ⟨_, rfl⟩
  have h := h σ6 eσ6
  refine r_puti B hH hS 5 (ty := .int) (by decide) wf_X16_13 rfl rfl (by decide) rfl rfl rfl dX16_fail_10 (fun H locs hH => ?_)
  have hH : Hd D cA A s (pI σ5 rm 5 (gI σ5 rm 10)) H locs := hH
  rw [← eσ6] at hH
  have hGσ6 : RG σ6 := by rw [eσ6]; exact hGσ5.pI (hGσ5 _ _)
  have hS : Shp ra jx rm σ6 := by rw [eσ6]; exact hS
  have hc : CB n0 s0 σ6 := by rw [eσ6]; exact hc
  rw [show gc σ5 = gc σ6 by rw [eσ6], show gs σ5 = gs σ6 by rw [eσ6]]
  refine lv_aload_n B.1 B.2.1 dX16_fail_13 rfl (lv_at hl 0 rfl) ?_
  refine r_getp B hH hS 1 (by decide) wf_X16_16 rfl (by decide) dX16_fail_14 ?_
  exact hQ _ _ _ _ _ _ dX16_fail_17 hH hc h hGσ6 hS
theorem ok_X16_fail {l : Launch} {D : va_G} {cA : Nat → ClassId} {tys : List (ClassId × FieldType)} {A : Nat → Prop} {ra : Nat → Nat} {jx : Nat → Nat → Nat} {rm : Nat} (hT : Tys cA tys) {Q : Sg → Option Nat → Prop} {X : Sg → String → Prop} (σ : Sg) (v1 : Int) (g1 : rng v1) (hG : RG σ) (hS : Shp ra jx rm σ) (h : wp_X16_fail ra jx rm v1 σ Q X) : Ok l D cA tys A yX16_fail (.code yX16_fail cX16_fail 2 (some (.object "StreamHouseModel$Fault"))) 0 0 [.ref rm, .int (i32 v1)] σ (fun σ' w => ∃ r, w = some (va_rf r) ∧ Q σ' r ∧ RG σ' ∧ Shp ra jx rm σ') (fun σ' E => X σ' E ∧ RG σ' ∧ Shp ra jx rm σ') := by
  refine ok_of (ret := (some (.object "StreamHouseModel$Fault"))) (by decide) (Nat.le_of_ble_eq_true rfl) ?_
  intro p e R s m args below meth c hRR B hr hlocks hex _
  have B : Cx p s m args c cX16_fail 2 RX16 D cA tys A := B
  have hR : Rm R (gc σ) (gs σ) := by rw [hRR]; exact ⟨rfl, rfl⟩
  unfold wp_X16_fail at h
  intro H locs ls hH hl hc
  have hX : ∀ (σ9 : Sg) (E : String) (pc : Nat) (lo : List (Nat × Value)) (st : List Value), X σ9 E → RG σ9 → Shp ra jx rm σ9 → JX p l e R s m args below meth c 2 D cA A (gc σ) (gs σ) (vx_MQ below (Qw D cA A σ (fun σ' w => ∃ r, w = some (va_rf r) ∧ Q σ' r ∧ RG σ' ∧ Shp ra jx rm σ')) (Xw D cA A σ (fun σ' E => X σ' E ∧ RG σ' ∧ Shp ra jx rm σ')) args s (BC - gc σ) (BS - gs σ) A) σ9 E pc lo st := fun σ9 E pc lo st hx hG9 hS9 H locs ls ce q hH hl hc hce hcv hcl => e_out hH hc (fun x hx9 => (hex x hx9).elim) hlocks hce hcv hcl ⟨hx, hG9, hS9⟩
  exact a_X16_fail_0 B hT hR (by rw [hRR]; exact Nat.le_refl _) (by rw [hRR]; exact Nat.le_refl _) (fun pc ls σ9 H locs r hd hH hc hq hG9 hS9 => e_aret B hH hc hr (Or.inl ⟨_, rfl⟩) (by cases r with | none => exact Or.inl rfl | some a => exact Or.inr ⟨a, rfl⟩) hlocks ⟨r, rfl, hq, hG9, hS9⟩ hd) hX σ v1 g1 h hG hS H locs ls hH (lv_sub (l' := [(0, .ref rm), (1, .int (i32 v1))]) hl [0, 1] rfl) hc
theorem dX16_fault_0 : decode cX16_fault 0 = .ok (.aload_n 0, 1) := by decide +kernel
theorem dX16_fault_1 : decode cX16_fault 1 = .ok (.iconst 0, 1) := by decide +kernel
theorem dX16_fault_2 : decode cX16_fault 2 = .ok (.putfield 1, 3) := by decide +kernel
theorem dX16_fault_5 : decode cX16_fault 5 = .ok (.aload_n 0, 1) := by decide +kernel
theorem dX16_fault_6 : decode cX16_fault 6 = .ok (.getfield 7, 3) := by decide +kernel
theorem dX16_fault_9 : decode cX16_fault 9 = .ok (.ireturn, 1) := by decide +kernel
set_option maxRecDepth 20000 in
theorem a_X16_fault_0 {p : Program} {l : Launch} {e : Env} {R : Room} {s : State} {m : MethodId} {args : Array Value} {below : List Frame} {meth : Method} {c : Code} {D : va_G} {cA : Nat → ClassId} {tys : List (ClassId × FieldType)} {A : Nat → Prop} {n0 s0 : Nat} {QM : State → Prop} {ra : Nat → Nat} {jx : Nat → Nat → Nat} {rm : Nat} {Q : Sg → Int → Prop} {X : Sg → String → Prop} (B : Cx p s m args c cX16_fault 1 RX16 D cA tys A) (hT : Tys cA tys) (hR : Rm R n0 s0) (hFr : 0 ≤ R.frames) (hLw : 0 ≤ R.locals) (hQ : ∀ (pc : Nat) (ls : Array Slot) (σ : Sg) (H : Heap) (locs : List Loc) (r : Int) (gr : rng r), decode cX16_fault pc = .ok (.ireturn, 1) → Hd D cA A s σ H locs → CB n0 s0 σ → Q σ r → RG σ → Shp ra jx rm σ → W p l e R s m args below meth c H locs (gc σ - n0) (gs σ - s0) QM (F0 m pc ls [.int (i32 r)])) (hX : ∀ (σ : Sg) (E : String) (pc : Nat) (lo : List (Nat × Value)) (st : List Value), X σ E → RG σ → Shp ra jx rm σ → JX p l e R s m args below meth c 1 D cA A n0 s0 QM σ E pc lo st) : ∀ (σ : Sg), w_X16_fault_0 ra jx rm Q X σ → RG σ → Shp ra jx rm σ → JJ p l e R s m args below meth c 1 D cA A n0 s0 QM σ 0 [(0, .ref rm)] [] := by
  intro σ h hGσ hS H locs ls hH hl hc
  unfold w_X16_fault_0 at h
  refine lv_aload_n B.1 B.2.1 dX16_fault_0 rfl (lv_at hl 0 rfl) ?_
  refine lv_iconst (v := i32 0) B.1 B.2.1 dX16_fault_1 (by decide) ?_
  obtain ⟨σ3, eσ3⟩ : ∃ z, z = pI σ rm 0 0 := ⟨_, rfl⟩
  have h := h σ3 eσ3
  refine r_puti B hH hS 0 (ty := .int) (by decide) wf_X16_1 rfl rfl (by decide) rfl rfl rfl dX16_fault_2 (fun H locs hH => ?_)
  have hH : Hd D cA A s (pI σ rm 0 0) H locs := hH
  rw [← eσ3] at hH
  have hGσ3 : RG σ3 := by rw [eσ3]; exact hGσ.pI (by unfold rng; omega)
  have hS : Shp ra jx rm σ3 := by rw [eσ3]; exact hS
  have hc : CB n0 s0 σ3 := by rw [eσ3]; exact hc
  rw [show gc σ = gc σ3 by rw [eσ3], show gs σ = gs σ3 by rw [eσ3]]
  refine lv_aload_n B.1 B.2.1 dX16_fault_5 rfl (lv_at hl 0 rfl) ?_
  refine r_geti B hH hS 4 (by decide) wf_X16_7 rfl (by decide) dX16_fault_6 ?_
  exact hQ _ _ _ _ _ _ (hGσ3 _ _) dX16_fault_9 hH hc h hGσ3 hS
theorem ok_X16_fault {l : Launch} {D : va_G} {cA : Nat → ClassId} {tys : List (ClassId × FieldType)} {A : Nat → Prop} {ra : Nat → Nat} {jx : Nat → Nat → Nat} {rm : Nat} (hT : Tys cA tys) {Q : Sg → Int → Prop} {X : Sg → String → Prop} (σ : Sg) (hG : RG σ) (hS : Shp ra jx rm σ) (h : wp_X16_fault ra jx rm σ Q X) : Ok l D cA tys A yX16_fault (.code yX16_fault cX16_fault 1 (some .int)) 0 0 [.ref rm] σ (fun σ' w => ∃ r, w = some (.int (i32 r)) ∧ rng r ∧ Q σ' r ∧ RG σ' ∧ Shp ra jx rm σ') (fun σ' E => X σ' E ∧ RG σ' ∧ Shp ra jx rm σ') := by
  refine ok_of (ret := (some .int)) (by decide) (Nat.le_of_ble_eq_true rfl) ?_
  intro p e R s m args below meth c hRR B hr hlocks hex _
  have B : Cx p s m args c cX16_fault 1 RX16 D cA tys A := B
  have hR : Rm R (gc σ) (gs σ) := by rw [hRR]; exact ⟨rfl, rfl⟩
  unfold wp_X16_fault at h
  intro H locs ls hH hl hc
  have hX : ∀ (σ9 : Sg) (E : String) (pc : Nat) (lo : List (Nat × Value)) (st : List Value), X σ9 E → RG σ9 → Shp ra jx rm σ9 → JX p l e R s m args below meth c 1 D cA A (gc σ) (gs σ) (vx_MQ below (Qw D cA A σ (fun σ' w => ∃ r, w = some (.int (i32 r)) ∧ rng r ∧ Q σ' r ∧ RG σ' ∧ Shp ra jx rm σ')) (Xw D cA A σ (fun σ' E => X σ' E ∧ RG σ' ∧ Shp ra jx rm σ')) args s (BC - gc σ) (BS - gs σ) A) σ9 E pc lo st := fun σ9 E pc lo st hx hG9 hS9 H locs ls ce q hH hl hc hce hcv hcl => e_out hH hc (fun x hx9 => (hex x hx9).elim) hlocks hce hcv hcl ⟨hx, hG9, hS9⟩
  exact a_X16_fault_0 B hT hR (by rw [hRR]; exact Nat.le_refl _) (by rw [hRR]; exact Nat.le_refl _) (fun pc ls σ9 H locs r gr hd hH hc hq hG9 hS9 => e_iret B hH hc hr rfl hlocks ⟨r, rfl, gr, hq, hG9, hS9⟩ hd) hX σ h hG hS H locs ls hH (lv_sub (l' := [(0, .ref rm)]) hl [0] rfl) hc
theorem dX16_firstChannel_0 : decode cX16_firstChannel 0 = .ok (.iconst 0, 1) := by decide +kernel
theorem dX16_firstChannel_1 : decode cX16_firstChannel 1 = .ok (.istore_n 2, 1) := by decide +kernel
theorem dX16_firstChannel_2 : decode cX16_firstChannel 2 = .ok (.iload_n 2, 1) := by decide +kernel
theorem dX16_firstChannel_3 : decode cX16_firstChannel 3 = .ok (.aload_n 0, 1) := by decide +kernel
theorem dX16_firstChannel_4 : decode cX16_firstChannel 4 = .ok (.getfield 371, 3) := by decide +kernel
theorem dX16_firstChannel_7 : decode cX16_firstChannel 7 = .ok (.if_icmp .ge 19, 3) := by decide +kernel
theorem dX16_firstChannel_10 : decode cX16_firstChannel 10 = .ok (.aload_n 0, 1) := by decide +kernel
theorem dX16_firstChannel_11 : decode cX16_firstChannel 11 = .ok (.getfield 374, 3) := by decide +kernel
theorem dX16_firstChannel_14 : decode cX16_firstChannel 14 = .ok (.iload_n 2, 1) := by decide +kernel
theorem dX16_firstChannel_15 : decode cX16_firstChannel 15 = .ok (.iaload, 1) := by decide +kernel
theorem dX16_firstChannel_16 : decode cX16_firstChannel 16 = .ok (.iload_n 1, 1) := by decide +kernel
theorem dX16_firstChannel_17 : decode cX16_firstChannel 17 = .ok (.if_icmp .eq 9, 3) := by decide +kernel
theorem dX16_firstChannel_20 : decode cX16_firstChannel 20 = .ok (.iinc 2 1, 3) := by decide +kernel
theorem dX16_firstChannel_23 : decode cX16_firstChannel 23 = .ok (.goto (-21), 3) := by decide +kernel
theorem dX16_firstChannel_26 : decode cX16_firstChannel 26 = .ok (.iload_n 2, 1) := by decide +kernel
theorem dX16_firstChannel_27 : decode cX16_firstChannel 27 = .ok (.ireturn, 1) := by decide +kernel
set_option maxRecDepth 20000 in
theorem a_X16_firstChannel_26 {p : Program} {l : Launch} {e : Env} {R : Room} {s : State} {m : MethodId} {args : Array Value} {below : List Frame} {meth : Method} {c : Code} {D : va_G} {cA : Nat → ClassId} {tys : List (ClassId × FieldType)} {A : Nat → Prop} {n0 s0 : Nat} {QM : State → Prop} {ra : Nat → Nat} {jx : Nat → Nat → Nat} {rm : Nat} {Q : Sg → Int → Prop} {X : Sg → String → Prop} (B : Cx p s m args c cX16_firstChannel 3 RX16 D cA tys A) (hT : Tys cA tys) (hR : Rm R n0 s0) (hFr : 0 ≤ R.frames) (hLw : 0 ≤ R.locals) (hQ : ∀ (pc : Nat) (ls : Array Slot) (σ : Sg) (H : Heap) (locs : List Loc) (r : Int) (gr : rng r), decode cX16_firstChannel pc = .ok (.ireturn, 1) → Hd D cA A s σ H locs → CB n0 s0 σ → Q σ r → RG σ → Shp ra jx rm σ → W p l e R s m args below meth c H locs (gc σ - n0) (gs σ - s0) QM (F0 m pc ls [.int (i32 r)])) (hX : ∀ (σ : Sg) (E : String) (pc : Nat) (lo : List (Nat × Value)) (st : List Value), X σ E → RG σ → Shp ra jx rm σ → JX p l e R s m args below meth c 3 D cA A n0 s0 QM σ E pc lo st) : ∀ (σ : Sg) (v2 : Int) (g2 : rng v2), w_X16_firstChannel_26 ra jx rm Q X σ v2 → RG σ → Shp ra jx rm σ → JJ p l e R s m args below meth c 3 D cA A n0 s0 QM σ 26 [(0, .ref rm), (2, .int (i32 v2))] [] := by
  intro σ v2 g2 h hGσ hS H locs ls hH hl hc
  unfold w_X16_firstChannel_26 at h
  refine lv_iload_n B.1 B.2.1 dX16_firstChannel_26 rfl (lv_at hl 1 rfl) ?_
  exact hQ _ _ _ _ _ _ g2 dX16_firstChannel_27 hH hc h hGσ hS
set_option maxRecDepth 20000 in
theorem a_X16_firstChannel_20 {p : Program} {l : Launch} {e : Env} {R : Room} {s : State} {m : MethodId} {args : Array Value} {below : List Frame} {meth : Method} {c : Code} {D : va_G} {cA : Nat → ClassId} {tys : List (ClassId × FieldType)} {A : Nat → Prop} {n0 s0 : Nat} {QM : State → Prop} {ra : Nat → Nat} {jx : Nat → Nat → Nat} {rm : Nat} {Q : Sg → Int → Prop} {X : Sg → String → Prop} (B : Cx p s m args c cX16_firstChannel 3 RX16 D cA tys A) (hT : Tys cA tys) (hR : Rm R n0 s0) (hFr : 0 ≤ R.frames) (hLw : 0 ≤ R.locals) (hQ : ∀ (pc : Nat) (ls : Array Slot) (σ : Sg) (H : Heap) (locs : List Loc) (r : Int) (gr : rng r), decode cX16_firstChannel pc = .ok (.ireturn, 1) → Hd D cA A s σ H locs → CB n0 s0 σ → Q σ r → RG σ → Shp ra jx rm σ → W p l e R s m args below meth c H locs (gc σ - n0) (gs σ - s0) QM (F0 m pc ls [.int (i32 r)])) (hX : ∀ (σ : Sg) (E : String) (pc : Nat) (lo : List (Nat × Value)) (st : List Value), X σ E → RG σ → Shp ra jx rm σ → JX p l e R s m args below meth c 3 D cA A n0 s0 QM σ E pc lo st) {K2 : Sg → Int → Int → Prop} (hK2 : ∀ (σ : Sg) (v1 : Int) (v2 : Int) (g1 : rng v1) (g2 : rng v2), K2 σ v1 v2 → RG σ → Shp ra jx rm σ → JJ p l e R s m args below meth c 3 D cA A n0 s0 QM σ 2 [(0, .ref rm), (1, .int (i32 v1)), (2, .int (i32 v2))] []) : ∀ (σ : Sg) (v1 : Int) (v2 : Int) (g1 : rng v1) (g2 : rng v2), w_X16_firstChannel_20 ra jx rm K2 Q X σ v1 v2 → RG σ → Shp ra jx rm σ → JJ p l e R s m args below meth c 3 D cA A n0 s0 QM σ 20 [(0, .ref rm), (1, .int (i32 v1)), (2, .int (i32 v2))] [] := by
  intro σ v1 v2 g1 g2 h hGσ hS H locs ls hH hl hc
  unfold w_X16_firstChannel_20 at h
  obtain ⟨q1, h⟩ := h
  refine lv_iinc (k := 2) (v := i32 (v2 + 1)) (lv' := [(2, .int (i32 (v2 + 1))), (0, .ref rm), (1, .int (i32 v1))]) B.1 B.2.1 dX16_firstChannel_20 hl rfl (i32_add _ _) (by decide) rfl (fun ls hl => ?_)
  refine lv_goto (tgt := 2) B.1 B.2.1 dX16_firstChannel_23 (by decide) ?_
  exact hK2 _ _ _ g1 q1 h hGσ hS _ _ _ hH (lv_sub (l' := [(0, .ref rm), (1, .int (i32 v1)), (2, .int (i32 (v2 + 1)))]) hl [1, 2, 0] rfl) hc
set_option maxRecDepth 20000 in
theorem a_X16_firstChannel_10 {p : Program} {l : Launch} {e : Env} {R : Room} {s : State} {m : MethodId} {args : Array Value} {below : List Frame} {meth : Method} {c : Code} {D : va_G} {cA : Nat → ClassId} {tys : List (ClassId × FieldType)} {A : Nat → Prop} {n0 s0 : Nat} {QM : State → Prop} {ra : Nat → Nat} {jx : Nat → Nat → Nat} {rm : Nat} {Q : Sg → Int → Prop} {X : Sg → String → Prop} (B : Cx p s m args c cX16_firstChannel 3 RX16 D cA tys A) (hT : Tys cA tys) (hR : Rm R n0 s0) (hFr : 0 ≤ R.frames) (hLw : 0 ≤ R.locals) (hQ : ∀ (pc : Nat) (ls : Array Slot) (σ : Sg) (H : Heap) (locs : List Loc) (r : Int) (gr : rng r), decode cX16_firstChannel pc = .ok (.ireturn, 1) → Hd D cA A s σ H locs → CB n0 s0 σ → Q σ r → RG σ → Shp ra jx rm σ → W p l e R s m args below meth c H locs (gc σ - n0) (gs σ - s0) QM (F0 m pc ls [.int (i32 r)])) (hX : ∀ (σ : Sg) (E : String) (pc : Nat) (lo : List (Nat × Value)) (st : List Value), X σ E → RG σ → Shp ra jx rm σ → JX p l e R s m args below meth c 3 D cA A n0 s0 QM σ E pc lo st) {K2 : Sg → Int → Int → Prop} (hK2 : ∀ (σ : Sg) (v1 : Int) (v2 : Int) (g1 : rng v1) (g2 : rng v2), K2 σ v1 v2 → RG σ → Shp ra jx rm σ → JJ p l e R s m args below meth c 3 D cA A n0 s0 QM σ 2 [(0, .ref rm), (1, .int (i32 v1)), (2, .int (i32 v2))] []) : ∀ (σ : Sg) (v1 : Int) (v2 : Int) (g1 : rng v1) (g2 : rng v2), w_X16_firstChannel_10 ra jx rm K2 Q X σ v1 v2 → RG σ → Shp ra jx rm σ → JJ p l e R s m args below meth c 3 D cA A n0 s0 QM σ 10 [(0, .ref rm), (1, .int (i32 v1)), (2, .int (i32 v2))] [] := by
  intro σ v1 v2 g1 g2 h hGσ hS H locs ls hH hl hc
  unfold w_X16_firstChannel_10 at h
  refine lv_aload_n B.1 B.2.1 dX16_firstChannel_10 rfl (lv_at hl 0 rfl) ?_
  refine r_arr B hH hS 52 (kd := 100) (n := 1100) (by decide) (by decide) wf_X16_374 rfl (by decide) dX16_firstChannel_11 ?_
  refine lv_iload_n B.1 B.2.1 dX16_firstChannel_14 rfl (lv_at hl 2 rfl) ?_
  obtain ⟨q1, h⟩ := h
  refine r_iald B hT hH hS 52 (n := 1100) (by decide) (by decide) q1 dX16_firstChannel_15 ?_
  refine lv_iload_n B.1 B.2.1 dX16_firstChannel_16 rfl (lv_at hl 1 rfl) ?_
  refine lv_icmp_eq (tgt := 26) B.1 B.2.1 dX16_firstChannel_17 (by decide) (fun h9 => ?_) (fun h9 => ?_)
  · rw [if_pos ((i32_eq (hGσ _ _) g1).mp h9)] at h
    exact a_X16_firstChannel_26 B hT hR hFr hLw hQ hX _ _ g2 h hGσ hS _ _ _ hH (lv_sub (l' := [(0, .ref rm), (2, .int (i32 v2))]) hl [0, 2] rfl) hc
  · rw [if_neg (fun q => h9 ((i32_eq (hGσ _ _) g1).mpr q))] at h
    exact a_X16_firstChannel_20 B hT hR hFr hLw hQ hX hK2 _ _ _ g1 g2 h hGσ hS _ _ _ hH (lv_sub (l' := [(0, .ref rm), (1, .int (i32 v1)), (2, .int (i32 v2))]) hl [0, 1, 2] rfl) hc
set_option maxRecDepth 20000 in
theorem a_X16_firstChannel_2 {p : Program} {l : Launch} {e : Env} {R : Room} {s : State} {m : MethodId} {args : Array Value} {below : List Frame} {meth : Method} {c : Code} {D : va_G} {cA : Nat → ClassId} {tys : List (ClassId × FieldType)} {A : Nat → Prop} {n0 s0 : Nat} {QM : State → Prop} {ra : Nat → Nat} {jx : Nat → Nat → Nat} {rm : Nat} {Q : Sg → Int → Prop} {X : Sg → String → Prop} (B : Cx p s m args c cX16_firstChannel 3 RX16 D cA tys A) (hT : Tys cA tys) (hR : Rm R n0 s0) (hFr : 0 ≤ R.frames) (hLw : 0 ≤ R.locals) (hQ : ∀ (pc : Nat) (ls : Array Slot) (σ : Sg) (H : Heap) (locs : List Loc) (r : Int) (gr : rng r), decode cX16_firstChannel pc = .ok (.ireturn, 1) → Hd D cA A s σ H locs → CB n0 s0 σ → Q σ r → RG σ → Shp ra jx rm σ → W p l e R s m args below meth c H locs (gc σ - n0) (gs σ - s0) QM (F0 m pc ls [.int (i32 r)])) (hX : ∀ (σ : Sg) (E : String) (pc : Nat) (lo : List (Nat × Value)) (st : List Value), X σ E → RG σ → Shp ra jx rm σ → JX p l e R s m args below meth c 3 D cA A n0 s0 QM σ E pc lo st) {K2 : Sg → Int → Int → Prop} (hK2 : ∀ (σ : Sg) (v1 : Int) (v2 : Int) (g1 : rng v1) (g2 : rng v2), K2 σ v1 v2 → RG σ → Shp ra jx rm σ → JJ p l e R s m args below meth c 3 D cA A n0 s0 QM σ 2 [(0, .ref rm), (1, .int (i32 v1)), (2, .int (i32 v2))] []) : ∀ (σ : Sg) (v1 : Int) (v2 : Int) (g1 : rng v1) (g2 : rng v2), w_X16_firstChannel_2 ra jx rm K2 Q X σ v1 v2 → RG σ → Shp ra jx rm σ → JJ p l e R s m args below meth c 3 D cA A n0 s0 QM σ 2 [(0, .ref rm), (1, .int (i32 v1)), (2, .int (i32 v2))] [] := by
  intro σ v1 v2 g1 g2 h hGσ hS H locs ls hH hl hc
  unfold w_X16_firstChannel_2 at h
  refine lv_iload_n B.1 B.2.1 dX16_firstChannel_2 rfl (lv_at hl 2 rfl) ?_
  refine lv_aload_n B.1 B.2.1 dX16_firstChannel_3 rfl (lv_at hl 0 rfl) ?_
  refine r_geti B hH hS 50 (by decide) wf_X16_371 rfl (by decide) dX16_firstChannel_4 ?_
  refine lv_icmp_ge (tgt := 26) B.1 B.2.1 dX16_firstChannel_7 (by decide) (fun h9 => ?_) (fun h9 => ?_)
  · rw [if_pos ((i32_le (hGσ _ _) g2).mp h9)] at h
    exact a_X16_firstChannel_26 B hT hR hFr hLw hQ hX _ _ g2 h hGσ hS _ _ _ hH (lv_sub (l' := [(0, .ref rm), (2, .int (i32 v2))]) hl [0, 2] rfl) hc
  · rw [if_neg (fun q => h9 ((i32_le (hGσ _ _) g2).mpr q))] at h
    exact a_X16_firstChannel_10 B hT hR hFr hLw hQ hX hK2 _ _ _ g1 g2 h hGσ hS _ _ _ hH (lv_sub (l' := [(0, .ref rm), (1, .int (i32 v1)), (2, .int (i32 v2))]) hl [0, 1, 2] rfl) hc
theorem al_X16_firstChannel_2 {p : Program} {l : Launch} {e : Env} {R : Room} {s : State} {m : MethodId} {args : Array Value} {below : List Frame} {meth : Method} {c : Code} {D : va_G} {cA : Nat → ClassId} {tys : List (ClassId × FieldType)} {A : Nat → Prop} {n0 s0 : Nat} {QM : State → Prop} {ra : Nat → Nat} {jx : Nat → Nat → Nat} {rm : Nat} {Q : Sg → Int → Prop} {X : Sg → String → Prop} (B : Cx p s m args c cX16_firstChannel 3 RX16 D cA tys A) (hT : Tys cA tys) (hR : Rm R n0 s0) (hFr : 0 ≤ R.frames) (hLw : 0 ≤ R.locals) (hQ : ∀ (pc : Nat) (ls : Array Slot) (σ : Sg) (H : Heap) (locs : List Loc) (r : Int) (gr : rng r), decode cX16_firstChannel pc = .ok (.ireturn, 1) → Hd D cA A s σ H locs → CB n0 s0 σ → Q σ r → RG σ → Shp ra jx rm σ → W p l e R s m args below meth c H locs (gc σ - n0) (gs σ - s0) QM (F0 m pc ls [.int (i32 r)])) (hX : ∀ (σ : Sg) (E : String) (pc : Nat) (lo : List (Nat × Value)) (st : List Value), X σ E → RG σ → Shp ra jx rm σ → JX p l e R s m args below meth c 3 D cA A n0 s0 QM σ E pc lo st) : ∀ (n : Nat), ∀ (σ : Sg) (v1 : Int) (v2 : Int) (g1 : rng v1) (g2 : rng v2), wl_X16_firstChannel_2 ra jx rm Q X n σ v1 v2 → RG σ → Shp ra jx rm σ → JJ p l e R s m args below meth c 3 D cA A n0 s0 QM σ 2 [(0, .ref rm), (1, .int (i32 v1)), (2, .int (i32 v2))] [] := by
  intro n
  induction n with
  | zero => intro σ v1 v2 g1 g2 h; exact h.elim
  | succ n ih => exact fun σ v1 v2 g1 g2 h => a_X16_firstChannel_2 B hT hR hFr hLw hQ hX ih σ v1 v2 g1 g2 h
set_option maxRecDepth 20000 in
theorem a_X16_firstChannel_0 {p : Program} {l : Launch} {e : Env} {R : Room} {s : State} {m : MethodId} {args : Array Value} {below : List Frame} {meth : Method} {c : Code} {D : va_G} {cA : Nat → ClassId} {tys : List (ClassId × FieldType)} {A : Nat → Prop} {n0 s0 : Nat} {QM : State → Prop} {ra : Nat → Nat} {jx : Nat → Nat → Nat} {rm : Nat} {Q : Sg → Int → Prop} {X : Sg → String → Prop} (B : Cx p s m args c cX16_firstChannel 3 RX16 D cA tys A) (hT : Tys cA tys) (hR : Rm R n0 s0) (hFr : 0 ≤ R.frames) (hLw : 0 ≤ R.locals) (hQ : ∀ (pc : Nat) (ls : Array Slot) (σ : Sg) (H : Heap) (locs : List Loc) (r : Int) (gr : rng r), decode cX16_firstChannel pc = .ok (.ireturn, 1) → Hd D cA A s σ H locs → CB n0 s0 σ → Q σ r → RG σ → Shp ra jx rm σ → W p l e R s m args below meth c H locs (gc σ - n0) (gs σ - s0) QM (F0 m pc ls [.int (i32 r)])) (hX : ∀ (σ : Sg) (E : String) (pc : Nat) (lo : List (Nat × Value)) (st : List Value), X σ E → RG σ → Shp ra jx rm σ → JX p l e R s m args below meth c 3 D cA A n0 s0 QM σ E pc lo st) : ∀ (σ : Sg) (v1 : Int) (g1 : rng v1), w_X16_firstChannel_0 ra jx rm Q X σ v1 → RG σ → Shp ra jx rm σ → JJ p l e R s m args below meth c 3 D cA A n0 s0 QM σ 0 [(0, .ref rm), (1, .int (i32 v1))] [] := by
  intro σ v1 g1 h hGσ hS H locs ls hH hl hc
  unfold w_X16_firstChannel_0 at h
  refine lv_iconst (v := i32 0) B.1 B.2.1 dX16_firstChannel_0 (by decide) ?_
  refine lv_istore_n (lv' := [(2, .int (i32 0)), (0, .ref rm), (1, .int (i32 v1))]) B.1 B.2.1 dX16_firstChannel_1 rfl hl (by decide) rfl (fun ls hl => ?_)
  obtain ⟨n9, h⟩ := h
  exact al_X16_firstChannel_2 B hT hR hFr hLw hQ hX n9 _ _ _ g1 (by unfold rng; omega) h hGσ hS _ _ _ hH (lv_sub (l' := [(0, .ref rm), (1, .int (i32 v1)), (2, .int (i32 0))]) hl [1, 2, 0] rfl) hc
theorem ok_X16_firstChannel {l : Launch} {D : va_G} {cA : Nat → ClassId} {tys : List (ClassId × FieldType)} {A : Nat → Prop} {ra : Nat → Nat} {jx : Nat → Nat → Nat} {rm : Nat} (hT : Tys cA tys) {Q : Sg → Int → Prop} {X : Sg → String → Prop} (σ : Sg) (v1 : Int) (g1 : rng v1) (hG : RG σ) (hS : Shp ra jx rm σ) (h : wp_X16_firstChannel ra jx rm v1 σ Q X) : Ok l D cA tys A yX16_firstChannel (.code yX16_firstChannel cX16_firstChannel 3 (some .int)) 0 0 [.ref rm, .int (i32 v1)] σ (fun σ' w => ∃ r, w = some (.int (i32 r)) ∧ rng r ∧ Q σ' r ∧ RG σ' ∧ Shp ra jx rm σ') (fun σ' E => X σ' E ∧ RG σ' ∧ Shp ra jx rm σ') := by
  refine ok_of (ret := (some .int)) (by decide) (Nat.le_of_ble_eq_true rfl) ?_
  intro p e R s m args below meth c hRR B hr hlocks hex _
  have B : Cx p s m args c cX16_firstChannel 3 RX16 D cA tys A := B
  have hR : Rm R (gc σ) (gs σ) := by rw [hRR]; exact ⟨rfl, rfl⟩
  unfold wp_X16_firstChannel at h
  intro H locs ls hH hl hc
  have hX : ∀ (σ9 : Sg) (E : String) (pc : Nat) (lo : List (Nat × Value)) (st : List Value), X σ9 E → RG σ9 → Shp ra jx rm σ9 → JX p l e R s m args below meth c 3 D cA A (gc σ) (gs σ) (vx_MQ below (Qw D cA A σ (fun σ' w => ∃ r, w = some (.int (i32 r)) ∧ rng r ∧ Q σ' r ∧ RG σ' ∧ Shp ra jx rm σ')) (Xw D cA A σ (fun σ' E => X σ' E ∧ RG σ' ∧ Shp ra jx rm σ')) args s (BC - gc σ) (BS - gs σ) A) σ9 E pc lo st := fun σ9 E pc lo st hx hG9 hS9 H locs ls ce q hH hl hc hce hcv hcl => e_out hH hc (fun x hx9 => (hex x hx9).elim) hlocks hce hcv hcl ⟨hx, hG9, hS9⟩
  exact a_X16_firstChannel_0 B hT hR (by rw [hRR]; exact Nat.le_refl _) (by rw [hRR]; exact Nat.le_refl _) (fun pc ls σ9 H locs r gr hd hH hc hq hG9 hS9 => e_iret B hH hc hr rfl hlocks ⟨r, rfl, gr, hq, hG9, hS9⟩ hd) hX σ v1 g1 h hG hS H locs ls hH (lv_sub (l' := [(0, .ref rm), (1, .int (i32 v1))]) hl [0, 1] rfl) hc
theorem dX16_flush_0 : decode cX16_flush 0 = .ok (.aload_n 0, 1) := by decide +kernel
theorem dX16_flush_1 : decode cX16_flush 1 = .ok (.getfield 435, 3) := by decide +kernel
theorem dX16_flush_4 : decode cX16_flush 4 = .ok (.iload_n 1, 1) := by decide +kernel
theorem dX16_flush_5 : decode cX16_flush 5 = .ok (.iaload, 1) := by decide +kernel
theorem dX16_flush_6 : decode cX16_flush 6 = .ok (.iconst (-1), 1) := by decide +kernel
theorem dX16_flush_7 : decode cX16_flush 7 = .ok (.if_icmp .eq 153, 3) := by decide +kernel
theorem dX16_flush_10 : decode cX16_flush 10 = .ok (.aload_n 0, 1) := by decide +kernel
theorem dX16_flush_11 : decode cX16_flush 11 = .ok (.getfield 435, 3) := by decide +kernel
theorem dX16_flush_14 : decode cX16_flush 14 = .ok (.iload_n 1, 1) := by decide +kernel
theorem dX16_flush_15 : decode cX16_flush 15 = .ok (.iaload, 1) := by decide +kernel
theorem dX16_flush_16 : decode cX16_flush 16 = .ok (.istore_n 2, 1) := by decide +kernel
theorem dX16_flush_17 : decode cX16_flush 17 = .ok (.aload_n 0, 1) := by decide +kernel
theorem dX16_flush_18 : decode cX16_flush 18 = .ok (.getfield 479, 3) := by decide +kernel
theorem dX16_flush_21 : decode cX16_flush 21 = .ok (.iload_n 2, 1) := by decide +kernel
theorem dX16_flush_22 : decode cX16_flush 22 = .ok (.iaload, 1) := by decide +kernel
theorem dX16_flush_23 : decode cX16_flush 23 = .ok (.istore_n 3, 1) := by decide +kernel
theorem dX16_flush_24 : decode cX16_flush 24 = .ok (.aload_n 0, 1) := by decide +kernel
theorem dX16_flush_25 : decode cX16_flush 25 = .ok (.getfield 447, 3) := by decide +kernel
theorem dX16_flush_28 : decode cX16_flush 28 = .ok (.iload_n 3, 1) := by decide +kernel
theorem dX16_flush_29 : decode cX16_flush 29 = .ok (.iaload, 1) := by decide +kernel
theorem dX16_flush_30 : decode cX16_flush 30 = .ok (.aload_n 0, 1) := by decide +kernel
theorem dX16_flush_31 : decode cX16_flush 31 = .ok (.getfield 489, 3) := by decide +kernel
theorem dX16_flush_34 : decode cX16_flush 34 = .ok (.if_icmp .ne 5, 3) := by decide +kernel
theorem dX16_flush_37 : decode cX16_flush 37 = .ok (.iconst 1, 1) := by decide +kernel
theorem dX16_flush_38 : decode cX16_flush 38 = .ok (.ireturn, 1) := by decide +kernel
theorem dX16_flush_39 : decode cX16_flush 39 = .ok (.aload_n 0, 1) := by decide +kernel
theorem dX16_flush_40 : decode cX16_flush 40 = .ok (.getfield 492, 3) := by decide +kernel
theorem dX16_flush_43 : decode cX16_flush 43 = .ok (.bipush 8, 2) := by decide +kernel
theorem dX16_flush_45 : decode cX16_flush 45 = .ok (.iload_n 3, 1) := by decide +kernel
theorem dX16_flush_46 : decode cX16_flush 46 = .ok (.imul, 1) := by decide +kernel
theorem dX16_flush_47 : decode cX16_flush 47 = .ok (.aload_n 0, 1) := by decide +kernel
theorem dX16_flush_48 : decode cX16_flush 48 = .ok (.getfield 450, 3) := by decide +kernel
theorem dX16_flush_51 : decode cX16_flush 51 = .ok (.iload_n 3, 1) := by decide +kernel
theorem dX16_flush_52 : decode cX16_flush 52 = .ok (.iaload, 1) := by decide +kernel
theorem dX16_flush_53 : decode cX16_flush 53 = .ok (.aload_n 0, 1) := by decide +kernel
theorem dX16_flush_54 : decode cX16_flush 54 = .ok (.getfield 447, 3) := by decide +kernel
theorem dX16_flush_57 : decode cX16_flush 57 = .ok (.iload_n 3, 1) := by decide +kernel
theorem dX16_flush_58 : decode cX16_flush 58 = .ok (.iaload, 1) := by decide +kernel
theorem dX16_flush_59 : decode cX16_flush 59 = .ok (.iadd, 1) := by decide +kernel
theorem dX16_flush_60 : decode cX16_flush 60 = .ok (.bipush 8, 2) := by decide +kernel
theorem dX16_flush_62 : decode cX16_flush 62 = .ok (.irem, 1) := by decide +kernel
theorem dX16_flush_63 : decode cX16_flush 63 = .ok (.iadd, 1) := by decide +kernel
theorem dX16_flush_64 : decode cX16_flush 64 = .ok (.iload_n 2, 1) := by decide +kernel
theorem dX16_flush_65 : decode cX16_flush 65 = .ok (.iastore, 1) := by decide +kernel
theorem dX16_flush_66 : decode cX16_flush 66 = .ok (.aload_n 0, 1) := by decide +kernel
theorem dX16_flush_67 : decode cX16_flush 67 = .ok (.getfield 447, 3) := by decide +kernel
theorem dX16_flush_70 : decode cX16_flush 70 = .ok (.iload_n 3, 1) := by decide +kernel
theorem dX16_flush_71 : decode cX16_flush 71 = .ok (.dup2, 1) := by decide +kernel
theorem dX16_flush_72 : decode cX16_flush 72 = .ok (.iaload, 1) := by decide +kernel
theorem dX16_flush_73 : decode cX16_flush 73 = .ok (.iconst 1, 1) := by decide +kernel
theorem dX16_flush_74 : decode cX16_flush 74 = .ok (.iadd, 1) := by decide +kernel
theorem dX16_flush_75 : decode cX16_flush 75 = .ok (.iastore, 1) := by decide +kernel
theorem dX16_flush_76 : decode cX16_flush 76 = .ok (.aload_n 0, 1) := by decide +kernel
theorem dX16_flush_77 : decode cX16_flush 77 = .ok (.getfield 459, 3) := by decide +kernel
theorem dX16_flush_80 : decode cX16_flush 80 = .ok (.iload_n 3, 1) := by decide +kernel
theorem dX16_flush_81 : decode cX16_flush 81 = .ok (.dup2, 1) := by decide +kernel
theorem dX16_flush_82 : decode cX16_flush 82 = .ok (.laload, 1) := by decide +kernel
theorem dX16_flush_83 : decode cX16_flush 83 = .ok (.aload_n 0, 1) := by decide +kernel
theorem dX16_flush_84 : decode cX16_flush 84 = .ok (.getfield 467, 3) := by decide +kernel
theorem dX16_flush_87 : decode cX16_flush 87 = .ok (.iload_n 2, 1) := by decide +kernel
theorem dX16_flush_88 : decode cX16_flush 88 = .ok (.iaload, 1) := by decide +kernel
theorem dX16_flush_89 : decode cX16_flush 89 = .ok (.ifCond .ne 7, 3) := by decide +kernel
theorem dX16_flush_92 : decode cX16_flush 92 = .ok (.lconst 1, 1) := by decide +kernel
theorem dX16_flush_93 : decode cX16_flush 93 = .ok (.goto 4, 3) := by decide +kernel
theorem dX16_flush_96 : decode cX16_flush 96 = .ok (.lconst 0, 1) := by decide +kernel
theorem dX16_flush_97 : decode cX16_flush 97 = .ok (.ladd, 1) := by decide +kernel
theorem dX16_flush_98 : decode cX16_flush 98 = .ok (.lastore, 1) := by decide +kernel
theorem dX16_flush_99 : decode cX16_flush 99 = .ok (.aload_n 0, 1) := by decide +kernel
theorem dX16_flush_100 : decode cX16_flush 100 = .ok (.getfield 435, 3) := by decide +kernel
theorem dX16_flush_103 : decode cX16_flush 103 = .ok (.iload_n 1, 1) := by decide +kernel
theorem dX16_flush_104 : decode cX16_flush 104 = .ok (.aload_n 0, 1) := by decide +kernel
theorem dX16_flush_105 : decode cX16_flush 105 = .ok (.getfield 405, 3) := by decide +kernel
theorem dX16_flush_108 : decode cX16_flush 108 = .ok (.iload_n 2, 1) := by decide +kernel
theorem dX16_flush_109 : decode cX16_flush 109 = .ok (.iaload, 1) := by decide +kernel
theorem dX16_flush_110 : decode cX16_flush 110 = .ok (.iastore, 1) := by decide +kernel
theorem dX16_flush_111 : decode cX16_flush 111 = .ok (.aload_n 0, 1) := by decide +kernel
theorem dX16_flush_112 : decode cX16_flush 112 = .ok (.getfield 438, 3) := by decide +kernel
theorem dX16_flush_115 : decode cX16_flush 115 = .ok (.iload_n 1, 1) := by decide +kernel
theorem dX16_flush_116 : decode cX16_flush 116 = .ok (.aload_n 0, 1) := by decide +kernel
theorem dX16_flush_117 : decode cX16_flush 117 = .ok (.getfield 435, 3) := by decide +kernel
theorem dX16_flush_120 : decode cX16_flush 120 = .ok (.iload_n 1, 1) := by decide +kernel
theorem dX16_flush_121 : decode cX16_flush 121 = .ok (.iaload, 1) := by decide +kernel
theorem dX16_flush_122 : decode cX16_flush 122 = .ok (.iconst (-1), 1) := by decide +kernel
theorem dX16_flush_123 : decode cX16_flush 123 = .ok (.if_icmp .ne 7, 3) := by decide +kernel
theorem dX16_flush_126 : decode cX16_flush 126 = .ok (.iconst (-1), 1) := by decide +kernel
theorem dX16_flush_127 : decode cX16_flush 127 = .ok (.goto 9, 3) := by decide +kernel
theorem dX16_flush_130 : decode cX16_flush 130 = .ok (.aload_n 0, 1) := by decide +kernel
theorem dX16_flush_131 : decode cX16_flush 131 = .ok (.getfield 438, 3) := by decide +kernel
theorem dX16_flush_134 : decode cX16_flush 134 = .ok (.iload_n 1, 1) := by decide +kernel
theorem dX16_flush_135 : decode cX16_flush 135 = .ok (.iaload, 1) := by decide +kernel
theorem dX16_flush_136 : decode cX16_flush 136 = .ok (.iastore, 1) := by decide +kernel
theorem dX16_flush_137 : decode cX16_flush 137 = .ok (.aload_n 0, 1) := by decide +kernel
theorem dX16_flush_138 : decode cX16_flush 138 = .ok (.getfield 441, 3) := by decide +kernel
theorem dX16_flush_141 : decode cX16_flush 141 = .ok (.iload_n 1, 1) := by decide +kernel
theorem dX16_flush_142 : decode cX16_flush 142 = .ok (.dup2, 1) := by decide +kernel
theorem dX16_flush_143 : decode cX16_flush 143 = .ok (.iaload, 1) := by decide +kernel
theorem dX16_flush_144 : decode cX16_flush 144 = .ok (.iconst 1, 1) := by decide +kernel
theorem dX16_flush_145 : decode cX16_flush 145 = .ok (.isub, 1) := by decide +kernel
theorem dX16_flush_146 : decode cX16_flush 146 = .ok (.iastore, 1) := by decide +kernel
theorem dX16_flush_147 : decode cX16_flush 147 = .ok (.aload_n 0, 1) := by decide +kernel
theorem dX16_flush_148 : decode cX16_flush 148 = .ok (.dup, 1) := by decide +kernel
theorem dX16_flush_149 : decode cX16_flush 149 = .ok (.getfield 411, 3) := by decide +kernel
theorem dX16_flush_152 : decode cX16_flush 152 = .ok (.iconst 1, 1) := by decide +kernel
theorem dX16_flush_153 : decode cX16_flush 153 = .ok (.isub, 1) := by decide +kernel
theorem dX16_flush_154 : decode cX16_flush 154 = .ok (.putfield 411, 3) := by decide +kernel
theorem dX16_flush_157 : decode cX16_flush 157 = .ok (.goto (-157), 3) := by decide +kernel
theorem dX16_flush_160 : decode cX16_flush 160 = .ok (.iconst 0, 1) := by decide +kernel
theorem dX16_flush_161 : decode cX16_flush 161 = .ok (.ireturn, 1) := by decide +kernel
set_option maxRecDepth 20000 in
theorem a_X16_flush_160 {p : Program} {l : Launch} {e : Env} {R : Room} {s : State} {m : MethodId} {args : Array Value} {below : List Frame} {meth : Method} {c : Code} {D : va_G} {cA : Nat → ClassId} {tys : List (ClassId × FieldType)} {A : Nat → Prop} {n0 s0 : Nat} {QM : State → Prop} {ra : Nat → Nat} {jx : Nat → Nat → Nat} {rm : Nat} {Q : Sg → Int → Prop} {X : Sg → String → Prop} (B : Cx p s m args c cX16_flush 4 RX16 D cA tys A) (hT : Tys cA tys) (hR : Rm R n0 s0) (hFr : 0 ≤ R.frames) (hLw : 0 ≤ R.locals) (hQ : ∀ (pc : Nat) (ls : Array Slot) (σ : Sg) (H : Heap) (locs : List Loc) (r : Int) (gr : rng r) (gz : r = 0 ∨ r = 1), decode cX16_flush pc = .ok (.ireturn, 1) → Hd D cA A s σ H locs → CB n0 s0 σ → Q σ r → RG σ → Shp ra jx rm σ → W p l e R s m args below meth c H locs (gc σ - n0) (gs σ - s0) QM (F0 m pc ls [.int (i32 r)])) (hX : ∀ (σ : Sg) (E : String) (pc : Nat) (lo : List (Nat × Value)) (st : List Value), X σ E → RG σ → Shp ra jx rm σ → JX p l e R s m args below meth c 4 D cA A n0 s0 QM σ E pc lo st) : ∀ (σ : Sg), w_X16_flush_160 ra jx rm Q X σ → RG σ → Shp ra jx rm σ → JJ p l e R s m args below meth c 4 D cA A n0 s0 QM σ 160 [(0, .ref rm)] [] := by
  intro σ h hGσ hS H locs ls hH hl hc
  unfold w_X16_flush_160 at h
  refine lv_iconst (v := i32 0) B.1 B.2.1 dX16_flush_160 (by decide) ?_
  exact hQ _ _ _ _ _ _ (by unfold rng; omega) (Or.inl rfl) dX16_flush_161 hH hc h hGσ hS
set_option maxRecDepth 20000 in
theorem a_X16_flush_136 {p : Program} {l : Launch} {e : Env} {R : Room} {s : State} {m : MethodId} {args : Array Value} {below : List Frame} {meth : Method} {c : Code} {D : va_G} {cA : Nat → ClassId} {tys : List (ClassId × FieldType)} {A : Nat → Prop} {n0 s0 : Nat} {QM : State → Prop} {ra : Nat → Nat} {jx : Nat → Nat → Nat} {rm : Nat} {Q : Sg → Int → Prop} {X : Sg → String → Prop} (B : Cx p s m args c cX16_flush 4 RX16 D cA tys A) (hT : Tys cA tys) (hR : Rm R n0 s0) (hFr : 0 ≤ R.frames) (hLw : 0 ≤ R.locals) (hQ : ∀ (pc : Nat) (ls : Array Slot) (σ : Sg) (H : Heap) (locs : List Loc) (r : Int) (gr : rng r) (gz : r = 0 ∨ r = 1), decode cX16_flush pc = .ok (.ireturn, 1) → Hd D cA A s σ H locs → CB n0 s0 σ → Q σ r → RG σ → Shp ra jx rm σ → W p l e R s m args below meth c H locs (gc σ - n0) (gs σ - s0) QM (F0 m pc ls [.int (i32 r)])) (hX : ∀ (σ : Sg) (E : String) (pc : Nat) (lo : List (Nat × Value)) (st : List Value), X σ E → RG σ → Shp ra jx rm σ → JX p l e R s m args below meth c 4 D cA A n0 s0 QM σ E pc lo st) {K0 : Sg → Int → Prop} (hK0 : ∀ (σ : Sg) (v1 : Int) (g1 : rng v1), K0 σ v1 → RG σ → Shp ra jx rm σ → JJ p l e R s m args below meth c 4 D cA A n0 s0 QM σ 0 [(0, .ref rm), (1, .int (i32 v1))] []) : ∀ (σ : Sg) (v1 : Int) (u0 : Int) (u1 : Int) (g1 : rng v1) (gu0 : rng u0) (gu1 : rng u1), w_X16_flush_136 ra jx rm K0 Q X σ v1 u0 u1 → RG σ → Shp ra jx rm σ → JJ p l e R s m args below meth c 4 D cA A n0 s0 QM σ 136 [(0, .ref rm), (1, .int (i32 v1))] [.int (i32 u0), .int (i32 u1), .ref (ra 47)] := by
  intro σ v1 u0 u1 g1 gu0 gu1 h hGσ hS H locs ls hH hl hc
  unfold w_X16_flush_136 at h
  obtain ⟨q1, h⟩ := h
  obtain ⟨σ15, eσ15⟩ : ∃ z, z = pI σ (ra 47) u1.toNat u0 := ⟨_, rfl⟩
  have h := h σ15 eσ15
  refine r_iast B hT hH hS 47 (n := 64) (by decide) (by decide) q1 dX16_flush_136 (fun H locs hH => ?_)
  have hH : Hd D cA A s (pI σ (ra 47) u1.toNat u0) H locs := hH
  rw [← eσ15] at hH
  have hGσ15 : RG σ15 := by rw [eσ15]; exact hGσ.pI gu0
  have hS : Shp ra jx rm σ15 := by rw [eσ15]; exact hS
  have hc : CB n0 s0 σ15 := by rw [eσ15]; exact hc
  rw [show gc σ = gc σ15 by rw [eσ15], show gs σ = gs σ15 by rw [eσ15]]
  refine lv_aload_n B.1 B.2.1 dX16_flush_137 rfl (lv_at hl 0 rfl) ?_
  refine r_arr B hH hS 48 (kd := 100) (n := 64) (by decide) (by decide) wf_X16_441 rfl (by decide) dX16_flush_138 ?_
  refine lv_iload_n B.1 B.2.1 dX16_flush_141 rfl (lv_at hl 1 rfl) ?_
  refine lv_dup2_11 B.1 B.2.1 dX16_flush_142 rfl rfl ?_
  obtain ⟨q2, h⟩ := h
  refine r_iald B hT hH hS 48 (n := 64) (by decide) (by decide) q2 dX16_flush_143 ?_
  refine lv_iconst (v := i32 1) B.1 B.2.1 dX16_flush_144 (by decide) ?_
  obtain ⟨q3, h⟩ := h
  refine lv_isub B.1 B.2.1 dX16_flush_145 ?_
  rw [i32_sub]
  obtain ⟨q4, h⟩ := h
  obtain ⟨σ16, eσ16⟩ : ∃ z, z = pI σ15 (ra 48) v1.toNat ((gI σ15 (ra 48) v1.toNat) - 1) := ⟨_, rfl⟩
  have h := h σ16 eσ16
  refine r_iast B hT hH hS 48 (n := 64) (by decide) (by decide) q4 dX16_flush_146 (fun H locs hH => ?_)
  have hH : Hd D cA A s (pI σ15 (ra 48) v1.toNat ((gI σ15 (ra 48) v1.toNat) - 1)) H locs := hH
  rw [← eσ16] at hH
  have hGσ16 : RG σ16 := by rw [eσ16]; exact hGσ15.pI q3
  have hS : Shp ra jx rm σ16 := by rw [eσ16]; exact hS
  have hc : CB n0 s0 σ16 := by rw [eσ16]; exact hc
  rw [show gc σ15 = gc σ16 by rw [eσ16], show gs σ15 = gs σ16 by rw [eσ16]]
  refine lv_aload_n B.1 B.2.1 dX16_flush_147 rfl (lv_at hl 0 rfl) ?_
  refine lv_dup B.1 B.2.1 dX16_flush_148 rfl ?_
  refine r_geti B hH hS 67 (by decide) wf_X16_411 rfl (by decide) dX16_flush_149 ?_
  refine lv_iconst (v := i32 1) B.1 B.2.1 dX16_flush_152 (by decide) ?_
  obtain ⟨q5, h⟩ := h
  refine lv_isub B.1 B.2.1 dX16_flush_153 ?_
  rw [i32_sub]
  obtain ⟨σ17, eσ17⟩ : ∃ z, z = pI σ16 rm 67 (gI σ16 rm 67 - 1) := ⟨_, rfl⟩
  have h := h σ17 eσ17
  refine r_puti B hH hS 67 (ty := .int) (by decide) wf_X16_411 rfl rfl (by decide) rfl rfl rfl dX16_flush_154 (fun H locs hH => ?_)
  have hH : Hd D cA A s (pI σ16 rm 67 (gI σ16 rm 67 - 1)) H locs := hH
  rw [← eσ17] at hH
  have hGσ17 : RG σ17 := by rw [eσ17]; exact hGσ16.pI q5
  have hS : Shp ra jx rm σ17 := by rw [eσ17]; exact hS
  have hc : CB n0 s0 σ17 := by rw [eσ17]; exact hc
  rw [show gc σ16 = gc σ17 by rw [eσ17], show gs σ16 = gs σ17 by rw [eσ17]]
  refine lv_goto (tgt := 0) B.1 B.2.1 dX16_flush_157 (by decide) ?_
  exact hK0 _ _ g1 h hGσ17 hS _ _ _ hH (lv_sub (l' := [(0, .ref rm), (1, .int (i32 v1))]) hl [0, 1] rfl) hc
set_option maxRecDepth 20000 in
theorem a_X16_flush_130 {p : Program} {l : Launch} {e : Env} {R : Room} {s : State} {m : MethodId} {args : Array Value} {below : List Frame} {meth : Method} {c : Code} {D : va_G} {cA : Nat → ClassId} {tys : List (ClassId × FieldType)} {A : Nat → Prop} {n0 s0 : Nat} {QM : State → Prop} {ra : Nat → Nat} {jx : Nat → Nat → Nat} {rm : Nat} {Q : Sg → Int → Prop} {X : Sg → String → Prop} (B : Cx p s m args c cX16_flush 4 RX16 D cA tys A) (hT : Tys cA tys) (hR : Rm R n0 s0) (hFr : 0 ≤ R.frames) (hLw : 0 ≤ R.locals) (hQ : ∀ (pc : Nat) (ls : Array Slot) (σ : Sg) (H : Heap) (locs : List Loc) (r : Int) (gr : rng r) (gz : r = 0 ∨ r = 1), decode cX16_flush pc = .ok (.ireturn, 1) → Hd D cA A s σ H locs → CB n0 s0 σ → Q σ r → RG σ → Shp ra jx rm σ → W p l e R s m args below meth c H locs (gc σ - n0) (gs σ - s0) QM (F0 m pc ls [.int (i32 r)])) (hX : ∀ (σ : Sg) (E : String) (pc : Nat) (lo : List (Nat × Value)) (st : List Value), X σ E → RG σ → Shp ra jx rm σ → JX p l e R s m args below meth c 4 D cA A n0 s0 QM σ E pc lo st) {K0 : Sg → Int → Prop} (hK0 : ∀ (σ : Sg) (v1 : Int) (g1 : rng v1), K0 σ v1 → RG σ → Shp ra jx rm σ → JJ p l e R s m args below meth c 4 D cA A n0 s0 QM σ 0 [(0, .ref rm), (1, .int (i32 v1))] []) : ∀ (σ : Sg) (v1 : Int) (u0 : Int) (g1 : rng v1) (gu0 : rng u0), w_X16_flush_130 ra jx rm K0 Q X σ v1 u0 → RG σ → Shp ra jx rm σ → JJ p l e R s m args below meth c 4 D cA A n0 s0 QM σ 130 [(0, .ref rm), (1, .int (i32 v1))] [.int (i32 u0), .ref (ra 47)] := by
  intro σ v1 u0 g1 gu0 h hGσ hS H locs ls hH hl hc
  unfold w_X16_flush_130 at h
  refine lv_aload_n B.1 B.2.1 dX16_flush_130 rfl (lv_at hl 0 rfl) ?_
  refine r_arr B hH hS 47 (kd := 100) (n := 64) (by decide) (by decide) wf_X16_438 rfl (by decide) dX16_flush_131 ?_
  refine lv_iload_n B.1 B.2.1 dX16_flush_134 rfl (lv_at hl 1 rfl) ?_
  obtain ⟨q1, h⟩ := h
  refine r_iald B hT hH hS 47 (n := 64) (by decide) (by decide) q1 dX16_flush_135 ?_
  exact a_X16_flush_136 B hT hR hFr hLw hQ hX hK0 _ _ _ _ g1 (hGσ _ _) gu0 h hGσ hS _ _ _ hH (lv_sub (l' := [(0, .ref rm), (1, .int (i32 v1))]) hl [0, 1] rfl) hc
set_option maxRecDepth 20000 in
theorem a_X16_flush_126 {p : Program} {l : Launch} {e : Env} {R : Room} {s : State} {m : MethodId} {args : Array Value} {below : List Frame} {meth : Method} {c : Code} {D : va_G} {cA : Nat → ClassId} {tys : List (ClassId × FieldType)} {A : Nat → Prop} {n0 s0 : Nat} {QM : State → Prop} {ra : Nat → Nat} {jx : Nat → Nat → Nat} {rm : Nat} {Q : Sg → Int → Prop} {X : Sg → String → Prop} (B : Cx p s m args c cX16_flush 4 RX16 D cA tys A) (hT : Tys cA tys) (hR : Rm R n0 s0) (hFr : 0 ≤ R.frames) (hLw : 0 ≤ R.locals) (hQ : ∀ (pc : Nat) (ls : Array Slot) (σ : Sg) (H : Heap) (locs : List Loc) (r : Int) (gr : rng r) (gz : r = 0 ∨ r = 1), decode cX16_flush pc = .ok (.ireturn, 1) → Hd D cA A s σ H locs → CB n0 s0 σ → Q σ r → RG σ → Shp ra jx rm σ → W p l e R s m args below meth c H locs (gc σ - n0) (gs σ - s0) QM (F0 m pc ls [.int (i32 r)])) (hX : ∀ (σ : Sg) (E : String) (pc : Nat) (lo : List (Nat × Value)) (st : List Value), X σ E → RG σ → Shp ra jx rm σ → JX p l e R s m args below meth c 4 D cA A n0 s0 QM σ E pc lo st) {K0 : Sg → Int → Prop} (hK0 : ∀ (σ : Sg) (v1 : Int) (g1 : rng v1), K0 σ v1 → RG σ → Shp ra jx rm σ → JJ p l e R s m args below meth c 4 D cA A n0 s0 QM σ 0 [(0, .ref rm), (1, .int (i32 v1))] []) : ∀ (σ : Sg) (v1 : Int) (u0 : Int) (g1 : rng v1) (gu0 : rng u0), w_X16_flush_126 ra jx rm K0 Q X σ v1 u0 → RG σ → Shp ra jx rm σ → JJ p l e R s m args below meth c 4 D cA A n0 s0 QM σ 126 [(0, .ref rm), (1, .int (i32 v1))] [.int (i32 u0), .ref (ra 47)] := by
  intro σ v1 u0 g1 gu0 h hGσ hS H locs ls hH hl hc
  unfold w_X16_flush_126 at h
  refine lv_iconst (v := i32 (-1)) B.1 B.2.1 dX16_flush_126 (by decide) ?_
  refine lv_goto (tgt := 136) B.1 B.2.1 dX16_flush_127 (by decide) ?_
  exact a_X16_flush_136 B hT hR hFr hLw hQ hX hK0 _ _ _ _ g1 (by unfold rng; omega) gu0 h hGσ hS _ _ _ hH (lv_sub (l' := [(0, .ref rm), (1, .int (i32 v1))]) hl [0, 1] rfl) hc
set_option maxRecDepth 20000 in
theorem a_X16_flush_97 {p : Program} {l : Launch} {e : Env} {R : Room} {s : State} {m : MethodId} {args : Array Value} {below : List Frame} {meth : Method} {c : Code} {D : va_G} {cA : Nat → ClassId} {tys : List (ClassId × FieldType)} {A : Nat → Prop} {n0 s0 : Nat} {QM : State → Prop} {ra : Nat → Nat} {jx : Nat → Nat → Nat} {rm : Nat} {Q : Sg → Int → Prop} {X : Sg → String → Prop} (B : Cx p s m args c cX16_flush 4 RX16 D cA tys A) (hT : Tys cA tys) (hR : Rm R n0 s0) (hFr : 0 ≤ R.frames) (hLw : 0 ≤ R.locals) (hQ : ∀ (pc : Nat) (ls : Array Slot) (σ : Sg) (H : Heap) (locs : List Loc) (r : Int) (gr : rng r) (gz : r = 0 ∨ r = 1), decode cX16_flush pc = .ok (.ireturn, 1) → Hd D cA A s σ H locs → CB n0 s0 σ → Q σ r → RG σ → Shp ra jx rm σ → W p l e R s m args below meth c H locs (gc σ - n0) (gs σ - s0) QM (F0 m pc ls [.int (i32 r)])) (hX : ∀ (σ : Sg) (E : String) (pc : Nat) (lo : List (Nat × Value)) (st : List Value), X σ E → RG σ → Shp ra jx rm σ → JX p l e R s m args below meth c 4 D cA A n0 s0 QM σ E pc lo st) {K0 : Sg → Int → Prop} (hK0 : ∀ (σ : Sg) (v1 : Int) (g1 : rng v1), K0 σ v1 → RG σ → Shp ra jx rm σ → JJ p l e R s m args below meth c 4 D cA A n0 s0 QM σ 0 [(0, .ref rm), (1, .int (i32 v1))] []) : ∀ (σ : Sg) (v1 : Int) (v2 : Int) (u0 : Int64) (u1 : Int64) (u2 : Int) (g1 : rng v1) (g2 : rng v2) (gu2 : rng u2), w_X16_flush_97 ra jx rm K0 Q X σ v1 v2 u0 u1 u2 → RG σ → Shp ra jx rm σ → JJ p l e R s m args below meth c 4 D cA A n0 s0 QM σ 97 [(0, .ref rm), (1, .int (i32 v1)), (2, .int (i32 v2))] [.long u0, .long u1, .int (i32 u2), .ref (ra 58)] := by
  intro σ v1 v2 u0 u1 u2 g1 g2 gu2 h hGσ hS H locs ls hH hl hc
  unfold w_X16_flush_97 at h
  refine lv_ladd B.1 B.2.1 dX16_flush_97 ?_
  obtain ⟨q1, h⟩ := h
  obtain ⟨σ18, eσ18⟩ : ∃ z, z = pJ σ (ra 58) u2.toNat (u1 + u0) := ⟨_, rfl⟩
  have h := h σ18 eσ18
  refine r_last B hT hH hS 58 (n := 1100) (by decide) (by decide) q1 dX16_flush_98 (fun H locs hH => ?_)
  have hH : Hd D cA A s (pJ σ (ra 58) u2.toNat (u1 + u0)) H locs := hH
  rw [← eσ18] at hH
  have hGσ18 : RG σ18 := by rw [eσ18]; exact hGσ.pJ
  have hS : Shp ra jx rm σ18 := by rw [eσ18]; exact hS
  have hc : CB n0 s0 σ18 := by rw [eσ18]; exact hc
  rw [show gc σ = gc σ18 by rw [eσ18], show gs σ = gs σ18 by rw [eσ18]]
  refine lv_aload_n B.1 B.2.1 dX16_flush_99 rfl (lv_at hl 0 rfl) ?_
  refine r_arr B hH hS 46 (kd := 100) (n := 64) (by decide) (by decide) wf_X16_435 rfl (by decide) dX16_flush_100 ?_
  refine lv_iload_n B.1 B.2.1 dX16_flush_103 rfl (lv_at hl 1 rfl) ?_
  refine lv_aload_n B.1 B.2.1 dX16_flush_104 rfl (lv_at hl 0 rfl) ?_
  refine r_arr B hH hS 65 (kd := 100) (n := 12802) (by decide) (by decide) wf_X16_405 rfl (by decide) dX16_flush_105 ?_
  refine lv_iload_n B.1 B.2.1 dX16_flush_108 rfl (lv_at hl 2 rfl) ?_
  obtain ⟨q2, h⟩ := h
  refine r_iald B hT hH hS 65 (n := 12802) (by decide) (by decide) q2 dX16_flush_109 ?_
  obtain ⟨q3, h⟩ := h
  obtain ⟨σ19, eσ19⟩ : ∃ z, z = pI σ18 (ra 46) v1.toNat (gI σ18 (ra 65) v2.toNat) := ⟨_, rfl⟩
  have h := h σ19 eσ19
  refine r_iast B hT hH hS 46 (n := 64) (by decide) (by decide) q3 dX16_flush_110 (fun H locs hH => ?_)
  have hH : Hd D cA A s (pI σ18 (ra 46) v1.toNat (gI σ18 (ra 65) v2.toNat)) H locs := hH
  rw [← eσ19] at hH
  have hGσ19 : RG σ19 := by rw [eσ19]; exact hGσ18.pI (hGσ18 _ _)
  have hS : Shp ra jx rm σ19 := by rw [eσ19]; exact hS
  have hc : CB n0 s0 σ19 := by rw [eσ19]; exact hc
  rw [show gc σ18 = gc σ19 by rw [eσ19], show gs σ18 = gs σ19 by rw [eσ19]]
  refine lv_aload_n B.1 B.2.1 dX16_flush_111 rfl (lv_at hl 0 rfl) ?_
  refine r_arr B hH hS 47 (kd := 100) (n := 64) (by decide) (by decide) wf_X16_438 rfl (by decide) dX16_flush_112 ?_
  refine lv_iload_n B.1 B.2.1 dX16_flush_115 rfl (lv_at hl 1 rfl) ?_
  refine lv_aload_n B.1 B.2.1 dX16_flush_116 rfl (lv_at hl 0 rfl) ?_
  refine r_arr B hH hS 46 (kd := 100) (n := 64) (by decide) (by decide) wf_X16_435 rfl (by decide) dX16_flush_117 ?_
  refine lv_iload_n B.1 B.2.1 dX16_flush_120 rfl (lv_at hl 1 rfl) ?_
  obtain ⟨q4, h⟩ := h
  refine r_iald B hT hH hS 46 (n := 64) (by decide) (by decide) q4 dX16_flush_121 ?_
  refine lv_iconst (v := i32 (-1)) B.1 B.2.1 dX16_flush_122 (by decide) ?_
  refine lv_icmp_ne (tgt := 130) B.1 B.2.1 dX16_flush_123 (by decide) (fun h9 => ?_) (fun h9 => ?_)
  · rw [if_pos (fun q => h9 ((i32_eq (hGσ19 _ _) (by unfold rng; omega)).mpr q))] at h
    exact a_X16_flush_130 B hT hR hFr hLw hQ hX hK0 _ _ _ g1 g1 h hGσ19 hS _ _ _ hH (lv_sub (l' := [(0, .ref rm), (1, .int (i32 v1))]) hl [0, 1] rfl) hc
  · rw [if_neg (fun q => q ((i32_eq (hGσ19 _ _) (by unfold rng; omega)).mp h9))] at h
    exact a_X16_flush_126 B hT hR hFr hLw hQ hX hK0 _ _ _ g1 g1 h hGσ19 hS _ _ _ hH (lv_sub (l' := [(0, .ref rm), (1, .int (i32 v1))]) hl [0, 1] rfl) hc
set_option maxRecDepth 20000 in
theorem a_X16_flush_96 {p : Program} {l : Launch} {e : Env} {R : Room} {s : State} {m : MethodId} {args : Array Value} {below : List Frame} {meth : Method} {c : Code} {D : va_G} {cA : Nat → ClassId} {tys : List (ClassId × FieldType)} {A : Nat → Prop} {n0 s0 : Nat} {QM : State → Prop} {ra : Nat → Nat} {jx : Nat → Nat → Nat} {rm : Nat} {Q : Sg → Int → Prop} {X : Sg → String → Prop} (B : Cx p s m args c cX16_flush 4 RX16 D cA tys A) (hT : Tys cA tys) (hR : Rm R n0 s0) (hFr : 0 ≤ R.frames) (hLw : 0 ≤ R.locals) (hQ : ∀ (pc : Nat) (ls : Array Slot) (σ : Sg) (H : Heap) (locs : List Loc) (r : Int) (gr : rng r) (gz : r = 0 ∨ r = 1), decode cX16_flush pc = .ok (.ireturn, 1) → Hd D cA A s σ H locs → CB n0 s0 σ → Q σ r → RG σ → Shp ra jx rm σ → W p l e R s m args below meth c H locs (gc σ - n0) (gs σ - s0) QM (F0 m pc ls [.int (i32 r)])) (hX : ∀ (σ : Sg) (E : String) (pc : Nat) (lo : List (Nat × Value)) (st : List Value), X σ E → RG σ → Shp ra jx rm σ → JX p l e R s m args below meth c 4 D cA A n0 s0 QM σ E pc lo st) {K0 : Sg → Int → Prop} (hK0 : ∀ (σ : Sg) (v1 : Int) (g1 : rng v1), K0 σ v1 → RG σ → Shp ra jx rm σ → JJ p l e R s m args below meth c 4 D cA A n0 s0 QM σ 0 [(0, .ref rm), (1, .int (i32 v1))] []) : ∀ (σ : Sg) (v1 : Int) (v2 : Int) (u0 : Int64) (u1 : Int) (g1 : rng v1) (g2 : rng v2) (gu1 : rng u1), w_X16_flush_96 ra jx rm K0 Q X σ v1 v2 u0 u1 → RG σ → Shp ra jx rm σ → JJ p l e R s m args below meth c 4 D cA A n0 s0 QM σ 96 [(0, .ref rm), (1, .int (i32 v1)), (2, .int (i32 v2))] [.long u0, .int (i32 u1), .ref (ra 58)] := by
  intro σ v1 v2 u0 u1 g1 g2 gu1 h hGσ hS H locs ls hH hl hc
  unfold w_X16_flush_96 at h
  refine lv_lconst (v := 0) B.1 B.2.1 dX16_flush_96 (by decide) ?_
  exact a_X16_flush_97 B hT hR hFr hLw hQ hX hK0 _ _ _ _ _ _ g1 g2 gu1 h hGσ hS _ _ _ hH (lv_sub (l' := [(0, .ref rm), (1, .int (i32 v1)), (2, .int (i32 v2))]) hl [0, 1, 2] rfl) hc
set_option maxRecDepth 20000 in
theorem a_X16_flush_92 {p : Program} {l : Launch} {e : Env} {R : Room} {s : State} {m : MethodId} {args : Array Value} {below : List Frame} {meth : Method} {c : Code} {D : va_G} {cA : Nat → ClassId} {tys : List (ClassId × FieldType)} {A : Nat → Prop} {n0 s0 : Nat} {QM : State → Prop} {ra : Nat → Nat} {jx : Nat → Nat → Nat} {rm : Nat} {Q : Sg → Int → Prop} {X : Sg → String → Prop} (B : Cx p s m args c cX16_flush 4 RX16 D cA tys A) (hT : Tys cA tys) (hR : Rm R n0 s0) (hFr : 0 ≤ R.frames) (hLw : 0 ≤ R.locals) (hQ : ∀ (pc : Nat) (ls : Array Slot) (σ : Sg) (H : Heap) (locs : List Loc) (r : Int) (gr : rng r) (gz : r = 0 ∨ r = 1), decode cX16_flush pc = .ok (.ireturn, 1) → Hd D cA A s σ H locs → CB n0 s0 σ → Q σ r → RG σ → Shp ra jx rm σ → W p l e R s m args below meth c H locs (gc σ - n0) (gs σ - s0) QM (F0 m pc ls [.int (i32 r)])) (hX : ∀ (σ : Sg) (E : String) (pc : Nat) (lo : List (Nat × Value)) (st : List Value), X σ E → RG σ → Shp ra jx rm σ → JX p l e R s m args below meth c 4 D cA A n0 s0 QM σ E pc lo st) {K0 : Sg → Int → Prop} (hK0 : ∀ (σ : Sg) (v1 : Int) (g1 : rng v1), K0 σ v1 → RG σ → Shp ra jx rm σ → JJ p l e R s m args below meth c 4 D cA A n0 s0 QM σ 0 [(0, .ref rm), (1, .int (i32 v1))] []) : ∀ (σ : Sg) (v1 : Int) (v2 : Int) (u0 : Int64) (u1 : Int) (g1 : rng v1) (g2 : rng v2) (gu1 : rng u1), w_X16_flush_92 ra jx rm K0 Q X σ v1 v2 u0 u1 → RG σ → Shp ra jx rm σ → JJ p l e R s m args below meth c 4 D cA A n0 s0 QM σ 92 [(0, .ref rm), (1, .int (i32 v1)), (2, .int (i32 v2))] [.long u0, .int (i32 u1), .ref (ra 58)] := by
  intro σ v1 v2 u0 u1 g1 g2 gu1 h hGσ hS H locs ls hH hl hc
  unfold w_X16_flush_92 at h
  refine lv_lconst (v := 1) B.1 B.2.1 dX16_flush_92 (by decide) ?_
  refine lv_goto (tgt := 97) B.1 B.2.1 dX16_flush_93 (by decide) ?_
  exact a_X16_flush_97 B hT hR hFr hLw hQ hX hK0 _ _ _ _ _ _ g1 g2 gu1 h hGσ hS _ _ _ hH (lv_sub (l' := [(0, .ref rm), (1, .int (i32 v1)), (2, .int (i32 v2))]) hl [0, 1, 2] rfl) hc
set_option maxRecDepth 20000 in
theorem a_X16_flush_39 {p : Program} {l : Launch} {e : Env} {R : Room} {s : State} {m : MethodId} {args : Array Value} {below : List Frame} {meth : Method} {c : Code} {D : va_G} {cA : Nat → ClassId} {tys : List (ClassId × FieldType)} {A : Nat → Prop} {n0 s0 : Nat} {QM : State → Prop} {ra : Nat → Nat} {jx : Nat → Nat → Nat} {rm : Nat} {Q : Sg → Int → Prop} {X : Sg → String → Prop} (B : Cx p s m args c cX16_flush 4 RX16 D cA tys A) (hT : Tys cA tys) (hR : Rm R n0 s0) (hFr : 0 ≤ R.frames) (hLw : 0 ≤ R.locals) (hQ : ∀ (pc : Nat) (ls : Array Slot) (σ : Sg) (H : Heap) (locs : List Loc) (r : Int) (gr : rng r) (gz : r = 0 ∨ r = 1), decode cX16_flush pc = .ok (.ireturn, 1) → Hd D cA A s σ H locs → CB n0 s0 σ → Q σ r → RG σ → Shp ra jx rm σ → W p l e R s m args below meth c H locs (gc σ - n0) (gs σ - s0) QM (F0 m pc ls [.int (i32 r)])) (hX : ∀ (σ : Sg) (E : String) (pc : Nat) (lo : List (Nat × Value)) (st : List Value), X σ E → RG σ → Shp ra jx rm σ → JX p l e R s m args below meth c 4 D cA A n0 s0 QM σ E pc lo st) {K0 : Sg → Int → Prop} (hK0 : ∀ (σ : Sg) (v1 : Int) (g1 : rng v1), K0 σ v1 → RG σ → Shp ra jx rm σ → JJ p l e R s m args below meth c 4 D cA A n0 s0 QM σ 0 [(0, .ref rm), (1, .int (i32 v1))] []) : ∀ (σ : Sg) (v1 : Int) (v2 : Int) (v3 : Int) (g1 : rng v1) (g2 : rng v2) (g3 : rng v3), w_X16_flush_39 ra jx rm K0 Q X σ v1 v2 v3 → RG σ → Shp ra jx rm σ → JJ p l e R s m args below meth c 4 D cA A n0 s0 QM σ 39 [(0, .ref rm), (1, .int (i32 v1)), (2, .int (i32 v2)), (3, .int (i32 v3))] [] := by
  intro σ v1 v2 v3 g1 g2 g3 h hGσ hS H locs ls hH hl hc
  unfold w_X16_flush_39 at h
  refine lv_aload_n B.1 B.2.1 dX16_flush_39 rfl (lv_at hl 0 rfl) ?_
  refine r_arr B hH hS 59 (kd := 100) (n := 8800) (by decide) (by decide) wf_X16_492 rfl (by decide) dX16_flush_40 ?_
  refine lv_bipush (v := i32 8) B.1 B.2.1 dX16_flush_43 (by decide) ?_
  refine lv_iload_n B.1 B.2.1 dX16_flush_45 rfl (lv_at hl 3 rfl) ?_
  obtain ⟨q1, h⟩ := h
  refine lv_imul B.1 B.2.1 dX16_flush_46 ?_
  rw [i32_mul]
  refine lv_aload_n B.1 B.2.1 dX16_flush_47 rfl (lv_at hl 0 rfl) ?_
  refine r_arr B hH hS 55 (kd := 100) (n := 1100) (by decide) (by decide) wf_X16_450 rfl (by decide) dX16_flush_48 ?_
  refine lv_iload_n B.1 B.2.1 dX16_flush_51 rfl (lv_at hl 3 rfl) ?_
  obtain ⟨q2, h⟩ := h
  refine r_iald B hT hH hS 55 (n := 1100) (by decide) (by decide) q2 dX16_flush_52 ?_
  refine lv_aload_n B.1 B.2.1 dX16_flush_53 rfl (lv_at hl 0 rfl) ?_
  refine r_arr B hH hS 54 (kd := 100) (n := 1100) (by decide) (by decide) wf_X16_447 rfl (by decide) dX16_flush_54 ?_
  refine lv_iload_n B.1 B.2.1 dX16_flush_57 rfl (lv_at hl 3 rfl) ?_
  obtain ⟨q3, h⟩ := h
  refine r_iald B hT hH hS 54 (n := 1100) (by decide) (by decide) q3 dX16_flush_58 ?_
  obtain ⟨q4, h⟩ := h
  refine lv_iadd B.1 B.2.1 dX16_flush_59 ?_
  rw [i32_add]
  refine lv_bipush (v := i32 8) B.1 B.2.1 dX16_flush_60 (by decide) ?_
  refine lv_irem B.1 B.2.1 dX16_flush_62 (i32_ne0 (by unfold rng; omega) (by decide)) ?_
  refine W.eq (g2 := F0 m 63 ls [.int (i32 ((i32 ((gI σ (ra 55) v3.toNat) + (gI σ (ra 54) v3.toNat)) - (i32 ((gI σ (ra 55) v3.toNat) + (gI σ (ra 54) v3.toNat)) / i32 8) * i32 8).toInt)), .int (i32 (8 * v3)), .ref (ra 59)]) (by rw [i32_self]) ?_
  obtain ⟨q5, h⟩ := h
  refine lv_iadd B.1 B.2.1 dX16_flush_63 ?_
  rw [i32_add]
  refine lv_iload_n B.1 B.2.1 dX16_flush_64 rfl (lv_at hl 2 rfl) ?_
  obtain ⟨q6, h⟩ := h
  obtain ⟨σ20, eσ20⟩ : ∃ z, z = pI σ (ra 59) ((8 * v3) + (i32 ((gI σ (ra 55) v3.toNat) + (gI σ (ra 54) v3.toNat)) - (i32 ((gI σ (ra 55) v3.toNat) + (gI σ (ra 54) v3.toNat)) / i32 8) * i32 8).toInt).toNat v2 := ⟨_, rfl⟩
  have h := h σ20 eσ20
  refine r_iast B hT hH hS 59 (n := 8800) (by decide) (by decide) q6 dX16_flush_65 (fun H locs hH => ?_)
  have hH : Hd D cA A s (pI σ (ra 59) ((8 * v3) + (i32 ((gI σ (ra 55) v3.toNat) + (gI σ (ra 54) v3.toNat)) - (i32 ((gI σ (ra 55) v3.toNat) + (gI σ (ra 54) v3.toNat)) / i32 8) * i32 8).toInt).toNat v2) H locs := hH
  rw [← eσ20] at hH
  have hGσ20 : RG σ20 := by rw [eσ20]; exact hGσ.pI g2
  have hS : Shp ra jx rm σ20 := by rw [eσ20]; exact hS
  have hc : CB n0 s0 σ20 := by rw [eσ20]; exact hc
  rw [show gc σ = gc σ20 by rw [eσ20], show gs σ = gs σ20 by rw [eσ20]]
  refine lv_aload_n B.1 B.2.1 dX16_flush_66 rfl (lv_at hl 0 rfl) ?_
  refine r_arr B hH hS 54 (kd := 100) (n := 1100) (by decide) (by decide) wf_X16_447 rfl (by decide) dX16_flush_67 ?_
  refine lv_iload_n B.1 B.2.1 dX16_flush_70 rfl (lv_at hl 3 rfl) ?_
  refine lv_dup2_11 B.1 B.2.1 dX16_flush_71 rfl rfl ?_
  obtain ⟨q7, h⟩ := h
  refine r_iald B hT hH hS 54 (n := 1100) (by decide) (by decide) q7 dX16_flush_72 ?_
  refine lv_iconst (v := i32 1) B.1 B.2.1 dX16_flush_73 (by decide) ?_
  obtain ⟨q8, h⟩ := h
  refine lv_iadd B.1 B.2.1 dX16_flush_74 ?_
  rw [i32_add]
  obtain ⟨q9, h⟩ := h
  obtain ⟨σ21, eσ21⟩ : ∃ z, z = pI σ20 (ra 54) v3.toNat ((gI σ20 (ra 54) v3.toNat) + 1) := ⟨_, rfl⟩
  have h := h σ21 eσ21
  refine r_iast B hT hH hS 54 (n := 1100) (by decide) (by decide) q9 dX16_flush_75 (fun H locs hH => ?_)
  have hH : Hd D cA A s (pI σ20 (ra 54) v3.toNat ((gI σ20 (ra 54) v3.toNat) + 1)) H locs := hH
  rw [← eσ21] at hH
  have hGσ21 : RG σ21 := by rw [eσ21]; exact hGσ20.pI q8
  have hS : Shp ra jx rm σ21 := by rw [eσ21]; exact hS
  have hc : CB n0 s0 σ21 := by rw [eσ21]; exact hc
  rw [show gc σ20 = gc σ21 by rw [eσ21], show gs σ20 = gs σ21 by rw [eσ21]]
  refine lv_aload_n B.1 B.2.1 dX16_flush_76 rfl (lv_at hl 0 rfl) ?_
  refine r_arr B hH hS 58 (kd := 101) (n := 1100) (by decide) (by decide) wf_X16_459 rfl (by decide) dX16_flush_77 ?_
  refine lv_iload_n B.1 B.2.1 dX16_flush_80 rfl (lv_at hl 3 rfl) ?_
  refine lv_dup2_11 B.1 B.2.1 dX16_flush_81 rfl rfl ?_
  obtain ⟨q10, h⟩ := h
  refine r_lald B hT hH hS 58 (n := 1100) (by decide) (by decide) q10 dX16_flush_82 ?_
  refine lv_aload_n B.1 B.2.1 dX16_flush_83 rfl (lv_at hl 0 rfl) ?_
  refine r_arr B hH hS 60 (kd := 100) (n := 12802) (by decide) (by decide) wf_X16_467 rfl (by decide) dX16_flush_84 ?_
  refine lv_iload_n B.1 B.2.1 dX16_flush_87 rfl (lv_at hl 2 rfl) ?_
  obtain ⟨q11, h⟩ := h
  refine r_iald B hT hH hS 60 (n := 12802) (by decide) (by decide) q11 dX16_flush_88 ?_
  refine lv_if_ne (tgt := 96) B.1 B.2.1 dX16_flush_89 (by decide) (fun h9 => ?_) (fun h9 => ?_)
  · rw [if_pos (fun q => h9 ((z_eq (hGσ21 _ _)).mpr q))] at h
    exact a_X16_flush_96 B hT hR hFr hLw hQ hX hK0 _ _ _ _ _ g1 g2 g3 h hGσ21 hS _ _ _ hH (lv_sub (l' := [(0, .ref rm), (1, .int (i32 v1)), (2, .int (i32 v2))]) hl [0, 1, 2] rfl) hc
  · rw [if_neg (fun q => q ((z_eq (hGσ21 _ _)).mp h9))] at h
    exact a_X16_flush_92 B hT hR hFr hLw hQ hX hK0 _ _ _ _ _ g1 g2 g3 h hGσ21 hS _ _ _ hH (lv_sub (l' := [(0, .ref rm), (1, .int (i32 v1)), (2, .int (i32 v2))]) hl [0, 1, 2] rfl) hc
set_option maxRecDepth 20000 in
theorem a_X16_flush_37 {p : Program} {l : Launch} {e : Env} {R : Room} {s : State} {m : MethodId} {args : Array Value} {below : List Frame} {meth : Method} {c : Code} {D : va_G} {cA : Nat → ClassId} {tys : List (ClassId × FieldType)} {A : Nat → Prop} {n0 s0 : Nat} {QM : State → Prop} {ra : Nat → Nat} {jx : Nat → Nat → Nat} {rm : Nat} {Q : Sg → Int → Prop} {X : Sg → String → Prop} (B : Cx p s m args c cX16_flush 4 RX16 D cA tys A) (hT : Tys cA tys) (hR : Rm R n0 s0) (hFr : 0 ≤ R.frames) (hLw : 0 ≤ R.locals) (hQ : ∀ (pc : Nat) (ls : Array Slot) (σ : Sg) (H : Heap) (locs : List Loc) (r : Int) (gr : rng r) (gz : r = 0 ∨ r = 1), decode cX16_flush pc = .ok (.ireturn, 1) → Hd D cA A s σ H locs → CB n0 s0 σ → Q σ r → RG σ → Shp ra jx rm σ → W p l e R s m args below meth c H locs (gc σ - n0) (gs σ - s0) QM (F0 m pc ls [.int (i32 r)])) (hX : ∀ (σ : Sg) (E : String) (pc : Nat) (lo : List (Nat × Value)) (st : List Value), X σ E → RG σ → Shp ra jx rm σ → JX p l e R s m args below meth c 4 D cA A n0 s0 QM σ E pc lo st) : ∀ (σ : Sg), w_X16_flush_37 ra jx rm Q X σ → RG σ → Shp ra jx rm σ → JJ p l e R s m args below meth c 4 D cA A n0 s0 QM σ 37 [(0, .ref rm)] [] := by
  intro σ h hGσ hS H locs ls hH hl hc
  unfold w_X16_flush_37 at h
  refine lv_iconst (v := i32 1) B.1 B.2.1 dX16_flush_37 (by decide) ?_
  exact hQ _ _ _ _ _ _ (by unfold rng; omega) (Or.inr rfl) dX16_flush_38 hH hc h hGσ hS
set_option maxRecDepth 20000 in
theorem a_X16_flush_10 {p : Program} {l : Launch} {e : Env} {R : Room} {s : State} {m : MethodId} {args : Array Value} {below : List Frame} {meth : Method} {c : Code} {D : va_G} {cA : Nat → ClassId} {tys : List (ClassId × FieldType)} {A : Nat → Prop} {n0 s0 : Nat} {QM : State → Prop} {ra : Nat → Nat} {jx : Nat → Nat → Nat} {rm : Nat} {Q : Sg → Int → Prop} {X : Sg → String → Prop} (B : Cx p s m args c cX16_flush 4 RX16 D cA tys A) (hT : Tys cA tys) (hR : Rm R n0 s0) (hFr : 0 ≤ R.frames) (hLw : 0 ≤ R.locals) (hQ : ∀ (pc : Nat) (ls : Array Slot) (σ : Sg) (H : Heap) (locs : List Loc) (r : Int) (gr : rng r) (gz : r = 0 ∨ r = 1), decode cX16_flush pc = .ok (.ireturn, 1) → Hd D cA A s σ H locs → CB n0 s0 σ → Q σ r → RG σ → Shp ra jx rm σ → W p l e R s m args below meth c H locs (gc σ - n0) (gs σ - s0) QM (F0 m pc ls [.int (i32 r)])) (hX : ∀ (σ : Sg) (E : String) (pc : Nat) (lo : List (Nat × Value)) (st : List Value), X σ E → RG σ → Shp ra jx rm σ → JX p l e R s m args below meth c 4 D cA A n0 s0 QM σ E pc lo st) {K0 : Sg → Int → Prop} (hK0 : ∀ (σ : Sg) (v1 : Int) (g1 : rng v1), K0 σ v1 → RG σ → Shp ra jx rm σ → JJ p l e R s m args below meth c 4 D cA A n0 s0 QM σ 0 [(0, .ref rm), (1, .int (i32 v1))] []) : ∀ (σ : Sg) (v1 : Int) (g1 : rng v1), w_X16_flush_10 ra jx rm K0 Q X σ v1 → RG σ → Shp ra jx rm σ → JJ p l e R s m args below meth c 4 D cA A n0 s0 QM σ 10 [(0, .ref rm), (1, .int (i32 v1))] [] := by
  intro σ v1 g1 h hGσ hS H locs ls hH hl hc
  unfold w_X16_flush_10 at h
  refine lv_aload_n B.1 B.2.1 dX16_flush_10 rfl (lv_at hl 0 rfl) ?_
  refine r_arr B hH hS 46 (kd := 100) (n := 64) (by decide) (by decide) wf_X16_435 rfl (by decide) dX16_flush_11 ?_
  refine lv_iload_n B.1 B.2.1 dX16_flush_14 rfl (lv_at hl 1 rfl) ?_
  obtain ⟨q1, h⟩ := h
  refine r_iald B hT hH hS 46 (n := 64) (by decide) (by decide) q1 dX16_flush_15 ?_
  refine lv_istore_n (lv' := [(2, .int (i32 (gI σ (ra 46) v1.toNat))), (0, .ref rm), (1, .int (i32 v1))]) B.1 B.2.1 dX16_flush_16 rfl hl (by decide) rfl (fun ls hl => ?_)
  refine lv_aload_n B.1 B.2.1 dX16_flush_17 rfl (lv_at hl 1 rfl) ?_
  refine r_arr B hH hS 64 (kd := 100) (n := 12802) (by decide) (by decide) wf_X16_479 rfl (by decide) dX16_flush_18 ?_
  refine lv_iload_n B.1 B.2.1 dX16_flush_21 rfl (lv_at hl 0 rfl) ?_
  obtain ⟨q2, h⟩ := h
  refine r_iald B hT hH hS 64 (n := 12802) (by decide) (by decide) q2 dX16_flush_22 ?_
  refine lv_istore_n (lv' := [(3, .int (i32 (gI σ (ra 64) (gI σ (ra 46) v1.toNat).toNat))), (2, .int (i32 (gI σ (ra 46) v1.toNat))), (0, .ref rm), (1, .int (i32 v1))]) B.1 B.2.1 dX16_flush_23 rfl hl (by decide) rfl (fun ls hl => ?_)
  refine lv_aload_n B.1 B.2.1 dX16_flush_24 rfl (lv_at hl 2 rfl) ?_
  refine r_arr B hH hS 54 (kd := 100) (n := 1100) (by decide) (by decide) wf_X16_447 rfl (by decide) dX16_flush_25 ?_
  refine lv_iload_n B.1 B.2.1 dX16_flush_28 rfl (lv_at hl 0 rfl) ?_
  obtain ⟨q3, h⟩ := h
  refine r_iald B hT hH hS 54 (n := 1100) (by decide) (by decide) q3 dX16_flush_29 ?_
  refine lv_aload_n B.1 B.2.1 dX16_flush_30 rfl (lv_at hl 2 rfl) ?_
  refine r_geti B hH hS 34 (by decide) wf_X16_489 rfl (by decide) dX16_flush_31 ?_
  refine lv_icmp_ne (tgt := 39) B.1 B.2.1 dX16_flush_34 (by decide) (fun h9 => ?_) (fun h9 => ?_)
  · rw [if_pos (fun q => h9 ((i32_eq (hGσ _ _) (hGσ _ _)).mpr q))] at h
    exact a_X16_flush_39 B hT hR hFr hLw hQ hX hK0 _ _ _ _ g1 (hGσ _ _) (hGσ _ _) h hGσ hS _ _ _ hH (lv_sub (l' := [(0, .ref rm), (1, .int (i32 v1)), (2, .int (i32 (gI σ (ra 46) v1.toNat))), (3, .int (i32 (gI σ (ra 64) (gI σ (ra 46) v1.toNat).toNat)))]) hl [2, 3, 1, 0] rfl) hc
  · rw [if_neg (fun q => q ((i32_eq (hGσ _ _) (hGσ _ _)).mp h9))] at h
    exact a_X16_flush_37 B hT hR hFr hLw hQ hX _ h hGσ hS _ _ _ hH (lv_sub (l' := [(0, .ref rm)]) hl [2] rfl) hc
set_option maxRecDepth 20000 in
theorem a_X16_flush_0 {p : Program} {l : Launch} {e : Env} {R : Room} {s : State} {m : MethodId} {args : Array Value} {below : List Frame} {meth : Method} {c : Code} {D : va_G} {cA : Nat → ClassId} {tys : List (ClassId × FieldType)} {A : Nat → Prop} {n0 s0 : Nat} {QM : State → Prop} {ra : Nat → Nat} {jx : Nat → Nat → Nat} {rm : Nat} {Q : Sg → Int → Prop} {X : Sg → String → Prop} (B : Cx p s m args c cX16_flush 4 RX16 D cA tys A) (hT : Tys cA tys) (hR : Rm R n0 s0) (hFr : 0 ≤ R.frames) (hLw : 0 ≤ R.locals) (hQ : ∀ (pc : Nat) (ls : Array Slot) (σ : Sg) (H : Heap) (locs : List Loc) (r : Int) (gr : rng r) (gz : r = 0 ∨ r = 1), decode cX16_flush pc = .ok (.ireturn, 1) → Hd D cA A s σ H locs → CB n0 s0 σ → Q σ r → RG σ → Shp ra jx rm σ → W p l e R s m args below meth c H locs (gc σ - n0) (gs σ - s0) QM (F0 m pc ls [.int (i32 r)])) (hX : ∀ (σ : Sg) (E : String) (pc : Nat) (lo : List (Nat × Value)) (st : List Value), X σ E → RG σ → Shp ra jx rm σ → JX p l e R s m args below meth c 4 D cA A n0 s0 QM σ E pc lo st) {K0 : Sg → Int → Prop} (hK0 : ∀ (σ : Sg) (v1 : Int) (g1 : rng v1), K0 σ v1 → RG σ → Shp ra jx rm σ → JJ p l e R s m args below meth c 4 D cA A n0 s0 QM σ 0 [(0, .ref rm), (1, .int (i32 v1))] []) : ∀ (σ : Sg) (v1 : Int) (g1 : rng v1), w_X16_flush_0 ra jx rm K0 Q X σ v1 → RG σ → Shp ra jx rm σ → JJ p l e R s m args below meth c 4 D cA A n0 s0 QM σ 0 [(0, .ref rm), (1, .int (i32 v1))] [] := by
  intro σ v1 g1 h hGσ hS H locs ls hH hl hc
  unfold w_X16_flush_0 at h
  refine lv_aload_n B.1 B.2.1 dX16_flush_0 rfl (lv_at hl 0 rfl) ?_
  refine r_arr B hH hS 46 (kd := 100) (n := 64) (by decide) (by decide) wf_X16_435 rfl (by decide) dX16_flush_1 ?_
  refine lv_iload_n B.1 B.2.1 dX16_flush_4 rfl (lv_at hl 1 rfl) ?_
  obtain ⟨q1, h⟩ := h
  refine r_iald B hT hH hS 46 (n := 64) (by decide) (by decide) q1 dX16_flush_5 ?_
  refine lv_iconst (v := i32 (-1)) B.1 B.2.1 dX16_flush_6 (by decide) ?_
  refine lv_icmp_eq (tgt := 160) B.1 B.2.1 dX16_flush_7 (by decide) (fun h9 => ?_) (fun h9 => ?_)
  · rw [if_pos ((i32_eq (hGσ _ _) (by unfold rng; omega)).mp h9)] at h
    exact a_X16_flush_160 B hT hR hFr hLw hQ hX _ h hGσ hS _ _ _ hH (lv_sub (l' := [(0, .ref rm)]) hl [0] rfl) hc
  · rw [if_neg (fun q => h9 ((i32_eq (hGσ _ _) (by unfold rng; omega)).mpr q))] at h
    exact a_X16_flush_10 B hT hR hFr hLw hQ hX hK0 _ _ g1 h hGσ hS _ _ _ hH (lv_sub (l' := [(0, .ref rm), (1, .int (i32 v1))]) hl [0, 1] rfl) hc
theorem al_X16_flush_0 {p : Program} {l : Launch} {e : Env} {R : Room} {s : State} {m : MethodId} {args : Array Value} {below : List Frame} {meth : Method} {c : Code} {D : va_G} {cA : Nat → ClassId} {tys : List (ClassId × FieldType)} {A : Nat → Prop} {n0 s0 : Nat} {QM : State → Prop} {ra : Nat → Nat} {jx : Nat → Nat → Nat} {rm : Nat} {Q : Sg → Int → Prop} {X : Sg → String → Prop} (B : Cx p s m args c cX16_flush 4 RX16 D cA tys A) (hT : Tys cA tys) (hR : Rm R n0 s0) (hFr : 0 ≤ R.frames) (hLw : 0 ≤ R.locals) (hQ : ∀ (pc : Nat) (ls : Array Slot) (σ : Sg) (H : Heap) (locs : List Loc) (r : Int) (gr : rng r) (gz : r = 0 ∨ r = 1), decode cX16_flush pc = .ok (.ireturn, 1) → Hd D cA A s σ H locs → CB n0 s0 σ → Q σ r → RG σ → Shp ra jx rm σ → W p l e R s m args below meth c H locs (gc σ - n0) (gs σ - s0) QM (F0 m pc ls [.int (i32 r)])) (hX : ∀ (σ : Sg) (E : String) (pc : Nat) (lo : List (Nat × Value)) (st : List Value), X σ E → RG σ → Shp ra jx rm σ → JX p l e R s m args below meth c 4 D cA A n0 s0 QM σ E pc lo st) : ∀ (n : Nat), ∀ (σ : Sg) (v1 : Int) (g1 : rng v1), wl_X16_flush_0 ra jx rm Q X n σ v1 → RG σ → Shp ra jx rm σ → JJ p l e R s m args below meth c 4 D cA A n0 s0 QM σ 0 [(0, .ref rm), (1, .int (i32 v1))] [] := by
  intro n
  induction n with
  | zero => intro σ v1 g1 h; exact h.elim
  | succ n ih => exact fun σ v1 g1 h => a_X16_flush_0 B hT hR hFr hLw hQ hX ih σ v1 g1 h
theorem ok_X16_flush {l : Launch} {D : va_G} {cA : Nat → ClassId} {tys : List (ClassId × FieldType)} {A : Nat → Prop} {ra : Nat → Nat} {jx : Nat → Nat → Nat} {rm : Nat} (hT : Tys cA tys) {Q : Sg → Int → Prop} {X : Sg → String → Prop} (σ : Sg) (v1 : Int) (g1 : rng v1) (hG : RG σ) (hS : Shp ra jx rm σ) (h : wp_X16_flush ra jx rm v1 σ Q X) : Ok l D cA tys A yX16_flush (.code yX16_flush cX16_flush 4 (some .boolean)) 0 0 [.ref rm, .int (i32 v1)] σ (fun σ' w => ∃ r, w = some (.int (i32 r)) ∧ (rng r ∧ (r = 0 ∨ r = 1)) ∧ Q σ' r ∧ RG σ' ∧ Shp ra jx rm σ') (fun σ' E => X σ' E ∧ RG σ' ∧ Shp ra jx rm σ') := by
  refine ok_of (ret := (some .boolean)) (by decide) (Nat.le_of_ble_eq_true rfl) ?_
  intro p e R s m args below meth c hRR B hr hlocks hex _
  have B : Cx p s m args c cX16_flush 4 RX16 D cA tys A := B
  have hR : Rm R (gc σ) (gs σ) := by rw [hRR]; exact ⟨rfl, rfl⟩
  unfold wp_X16_flush at h
  obtain ⟨n9, h⟩ := h
  intro H locs ls hH hl hc
  have hX : ∀ (σ9 : Sg) (E : String) (pc : Nat) (lo : List (Nat × Value)) (st : List Value), X σ9 E → RG σ9 → Shp ra jx rm σ9 → JX p l e R s m args below meth c 4 D cA A (gc σ) (gs σ) (vx_MQ below (Qw D cA A σ (fun σ' w => ∃ r, w = some (.int (i32 r)) ∧ (rng r ∧ (r = 0 ∨ r = 1)) ∧ Q σ' r ∧ RG σ' ∧ Shp ra jx rm σ')) (Xw D cA A σ (fun σ' E => X σ' E ∧ RG σ' ∧ Shp ra jx rm σ')) args s (BC - gc σ) (BS - gs σ) A) σ9 E pc lo st := fun σ9 E pc lo st hx hG9 hS9 H locs ls ce q hH hl hc hce hcv hcl => e_out hH hc (fun x hx9 => (hex x hx9).elim) hlocks hce hcv hcl ⟨hx, hG9, hS9⟩
  exact al_X16_flush_0 B hT hR (by rw [hRR]; exact Nat.le_refl _) (by rw [hRR]; exact Nat.le_refl _) (fun pc ls σ9 H locs r gr gz hd hH hc hq hG9 hS9 => e_iret B hH hc hr (by rcases gz with e9 | e9 <;> rw [e9] <;> rfl) hlocks ⟨r, rfl, ⟨gr, gz⟩, hq, hG9, hS9⟩ hd) hX n9 σ v1 g1 h hG hS H locs ls hH (lv_sub (l' := [(0, .ref rm), (1, .int (i32 v1))]) hl [0, 1] rfl) hc
theorem dX16_free_0 : decode cX16_free 0 = .ok (.aload_n 0, 1) := by decide +kernel
theorem dX16_free_1 : decode cX16_free 1 = .ok (.getfield 405, 3) := by decide +kernel
theorem dX16_free_4 : decode cX16_free 4 = .ok (.iload_n 1, 1) := by decide +kernel
theorem dX16_free_5 : decode cX16_free 5 = .ok (.aload_n 0, 1) := by decide +kernel
theorem dX16_free_6 : decode cX16_free 6 = .ok (.getfield 408, 3) := by decide +kernel
theorem dX16_free_9 : decode cX16_free 9 = .ok (.iastore, 1) := by decide +kernel
theorem dX16_free_10 : decode cX16_free 10 = .ok (.aload_n 0, 1) := by decide +kernel
theorem dX16_free_11 : decode cX16_free 11 = .ok (.iload_n 1, 1) := by decide +kernel
theorem dX16_free_12 : decode cX16_free 12 = .ok (.putfield 408, 3) := by decide +kernel
theorem dX16_free_15 : decode cX16_free 15 = .ok (.return_, 1) := by decide +kernel
set_option maxRecDepth 20000 in
theorem a_X16_free_0 {p : Program} {l : Launch} {e : Env} {R : Room} {s : State} {m : MethodId} {args : Array Value} {below : List Frame} {meth : Method} {c : Code} {D : va_G} {cA : Nat → ClassId} {tys : List (ClassId × FieldType)} {A : Nat → Prop} {n0 s0 : Nat} {QM : State → Prop} {ra : Nat → Nat} {jx : Nat → Nat → Nat} {rm : Nat} {Q : Sg → Unit → Prop} {X : Sg → String → Prop} (B : Cx p s m args c cX16_free 2 RX16 D cA tys A) (hT : Tys cA tys) (hR : Rm R n0 s0) (hFr : 0 ≤ R.frames) (hLw : 0 ≤ R.locals) (hQ : ∀ (pc : Nat) (ls : Array Slot) (σ : Sg) (H : Heap) (locs : List Loc), decode cX16_free pc = .ok (.return_, 1) → Hd D cA A s σ H locs → CB n0 s0 σ → Q σ () → RG σ → Shp ra jx rm σ → W p l e R s m args below meth c H locs (gc σ - n0) (gs σ - s0) QM (F0 m pc ls [])) (hX : ∀ (σ : Sg) (E : String) (pc : Nat) (lo : List (Nat × Value)) (st : List Value), X σ E → RG σ → Shp ra jx rm σ → JX p l e R s m args below meth c 2 D cA A n0 s0 QM σ E pc lo st) : ∀ (σ : Sg) (v1 : Int) (g1 : rng v1), w_X16_free_0 ra jx rm Q X σ v1 → RG σ → Shp ra jx rm σ → JJ p l e R s m args below meth c 2 D cA A n0 s0 QM σ 0 [(0, .ref rm), (1, .int (i32 v1))] [] := by
  intro σ v1 g1 h hGσ hS H locs ls hH hl hc
  unfold w_X16_free_0 at h
  refine lv_aload_n B.1 B.2.1 dX16_free_0 rfl (lv_at hl 0 rfl) ?_
  refine r_arr B hH hS 65 (kd := 100) (n := 12802) (by decide) (by decide) wf_X16_405 rfl (by decide) dX16_free_1 ?_
  refine lv_iload_n B.1 B.2.1 dX16_free_4 rfl (lv_at hl 1 rfl) ?_
  refine lv_aload_n B.1 B.2.1 dX16_free_5 rfl (lv_at hl 0 rfl) ?_
  refine r_geti B hH hS 66 (by decide) wf_X16_408 rfl (by decide) dX16_free_6 ?_
  obtain ⟨q1, h⟩ := h
  obtain ⟨σ5, eσ5⟩ : ∃ z, z = pI σ (ra 65) v1.toNat (gI σ rm 66) := ⟨_, rfl⟩
  have h := h σ5 eσ5
  refine r_iast B hT hH hS 65 (n := 12802) (by decide) (by decide) q1 dX16_free_9 (fun H locs hH => ?_)
  have hH : Hd D cA A s (pI σ (ra 65) v1.toNat (gI σ rm 66)) H locs := hH
  rw [← eσ5] at hH
  have hGσ5 : RG σ5 := by rw [eσ5]; exact hGσ.pI (hGσ _ _)
  have hS : Shp ra jx rm σ5 := by rw [eσ5]; exact hS
  have hc : CB n0 s0 σ5 := by rw [eσ5]; exact hc
  rw [show gc σ = gc σ5 by rw [eσ5], show gs σ = gs σ5 by rw [eσ5]]
  refine lv_aload_n B.1 B.2.1 dX16_free_10 rfl (lv_at hl 0 rfl) ?_
  refine lv_iload_n B.1 B.2.1 dX16_free_11 rfl (lv_at hl 1 rfl) ?_
  obtain ⟨σ6, eσ6⟩ : ∃ z, z = pI σ5 rm 66 v1 := ⟨_, rfl⟩
  have h := h σ6 eσ6
  refine r_puti B hH hS 66 (ty := .int) (by decide) wf_X16_408 rfl rfl (by decide) rfl rfl rfl dX16_free_12 (fun H locs hH => ?_)
  have hH : Hd D cA A s (pI σ5 rm 66 v1) H locs := hH
  rw [← eσ6] at hH
  have hGσ6 : RG σ6 := by rw [eσ6]; exact hGσ5.pI g1
  have hS : Shp ra jx rm σ6 := by rw [eσ6]; exact hS
  have hc : CB n0 s0 σ6 := by rw [eσ6]; exact hc
  rw [show gc σ5 = gc σ6 by rw [eσ6], show gs σ5 = gs σ6 by rw [eσ6]]
  exact hQ _ _ _ _ _ dX16_free_15 hH hc h hGσ6 hS
theorem ok_X16_free {l : Launch} {D : va_G} {cA : Nat → ClassId} {tys : List (ClassId × FieldType)} {A : Nat → Prop} {ra : Nat → Nat} {jx : Nat → Nat → Nat} {rm : Nat} (hT : Tys cA tys) {Q : Sg → Unit → Prop} {X : Sg → String → Prop} (σ : Sg) (v1 : Int) (g1 : rng v1) (hG : RG σ) (hS : Shp ra jx rm σ) (h : wp_X16_free ra jx rm v1 σ Q X) : Ok l D cA tys A yX16_free (.code yX16_free cX16_free 2 none) 0 0 [.ref rm, .int (i32 v1)] σ (fun σ' w => w = none ∧ Q σ' () ∧ RG σ' ∧ Shp ra jx rm σ') (fun σ' E => X σ' E ∧ RG σ' ∧ Shp ra jx rm σ') := by
  refine ok_of (ret := none) (by decide) (Nat.le_of_ble_eq_true rfl) ?_
  intro p e R s m args below meth c hRR B hr hlocks hex _
  have B : Cx p s m args c cX16_free 2 RX16 D cA tys A := B
  have hR : Rm R (gc σ) (gs σ) := by rw [hRR]; exact ⟨rfl, rfl⟩
  unfold wp_X16_free at h
  intro H locs ls hH hl hc
  have hX : ∀ (σ9 : Sg) (E : String) (pc : Nat) (lo : List (Nat × Value)) (st : List Value), X σ9 E → RG σ9 → Shp ra jx rm σ9 → JX p l e R s m args below meth c 2 D cA A (gc σ) (gs σ) (vx_MQ below (Qw D cA A σ (fun σ' w => w = none ∧ Q σ' () ∧ RG σ' ∧ Shp ra jx rm σ')) (Xw D cA A σ (fun σ' E => X σ' E ∧ RG σ' ∧ Shp ra jx rm σ')) args s (BC - gc σ) (BS - gs σ) A) σ9 E pc lo st := fun σ9 E pc lo st hx hG9 hS9 H locs ls ce q hH hl hc hce hcv hcl => e_out hH hc (fun x hx9 => (hex x hx9).elim) hlocks hce hcv hcl ⟨hx, hG9, hS9⟩
  exact a_X16_free_0 B hT hR (by rw [hRR]; exact Nat.le_refl _) (by rw [hRR]; exact Nat.le_refl _) (fun pc ls σ9 H locs hd hH hc hq hG9 hS9 => e_vret B hH hc hr hlocks ⟨rfl, hq, hG9, hS9⟩ hd) hX σ v1 g1 h hG hS H locs ls hH (lv_sub (l' := [(0, .ref rm), (1, .int (i32 v1))]) hl [0, 1] rfl) hc
theorem dX16_groupOf_0 : decode cX16_groupOf 0 = .ok (.lload_n 0, 1) := by decide +kernel
theorem dX16_groupOf_1 : decode cX16_groupOf 1 = .ok (.ldc2_w 462, 3) := by decide +kernel
theorem dX16_groupOf_4 : decode cX16_groupOf 4 = .ok (.lmul, 1) := by decide +kernel
theorem dX16_groupOf_5 : decode cX16_groupOf 5 = .ok (.bipush 60, 2) := by decide +kernel
theorem dX16_groupOf_7 : decode cX16_groupOf 7 = .ok (.lushr, 1) := by decide +kernel
theorem dX16_groupOf_8 : decode cX16_groupOf 8 = .ok (.l2i, 1) := by decide +kernel
theorem dX16_groupOf_9 : decode cX16_groupOf 9 = .ok (.ireturn, 1) := by decide +kernel
set_option maxRecDepth 20000 in
theorem a_X16_groupOf_0 {p : Program} {l : Launch} {e : Env} {R : Room} {s : State} {m : MethodId} {args : Array Value} {below : List Frame} {meth : Method} {c : Code} {D : va_G} {cA : Nat → ClassId} {tys : List (ClassId × FieldType)} {A : Nat → Prop} {n0 s0 : Nat} {QM : State → Prop} {ra : Nat → Nat} {jx : Nat → Nat → Nat} {rm : Nat} {Q : Sg → Int → Prop} {X : Sg → String → Prop} (B : Cx p s m args c cX16_groupOf 2 RX16 D cA tys A) (hT : Tys cA tys) (hR : Rm R n0 s0) (hFr : 0 ≤ R.frames) (hLw : 0 ≤ R.locals) (hQ : ∀ (pc : Nat) (ls : Array Slot) (σ : Sg) (H : Heap) (locs : List Loc) (r : Int) (gr : rng r), decode cX16_groupOf pc = .ok (.ireturn, 1) → Hd D cA A s σ H locs → CB n0 s0 σ → Q σ r → RG σ → Shp ra jx rm σ → W p l e R s m args below meth c H locs (gc σ - n0) (gs σ - s0) QM (F0 m pc ls [.int (i32 r)])) (hX : ∀ (σ : Sg) (E : String) (pc : Nat) (lo : List (Nat × Value)) (st : List Value), X σ E → RG σ → Shp ra jx rm σ → JX p l e R s m args below meth c 2 D cA A n0 s0 QM σ E pc lo st) : ∀ (σ : Sg) (v0 : Int64), w_X16_groupOf_0 ra jx rm Q X σ v0 → RG σ → Shp ra jx rm σ → JJ p l e R s m args below meth c 2 D cA A n0 s0 QM σ 0 [(0, .long v0)] [] := by
  intro σ v0 h hGσ hS H locs ls hH hl hc
  unfold w_X16_groupOf_0 at h
  refine lv_lload_n B.1 B.2.1 dX16_groupOf_0 rfl (lv_at hl 0 rfl) ?_
  refine lv_ldc2 B.1 B.2.1 B.2.2.1 (B.2.2.2.1 _ (wk_X16_462)) dX16_groupOf_1 ?_
  refine lv_lmul B.1 B.2.1 dX16_groupOf_4 ?_
  refine lv_bipush (v := i32 60) B.1 B.2.1 dX16_groupOf_5 (by decide) ?_
  refine lv_lushr B.1 B.2.1 dX16_groupOf_7 rfl ?_
  refine lv_l2i B.1 B.2.1 dX16_groupOf_8 rfl ?_
  refine W.eq (g2 := F0 m 9 ls [.int (i32 (((((v0 * (-7046029254386353131))).toUInt64 >>> ((i32 60).toInt64.toUInt64 &&& Int64.toUInt64 63)).toInt64).toInt32.toInt))]) (by rw [i32_self]) ?_
  exact hQ _ _ _ _ _ _ (rng_toInt _) dX16_groupOf_9 hH hc h hGσ hS
theorem ok_X16_groupOf {l : Launch} {D : va_G} {cA : Nat → ClassId} {tys : List (ClassId × FieldType)} {A : Nat → Prop} {ra : Nat → Nat} {jx : Nat → Nat → Nat} {rm : Nat} (hT : Tys cA tys) {Q : Sg → Int → Prop} {X : Sg → String → Prop} (σ : Sg) (v0 : Int64) (hG : RG σ) (hS : Shp ra jx rm σ) (h : wp_X16_groupOf ra jx rm v0 σ Q X) : Ok l D cA tys A yX16_groupOf (.code yX16_groupOf cX16_groupOf 2 (some .int)) 0 0 [.long v0] σ (fun σ' w => ∃ r, w = some (.int (i32 r)) ∧ rng r ∧ Q σ' r ∧ RG σ' ∧ Shp ra jx rm σ') (fun σ' E => X σ' E ∧ RG σ' ∧ Shp ra jx rm σ') := by
  refine ok_of (ret := (some .int)) (by decide) (Nat.le_of_ble_eq_true rfl) ?_
  intro p e R s m args below meth c hRR B hr hlocks hex _
  have B : Cx p s m args c cX16_groupOf 2 RX16 D cA tys A := B
  have hR : Rm R (gc σ) (gs σ) := by rw [hRR]; exact ⟨rfl, rfl⟩
  unfold wp_X16_groupOf at h
  intro H locs ls hH hl hc
  have hX : ∀ (σ9 : Sg) (E : String) (pc : Nat) (lo : List (Nat × Value)) (st : List Value), X σ9 E → RG σ9 → Shp ra jx rm σ9 → JX p l e R s m args below meth c 2 D cA A (gc σ) (gs σ) (vx_MQ below (Qw D cA A σ (fun σ' w => ∃ r, w = some (.int (i32 r)) ∧ rng r ∧ Q σ' r ∧ RG σ' ∧ Shp ra jx rm σ')) (Xw D cA A σ (fun σ' E => X σ' E ∧ RG σ' ∧ Shp ra jx rm σ')) args s (BC - gc σ) (BS - gs σ) A) σ9 E pc lo st := fun σ9 E pc lo st hx hG9 hS9 H locs ls ce q hH hl hc hce hcv hcl => e_out hH hc (fun x hx9 => (hex x hx9).elim) hlocks hce hcv hcl ⟨hx, hG9, hS9⟩
  exact a_X16_groupOf_0 B hT hR (by rw [hRR]; exact Nat.le_refl _) (by rw [hRR]; exact Nat.le_refl _) (fun pc ls σ9 H locs r gr hd hH hc hq hG9 hS9 => e_iret B hH hc hr rfl hlocks ⟨r, rfl, gr, hq, hG9, hS9⟩ hd) hX σ v0 h hG hS H locs ls hH (lv_sub (l' := [(0, .long v0)]) hl [0] rfl) hc
theorem dX16_hang_0 : decode cX16_hang 0 = .ok (.aload_n 0, 1) := by decide +kernel
theorem dX16_hang_1 : decode cX16_hang 1 = .ok (.getfield 652, 3) := by decide +kernel
theorem dX16_hang_4 : decode cX16_hang 4 = .ok (.iload_n 2, 1) := by decide +kernel
theorem dX16_hang_5 : decode cX16_hang 5 = .ok (.iconst (-1), 1) := by decide +kernel
theorem dX16_hang_6 : decode cX16_hang 6 = .ok (.iastore, 1) := by decide +kernel
theorem dX16_hang_7 : decode cX16_hang 7 = .ok (.aload_n 0, 1) := by decide +kernel
theorem dX16_hang_8 : decode cX16_hang 8 = .ok (.getfield 664, 3) := by decide +kernel
theorem dX16_hang_11 : decode cX16_hang 11 = .ok (.iload_n 1, 1) := by decide +kernel
theorem dX16_hang_12 : decode cX16_hang 12 = .ok (.iaload, 1) := by decide +kernel
theorem dX16_hang_13 : decode cX16_hang 13 = .ok (.iconst (-1), 1) := by decide +kernel
theorem dX16_hang_14 : decode cX16_hang 14 = .ok (.if_icmp .ne 13, 3) := by decide +kernel
theorem dX16_hang_17 : decode cX16_hang 17 = .ok (.aload_n 0, 1) := by decide +kernel
theorem dX16_hang_18 : decode cX16_hang 18 = .ok (.getfield 661, 3) := by decide +kernel
theorem dX16_hang_21 : decode cX16_hang 21 = .ok (.iload_n 1, 1) := by decide +kernel
theorem dX16_hang_22 : decode cX16_hang 22 = .ok (.iload_n 2, 1) := by decide +kernel
theorem dX16_hang_23 : decode cX16_hang 23 = .ok (.iastore, 1) := by decide +kernel
theorem dX16_hang_24 : decode cX16_hang 24 = .ok (.goto 15, 3) := by decide +kernel
theorem dX16_hang_27 : decode cX16_hang 27 = .ok (.aload_n 0, 1) := by decide +kernel
theorem dX16_hang_28 : decode cX16_hang 28 = .ok (.getfield 652, 3) := by decide +kernel
theorem dX16_hang_31 : decode cX16_hang 31 = .ok (.aload_n 0, 1) := by decide +kernel
theorem dX16_hang_32 : decode cX16_hang 32 = .ok (.getfield 664, 3) := by decide +kernel
theorem dX16_hang_35 : decode cX16_hang 35 = .ok (.iload_n 1, 1) := by decide +kernel
theorem dX16_hang_36 : decode cX16_hang 36 = .ok (.iaload, 1) := by decide +kernel
theorem dX16_hang_37 : decode cX16_hang 37 = .ok (.iload_n 2, 1) := by decide +kernel
theorem dX16_hang_38 : decode cX16_hang 38 = .ok (.iastore, 1) := by decide +kernel
theorem dX16_hang_39 : decode cX16_hang 39 = .ok (.aload_n 0, 1) := by decide +kernel
theorem dX16_hang_40 : decode cX16_hang 40 = .ok (.getfield 664, 3) := by decide +kernel
theorem dX16_hang_43 : decode cX16_hang 43 = .ok (.iload_n 1, 1) := by decide +kernel
theorem dX16_hang_44 : decode cX16_hang 44 = .ok (.iload_n 2, 1) := by decide +kernel
theorem dX16_hang_45 : decode cX16_hang 45 = .ok (.iastore, 1) := by decide +kernel
theorem dX16_hang_46 : decode cX16_hang 46 = .ok (.aload_n 0, 1) := by decide +kernel
theorem dX16_hang_47 : decode cX16_hang 47 = .ok (.getfield 667, 3) := by decide +kernel
theorem dX16_hang_50 : decode cX16_hang 50 = .ok (.iload_n 1, 1) := by decide +kernel
theorem dX16_hang_51 : decode cX16_hang 51 = .ok (.dup2, 1) := by decide +kernel
theorem dX16_hang_52 : decode cX16_hang 52 = .ok (.iaload, 1) := by decide +kernel
theorem dX16_hang_53 : decode cX16_hang 53 = .ok (.iconst 1, 1) := by decide +kernel
theorem dX16_hang_54 : decode cX16_hang 54 = .ok (.iadd, 1) := by decide +kernel
theorem dX16_hang_55 : decode cX16_hang 55 = .ok (.iastore, 1) := by decide +kernel
theorem dX16_hang_56 : decode cX16_hang 56 = .ok (.return_, 1) := by decide +kernel
set_option maxRecDepth 20000 in
theorem a_X16_hang_39 {p : Program} {l : Launch} {e : Env} {R : Room} {s : State} {m : MethodId} {args : Array Value} {below : List Frame} {meth : Method} {c : Code} {D : va_G} {cA : Nat → ClassId} {tys : List (ClassId × FieldType)} {A : Nat → Prop} {n0 s0 : Nat} {QM : State → Prop} {ra : Nat → Nat} {jx : Nat → Nat → Nat} {rm : Nat} {Q : Sg → Unit → Prop} {X : Sg → String → Prop} (B : Cx p s m args c cX16_hang 3 RX16 D cA tys A) (hT : Tys cA tys) (hR : Rm R n0 s0) (hFr : 0 ≤ R.frames) (hLw : 0 ≤ R.locals) (hQ : ∀ (pc : Nat) (ls : Array Slot) (σ : Sg) (H : Heap) (locs : List Loc), decode cX16_hang pc = .ok (.return_, 1) → Hd D cA A s σ H locs → CB n0 s0 σ → Q σ () → RG σ → Shp ra jx rm σ → W p l e R s m args below meth c H locs (gc σ - n0) (gs σ - s0) QM (F0 m pc ls [])) (hX : ∀ (σ : Sg) (E : String) (pc : Nat) (lo : List (Nat × Value)) (st : List Value), X σ E → RG σ → Shp ra jx rm σ → JX p l e R s m args below meth c 3 D cA A n0 s0 QM σ E pc lo st) : ∀ (σ : Sg) (v1 : Int) (v2 : Int) (g1 : rng v1) (g2 : rng v2), w_X16_hang_39 ra jx rm Q X σ v1 v2 → RG σ → Shp ra jx rm σ → JJ p l e R s m args below meth c 3 D cA A n0 s0 QM σ 39 [(0, .ref rm), (1, .int (i32 v1)), (2, .int (i32 v2))] [] := by
  intro σ v1 v2 g1 g2 h hGσ hS H locs ls hH hl hc
  unfold w_X16_hang_39 at h
  refine lv_aload_n B.1 B.2.1 dX16_hang_39 rfl (lv_at hl 0 rfl) ?_
  refine r_arr B hH hS 88 (kd := 100) (n := 12) (by decide) (by decide) wf_X16_664 rfl (by decide) dX16_hang_40 ?_
  refine lv_iload_n B.1 B.2.1 dX16_hang_43 rfl (lv_at hl 1 rfl) ?_
  refine lv_iload_n B.1 B.2.1 dX16_hang_44 rfl (lv_at hl 2 rfl) ?_
  obtain ⟨q1, h⟩ := h
  obtain ⟨σ11, eσ11⟩ : ∃ z, z = pI σ (ra 88) v1.toNat v2 := ⟨_, rfl⟩
  have h := h σ11 eσ11
  refine r_iast B hT hH hS 88 (n := 12) (by decide) (by decide) q1 dX16_hang_45 (fun H locs hH => ?_)
  have hH : Hd D cA A s (pI σ (ra 88) v1.toNat v2) H locs := hH
  rw [← eσ11] at hH
  have hGσ11 : RG σ11 := by rw [eσ11]; exact hGσ.pI g2
  have hS : Shp ra jx rm σ11 := by rw [eσ11]; exact hS
  have hc : CB n0 s0 σ11 := by rw [eσ11]; exact hc
  rw [show gc σ = gc σ11 by rw [eσ11], show gs σ = gs σ11 by rw [eσ11]]
  refine lv_aload_n B.1 B.2.1 dX16_hang_46 rfl (lv_at hl 0 rfl) ?_
  refine r_arr B hH hS 89 (kd := 100) (n := 12) (by decide) (by decide) wf_X16_667 rfl (by decide) dX16_hang_47 ?_
  refine lv_iload_n B.1 B.2.1 dX16_hang_50 rfl (lv_at hl 1 rfl) ?_
  refine lv_dup2_11 B.1 B.2.1 dX16_hang_51 rfl rfl ?_
  obtain ⟨q2, h⟩ := h
  refine r_iald B hT hH hS 89 (n := 12) (by decide) (by decide) q2 dX16_hang_52 ?_
  refine lv_iconst (v := i32 1) B.1 B.2.1 dX16_hang_53 (by decide) ?_
  obtain ⟨q3, h⟩ := h
  refine lv_iadd B.1 B.2.1 dX16_hang_54 ?_
  rw [i32_add]
  obtain ⟨q4, h⟩ := h
  obtain ⟨σ12, eσ12⟩ : ∃ z, z = pI σ11 (ra 89) v1.toNat ((gI σ11 (ra 89) v1.toNat) + 1) := ⟨_, rfl⟩
  have h := h σ12 eσ12
  refine r_iast B hT hH hS 89 (n := 12) (by decide) (by decide) q4 dX16_hang_55 (fun H locs hH => ?_)
  have hH : Hd D cA A s (pI σ11 (ra 89) v1.toNat ((gI σ11 (ra 89) v1.toNat) + 1)) H locs := hH
  rw [← eσ12] at hH
  have hGσ12 : RG σ12 := by rw [eσ12]; exact hGσ11.pI q3
  have hS : Shp ra jx rm σ12 := by rw [eσ12]; exact hS
  have hc : CB n0 s0 σ12 := by rw [eσ12]; exact hc
  rw [show gc σ11 = gc σ12 by rw [eσ12], show gs σ11 = gs σ12 by rw [eσ12]]
  exact hQ _ _ _ _ _ dX16_hang_56 hH hc h hGσ12 hS
set_option maxRecDepth 20000 in
theorem a_X16_hang_27 {p : Program} {l : Launch} {e : Env} {R : Room} {s : State} {m : MethodId} {args : Array Value} {below : List Frame} {meth : Method} {c : Code} {D : va_G} {cA : Nat → ClassId} {tys : List (ClassId × FieldType)} {A : Nat → Prop} {n0 s0 : Nat} {QM : State → Prop} {ra : Nat → Nat} {jx : Nat → Nat → Nat} {rm : Nat} {Q : Sg → Unit → Prop} {X : Sg → String → Prop} (B : Cx p s m args c cX16_hang 3 RX16 D cA tys A) (hT : Tys cA tys) (hR : Rm R n0 s0) (hFr : 0 ≤ R.frames) (hLw : 0 ≤ R.locals) (hQ : ∀ (pc : Nat) (ls : Array Slot) (σ : Sg) (H : Heap) (locs : List Loc), decode cX16_hang pc = .ok (.return_, 1) → Hd D cA A s σ H locs → CB n0 s0 σ → Q σ () → RG σ → Shp ra jx rm σ → W p l e R s m args below meth c H locs (gc σ - n0) (gs σ - s0) QM (F0 m pc ls [])) (hX : ∀ (σ : Sg) (E : String) (pc : Nat) (lo : List (Nat × Value)) (st : List Value), X σ E → RG σ → Shp ra jx rm σ → JX p l e R s m args below meth c 3 D cA A n0 s0 QM σ E pc lo st) : ∀ (σ : Sg) (v1 : Int) (v2 : Int) (g1 : rng v1) (g2 : rng v2), w_X16_hang_27 ra jx rm Q X σ v1 v2 → RG σ → Shp ra jx rm σ → JJ p l e R s m args below meth c 3 D cA A n0 s0 QM σ 27 [(0, .ref rm), (1, .int (i32 v1)), (2, .int (i32 v2))] [] := by
  intro σ v1 v2 g1 g2 h hGσ hS H locs ls hH hl hc
  unfold w_X16_hang_27 at h
  refine lv_aload_n B.1 B.2.1 dX16_hang_27 rfl (lv_at hl 0 rfl) ?_
  refine r_arr B hH hS 86 (kd := 100) (n := 2000) (by decide) (by decide) wf_X16_652 rfl (by decide) dX16_hang_28 ?_
  refine lv_aload_n B.1 B.2.1 dX16_hang_31 rfl (lv_at hl 0 rfl) ?_
  refine r_arr B hH hS 88 (kd := 100) (n := 12) (by decide) (by decide) wf_X16_664 rfl (by decide) dX16_hang_32 ?_
  refine lv_iload_n B.1 B.2.1 dX16_hang_35 rfl (lv_at hl 1 rfl) ?_
  obtain ⟨q1, h⟩ := h
  refine r_iald B hT hH hS 88 (n := 12) (by decide) (by decide) q1 dX16_hang_36 ?_
  refine lv_iload_n B.1 B.2.1 dX16_hang_37 rfl (lv_at hl 2 rfl) ?_
  obtain ⟨q2, h⟩ := h
  obtain ⟨σ13, eσ13⟩ : ∃ z, z = pI σ (ra 86) (gI σ (ra 88) v1.toNat).toNat v2 := ⟨_, rfl⟩
  have h := h σ13 eσ13
  refine r_iast B hT hH hS 86 (n := 2000) (by decide) (by decide) q2 dX16_hang_38 (fun H locs hH => ?_)
  have hH : Hd D cA A s (pI σ (ra 86) (gI σ (ra 88) v1.toNat).toNat v2) H locs := hH
  rw [← eσ13] at hH
  have hGσ13 : RG σ13 := by rw [eσ13]; exact hGσ.pI g2
  have hS : Shp ra jx rm σ13 := by rw [eσ13]; exact hS
  have hc : CB n0 s0 σ13 := by rw [eσ13]; exact hc
  rw [show gc σ = gc σ13 by rw [eσ13], show gs σ = gs σ13 by rw [eσ13]]
  exact a_X16_hang_39 B hT hR hFr hLw hQ hX _ _ _ g1 g2 h hGσ13 hS _ _ _ hH (lv_sub (l' := [(0, .ref rm), (1, .int (i32 v1)), (2, .int (i32 v2))]) hl [0, 1, 2] rfl) hc
set_option maxRecDepth 20000 in
theorem a_X16_hang_17 {p : Program} {l : Launch} {e : Env} {R : Room} {s : State} {m : MethodId} {args : Array Value} {below : List Frame} {meth : Method} {c : Code} {D : va_G} {cA : Nat → ClassId} {tys : List (ClassId × FieldType)} {A : Nat → Prop} {n0 s0 : Nat} {QM : State → Prop} {ra : Nat → Nat} {jx : Nat → Nat → Nat} {rm : Nat} {Q : Sg → Unit → Prop} {X : Sg → String → Prop} (B : Cx p s m args c cX16_hang 3 RX16 D cA tys A) (hT : Tys cA tys) (hR : Rm R n0 s0) (hFr : 0 ≤ R.frames) (hLw : 0 ≤ R.locals) (hQ : ∀ (pc : Nat) (ls : Array Slot) (σ : Sg) (H : Heap) (locs : List Loc), decode cX16_hang pc = .ok (.return_, 1) → Hd D cA A s σ H locs → CB n0 s0 σ → Q σ () → RG σ → Shp ra jx rm σ → W p l e R s m args below meth c H locs (gc σ - n0) (gs σ - s0) QM (F0 m pc ls [])) (hX : ∀ (σ : Sg) (E : String) (pc : Nat) (lo : List (Nat × Value)) (st : List Value), X σ E → RG σ → Shp ra jx rm σ → JX p l e R s m args below meth c 3 D cA A n0 s0 QM σ E pc lo st) : ∀ (σ : Sg) (v1 : Int) (v2 : Int) (g1 : rng v1) (g2 : rng v2), w_X16_hang_17 ra jx rm Q X σ v1 v2 → RG σ → Shp ra jx rm σ → JJ p l e R s m args below meth c 3 D cA A n0 s0 QM σ 17 [(0, .ref rm), (1, .int (i32 v1)), (2, .int (i32 v2))] [] := by
  intro σ v1 v2 g1 g2 h hGσ hS H locs ls hH hl hc
  unfold w_X16_hang_17 at h
  refine lv_aload_n B.1 B.2.1 dX16_hang_17 rfl (lv_at hl 0 rfl) ?_
  refine r_arr B hH hS 87 (kd := 100) (n := 12) (by decide) (by decide) wf_X16_661 rfl (by decide) dX16_hang_18 ?_
  refine lv_iload_n B.1 B.2.1 dX16_hang_21 rfl (lv_at hl 1 rfl) ?_
  refine lv_iload_n B.1 B.2.1 dX16_hang_22 rfl (lv_at hl 2 rfl) ?_
  obtain ⟨q1, h⟩ := h
  obtain ⟨σ14, eσ14⟩ : ∃ z, z = pI σ (ra 87) v1.toNat v2 := ⟨_, rfl⟩
  have h := h σ14 eσ14
  refine r_iast B hT hH hS 87 (n := 12) (by decide) (by decide) q1 dX16_hang_23 (fun H locs hH => ?_)
  have hH : Hd D cA A s (pI σ (ra 87) v1.toNat v2) H locs := hH
  rw [← eσ14] at hH
  have hGσ14 : RG σ14 := by rw [eσ14]; exact hGσ.pI g2
  have hS : Shp ra jx rm σ14 := by rw [eσ14]; exact hS
  have hc : CB n0 s0 σ14 := by rw [eσ14]; exact hc
  rw [show gc σ = gc σ14 by rw [eσ14], show gs σ = gs σ14 by rw [eσ14]]
  refine lv_goto (tgt := 39) B.1 B.2.1 dX16_hang_24 (by decide) ?_
  exact a_X16_hang_39 B hT hR hFr hLw hQ hX _ _ _ g1 g2 h hGσ14 hS _ _ _ hH (lv_sub (l' := [(0, .ref rm), (1, .int (i32 v1)), (2, .int (i32 v2))]) hl [0, 1, 2] rfl) hc
set_option maxRecDepth 20000 in
theorem a_X16_hang_0 {p : Program} {l : Launch} {e : Env} {R : Room} {s : State} {m : MethodId} {args : Array Value} {below : List Frame} {meth : Method} {c : Code} {D : va_G} {cA : Nat → ClassId} {tys : List (ClassId × FieldType)} {A : Nat → Prop} {n0 s0 : Nat} {QM : State → Prop} {ra : Nat → Nat} {jx : Nat → Nat → Nat} {rm : Nat} {Q : Sg → Unit → Prop} {X : Sg → String → Prop} (B : Cx p s m args c cX16_hang 3 RX16 D cA tys A) (hT : Tys cA tys) (hR : Rm R n0 s0) (hFr : 0 ≤ R.frames) (hLw : 0 ≤ R.locals) (hQ : ∀ (pc : Nat) (ls : Array Slot) (σ : Sg) (H : Heap) (locs : List Loc), decode cX16_hang pc = .ok (.return_, 1) → Hd D cA A s σ H locs → CB n0 s0 σ → Q σ () → RG σ → Shp ra jx rm σ → W p l e R s m args below meth c H locs (gc σ - n0) (gs σ - s0) QM (F0 m pc ls [])) (hX : ∀ (σ : Sg) (E : String) (pc : Nat) (lo : List (Nat × Value)) (st : List Value), X σ E → RG σ → Shp ra jx rm σ → JX p l e R s m args below meth c 3 D cA A n0 s0 QM σ E pc lo st) : ∀ (σ : Sg) (v1 : Int) (v2 : Int) (g1 : rng v1) (g2 : rng v2), w_X16_hang_0 ra jx rm Q X σ v1 v2 → RG σ → Shp ra jx rm σ → JJ p l e R s m args below meth c 3 D cA A n0 s0 QM σ 0 [(0, .ref rm), (1, .int (i32 v1)), (2, .int (i32 v2))] [] := by
  intro σ v1 v2 g1 g2 h hGσ hS H locs ls hH hl hc
  unfold w_X16_hang_0 at h
  refine lv_aload_n B.1 B.2.1 dX16_hang_0 rfl (lv_at hl 0 rfl) ?_
  refine r_arr B hH hS 86 (kd := 100) (n := 2000) (by decide) (by decide) wf_X16_652 rfl (by decide) dX16_hang_1 ?_
  refine lv_iload_n B.1 B.2.1 dX16_hang_4 rfl (lv_at hl 2 rfl) ?_
  refine lv_iconst (v := i32 (-1)) B.1 B.2.1 dX16_hang_5 (by decide) ?_
  obtain ⟨q1, h⟩ := h
  obtain ⟨σ15, eσ15⟩ : ∃ z, z = pI σ (ra 86) v2.toNat (-1) := ⟨_, rfl⟩
  have h := h σ15 eσ15
  refine r_iast B hT hH hS 86 (n := 2000) (by decide) (by decide) q1 dX16_hang_6 (fun H locs hH => ?_)
  have hH : Hd D cA A s (pI σ (ra 86) v2.toNat (-1)) H locs := hH
  rw [← eσ15] at hH
  have hGσ15 : RG σ15 := by rw [eσ15]; exact hGσ.pI (by unfold rng; omega)
  have hS : Shp ra jx rm σ15 := by rw [eσ15]; exact hS
  have hc : CB n0 s0 σ15 := by rw [eσ15]; exact hc
  rw [show gc σ = gc σ15 by rw [eσ15], show gs σ = gs σ15 by rw [eσ15]]
  refine lv_aload_n B.1 B.2.1 dX16_hang_7 rfl (lv_at hl 0 rfl) ?_
  refine r_arr B hH hS 88 (kd := 100) (n := 12) (by decide) (by decide) wf_X16_664 rfl (by decide) dX16_hang_8 ?_
  refine lv_iload_n B.1 B.2.1 dX16_hang_11 rfl (lv_at hl 1 rfl) ?_
  obtain ⟨q2, h⟩ := h
  refine r_iald B hT hH hS 88 (n := 12) (by decide) (by decide) q2 dX16_hang_12 ?_
  refine lv_iconst (v := i32 (-1)) B.1 B.2.1 dX16_hang_13 (by decide) ?_
  refine lv_icmp_ne (tgt := 27) B.1 B.2.1 dX16_hang_14 (by decide) (fun h9 => ?_) (fun h9 => ?_)
  · rw [if_pos (fun q => h9 ((i32_eq (hGσ15 _ _) (by unfold rng; omega)).mpr q))] at h
    exact a_X16_hang_27 B hT hR hFr hLw hQ hX _ _ _ g1 g2 h hGσ15 hS _ _ _ hH (lv_sub (l' := [(0, .ref rm), (1, .int (i32 v1)), (2, .int (i32 v2))]) hl [0, 1, 2] rfl) hc
  · rw [if_neg (fun q => q ((i32_eq (hGσ15 _ _) (by unfold rng; omega)).mp h9))] at h
    exact a_X16_hang_17 B hT hR hFr hLw hQ hX _ _ _ g1 g2 h hGσ15 hS _ _ _ hH (lv_sub (l' := [(0, .ref rm), (1, .int (i32 v1)), (2, .int (i32 v2))]) hl [0, 1, 2] rfl) hc
theorem ok_X16_hang {l : Launch} {D : va_G} {cA : Nat → ClassId} {tys : List (ClassId × FieldType)} {A : Nat → Prop} {ra : Nat → Nat} {jx : Nat → Nat → Nat} {rm : Nat} (hT : Tys cA tys) {Q : Sg → Unit → Prop} {X : Sg → String → Prop} (σ : Sg) (v1 : Int) (v2 : Int) (g1 : rng v1) (g2 : rng v2) (hG : RG σ) (hS : Shp ra jx rm σ) (h : wp_X16_hang ra jx rm v1 v2 σ Q X) : Ok l D cA tys A yX16_hang (.code yX16_hang cX16_hang 3 none) 0 0 [.ref rm, .int (i32 v1), .int (i32 v2)] σ (fun σ' w => w = none ∧ Q σ' () ∧ RG σ' ∧ Shp ra jx rm σ') (fun σ' E => X σ' E ∧ RG σ' ∧ Shp ra jx rm σ') := by
  refine ok_of (ret := none) (by decide) (Nat.le_of_ble_eq_true rfl) ?_
  intro p e R s m args below meth c hRR B hr hlocks hex _
  have B : Cx p s m args c cX16_hang 3 RX16 D cA tys A := B
  have hR : Rm R (gc σ) (gs σ) := by rw [hRR]; exact ⟨rfl, rfl⟩
  unfold wp_X16_hang at h
  intro H locs ls hH hl hc
  have hX : ∀ (σ9 : Sg) (E : String) (pc : Nat) (lo : List (Nat × Value)) (st : List Value), X σ9 E → RG σ9 → Shp ra jx rm σ9 → JX p l e R s m args below meth c 3 D cA A (gc σ) (gs σ) (vx_MQ below (Qw D cA A σ (fun σ' w => w = none ∧ Q σ' () ∧ RG σ' ∧ Shp ra jx rm σ')) (Xw D cA A σ (fun σ' E => X σ' E ∧ RG σ' ∧ Shp ra jx rm σ')) args s (BC - gc σ) (BS - gs σ) A) σ9 E pc lo st := fun σ9 E pc lo st hx hG9 hS9 H locs ls ce q hH hl hc hce hcv hcl => e_out hH hc (fun x hx9 => (hex x hx9).elim) hlocks hce hcv hcl ⟨hx, hG9, hS9⟩
  exact a_X16_hang_0 B hT hR (by rw [hRR]; exact Nat.le_refl _) (by rw [hRR]; exact Nat.le_refl _) (fun pc ls σ9 H locs hd hH hc hq hG9 hS9 => e_vret B hH hc hr hlocks ⟨rfl, hq, hG9, hS9⟩ hd) hX σ v1 v2 g1 g2 h hG hS H locs ls hH (lv_sub (l' := [(0, .ref rm), (1, .int (i32 v1)), (2, .int (i32 v2))]) hl [0, 1, 2] rfl) hc
theorem dX16_keepPart_0 : decode cX16_keepPart 0 = .ok (.aload_n 0, 1) := by decide +kernel
theorem dX16_keepPart_1 : decode cX16_keepPart 1 = .ok (.getfield 380, 3) := by decide +kernel
theorem dX16_keepPart_4 : decode cX16_keepPart 4 = .ok (.iload_n 1, 1) := by decide +kernel
theorem dX16_keepPart_5 : decode cX16_keepPart 5 = .ok (.iaload, 1) := by decide +kernel
theorem dX16_keepPart_6 : decode cX16_keepPart 6 = .ok (.istore_n 2, 1) := by decide +kernel
theorem dX16_keepPart_7 : decode cX16_keepPart 7 = .ok (.bipush 64, 2) := by decide +kernel
theorem dX16_keepPart_9 : decode cX16_keepPart 9 = .ok (.iconst 4, 1) := by decide +kernel
theorem dX16_keepPart_10 : decode cX16_keepPart 10 = .ok (.iload_n 2, 1) := by decide +kernel
theorem dX16_keepPart_11 : decode cX16_keepPart 11 = .ok (.imul, 1) := by decide +kernel
theorem dX16_keepPart_12 : decode cX16_keepPart 12 = .ok (.iadd, 1) := by decide +kernel
theorem dX16_keepPart_13 : decode cX16_keepPart 13 = .ok (.aload_n 0, 1) := by decide +kernel
theorem dX16_keepPart_14 : decode cX16_keepPart 14 = .ok (.getfield 396, 3) := by decide +kernel
theorem dX16_keepPart_17 : decode cX16_keepPart 17 = .ok (.iload_n 1, 1) := by decide +kernel
theorem dX16_keepPart_18 : decode cX16_keepPart 18 = .ok (.iaload, 1) := by decide +kernel
theorem dX16_keepPart_19 : decode cX16_keepPart 19 = .ok (.iadd, 1) := by decide +kernel
theorem dX16_keepPart_20 : decode cX16_keepPart 20 = .ok (.istore_n 3, 1) := by decide +kernel
theorem dX16_keepPart_21 : decode cX16_keepPart 21 = .ok (.aload_n 0, 1) := by decide +kernel
theorem dX16_keepPart_22 : decode cX16_keepPart 22 = .ok (.getfield 694, 3) := by decide +kernel
theorem dX16_keepPart_25 : decode cX16_keepPart 25 = .ok (.iload_n 3, 1) := by decide +kernel
theorem dX16_keepPart_26 : decode cX16_keepPart 26 = .ok (.aload_n 0, 1) := by decide +kernel
theorem dX16_keepPart_27 : decode cX16_keepPart 27 = .ok (.getfield 422, 3) := by decide +kernel
theorem dX16_keepPart_30 : decode cX16_keepPart 30 = .ok (.iload_n 1, 1) := by decide +kernel
theorem dX16_keepPart_31 : decode cX16_keepPart 31 = .ok (.iaload, 1) := by decide +kernel
theorem dX16_keepPart_32 : decode cX16_keepPart 32 = .ok (.iastore, 1) := by decide +kernel
theorem dX16_keepPart_33 : decode cX16_keepPart 33 = .ok (.aload_n 0, 1) := by decide +kernel
theorem dX16_keepPart_34 : decode cX16_keepPart 34 = .ok (.getfield 697, 3) := by decide +kernel
theorem dX16_keepPart_37 : decode cX16_keepPart 37 = .ok (.iload_n 3, 1) := by decide +kernel
theorem dX16_keepPart_38 : decode cX16_keepPart 38 = .ok (.aload_n 0, 1) := by decide +kernel
theorem dX16_keepPart_39 : decode cX16_keepPart 39 = .ok (.getfield 425, 3) := by decide +kernel
theorem dX16_keepPart_42 : decode cX16_keepPart 42 = .ok (.iload_n 1, 1) := by decide +kernel
theorem dX16_keepPart_43 : decode cX16_keepPart 43 = .ok (.iaload, 1) := by decide +kernel
theorem dX16_keepPart_44 : decode cX16_keepPart 44 = .ok (.iastore, 1) := by decide +kernel
theorem dX16_keepPart_45 : decode cX16_keepPart 45 = .ok (.aload_n 0, 1) := by decide +kernel
theorem dX16_keepPart_46 : decode cX16_keepPart 46 = .ok (.getfield 700, 3) := by decide +kernel
theorem dX16_keepPart_49 : decode cX16_keepPart 49 = .ok (.iload_n 3, 1) := by decide +kernel
theorem dX16_keepPart_50 : decode cX16_keepPart 50 = .ok (.aload_n 0, 1) := by decide +kernel
theorem dX16_keepPart_51 : decode cX16_keepPart 51 = .ok (.getfield 414, 3) := by decide +kernel
theorem dX16_keepPart_54 : decode cX16_keepPart 54 = .ok (.iload_n 1, 1) := by decide +kernel
theorem dX16_keepPart_55 : decode cX16_keepPart 55 = .ok (.laload, 1) := by decide +kernel
theorem dX16_keepPart_56 : decode cX16_keepPart 56 = .ok (.lastore, 1) := by decide +kernel
theorem dX16_keepPart_57 : decode cX16_keepPart 57 = .ok (.aload_n 0, 1) := by decide +kernel
theorem dX16_keepPart_58 : decode cX16_keepPart 58 = .ok (.getfield 504, 3) := by decide +kernel
theorem dX16_keepPart_61 : decode cX16_keepPart 61 = .ok (.iload_n 1, 1) := by decide +kernel
theorem dX16_keepPart_62 : decode cX16_keepPart 62 = .ok (.iaload, 1) := by decide +kernel
theorem dX16_keepPart_63 : decode cX16_keepPart 63 = .ok (.istore 4, 2) := by decide +kernel
theorem dX16_keepPart_65 : decode cX16_keepPart 65 = .ok (.iload 4, 2) := by decide +kernel
theorem dX16_keepPart_67 : decode cX16_keepPart 67 = .ok (.iconst (-1), 1) := by decide +kernel
theorem dX16_keepPart_68 : decode cX16_keepPart 68 = .ok (.if_icmp .eq 170, 3) := by decide +kernel
theorem dX16_keepPart_71 : decode cX16_keepPart 71 = .ok (.sipush 4000, 3) := by decide +kernel
theorem dX16_keepPart_74 : decode cX16_keepPart 74 = .ok (.aload_n 0, 1) := by decide +kernel
theorem dX16_keepPart_75 : decode cX16_keepPart 75 = .ok (.getfield 703, 3) := by decide +kernel
theorem dX16_keepPart_78 : decode cX16_keepPart 78 = .ok (.iconst 1, 1) := by decide +kernel
theorem dX16_keepPart_79 : decode cX16_keepPart 79 = .ok (.iaload, 1) := by decide +kernel
theorem dX16_keepPart_80 : decode cX16_keepPart 80 = .ok (.iadd, 1) := by decide +kernel
theorem dX16_keepPart_81 : decode cX16_keepPart 81 = .ok (.istore 5, 2) := by decide +kernel
theorem dX16_keepPart_83 : decode cX16_keepPart 83 = .ok (.aload_n 0, 1) := by decide +kernel
theorem dX16_keepPart_84 : decode cX16_keepPart 84 = .ok (.getfield 703, 3) := by decide +kernel
theorem dX16_keepPart_87 : decode cX16_keepPart 87 = .ok (.iconst 1, 1) := by decide +kernel
theorem dX16_keepPart_88 : decode cX16_keepPart 88 = .ok (.dup2, 1) := by decide +kernel
theorem dX16_keepPart_89 : decode cX16_keepPart 89 = .ok (.iaload, 1) := by decide +kernel
theorem dX16_keepPart_90 : decode cX16_keepPart 90 = .ok (.iconst 1, 1) := by decide +kernel
theorem dX16_keepPart_91 : decode cX16_keepPart 91 = .ok (.iadd, 1) := by decide +kernel
theorem dX16_keepPart_92 : decode cX16_keepPart 92 = .ok (.iastore, 1) := by decide +kernel
theorem dX16_keepPart_93 : decode cX16_keepPart 93 = .ok (.aload_n 0, 1) := by decide +kernel
theorem dX16_keepPart_94 : decode cX16_keepPart 94 = .ok (.getfield 706, 3) := by decide +kernel
theorem dX16_keepPart_97 : decode cX16_keepPart 97 = .ok (.iload 5, 2) := by decide +kernel
theorem dX16_keepPart_99 : decode cX16_keepPart 99 = .ok (.aload_n 0, 1) := by decide +kernel
theorem dX16_keepPart_100 : decode cX16_keepPart 100 = .ok (.getfield 513, 3) := by decide +kernel
theorem dX16_keepPart_103 : decode cX16_keepPart 103 = .ok (.iload 4, 2) := by decide +kernel
theorem dX16_keepPart_105 : decode cX16_keepPart 105 = .ok (.iaload, 1) := by decide +kernel
theorem dX16_keepPart_106 : decode cX16_keepPart 106 = .ok (.iastore, 1) := by decide +kernel
theorem dX16_keepPart_107 : decode cX16_keepPart 107 = .ok (.aload_n 0, 1) := by decide +kernel
theorem dX16_keepPart_108 : decode cX16_keepPart 108 = .ok (.getfield 709, 3) := by decide +kernel
theorem dX16_keepPart_111 : decode cX16_keepPart 111 = .ok (.iload 5, 2) := by decide +kernel
theorem dX16_keepPart_113 : decode cX16_keepPart 113 = .ok (.iload_n 2, 1) := by decide +kernel
theorem dX16_keepPart_114 : decode cX16_keepPart 114 = .ok (.iastore, 1) := by decide +kernel
theorem dX16_keepPart_115 : decode cX16_keepPart 115 = .ok (.aload_n 0, 1) := by decide +kernel
theorem dX16_keepPart_116 : decode cX16_keepPart 116 = .ok (.getfield 712, 3) := by decide +kernel
theorem dX16_keepPart_119 : decode cX16_keepPart 119 = .ok (.iload 5, 2) := by decide +kernel
theorem dX16_keepPart_121 : decode cX16_keepPart 121 = .ok (.aload_n 0, 1) := by decide +kernel
theorem dX16_keepPart_122 : decode cX16_keepPart 122 = .ok (.getfield 396, 3) := by decide +kernel
theorem dX16_keepPart_125 : decode cX16_keepPart 125 = .ok (.iload_n 1, 1) := by decide +kernel
theorem dX16_keepPart_126 : decode cX16_keepPart 126 = .ok (.iaload, 1) := by decide +kernel
theorem dX16_keepPart_127 : decode cX16_keepPart 127 = .ok (.iastore, 1) := by decide +kernel
theorem dX16_keepPart_128 : decode cX16_keepPart 128 = .ok (.aload_n 0, 1) := by decide +kernel
theorem dX16_keepPart_129 : decode cX16_keepPart 129 = .ok (.getfield 715, 3) := by decide +kernel
theorem dX16_keepPart_132 : decode cX16_keepPart 132 = .ok (.iload 5, 2) := by decide +kernel
theorem dX16_keepPart_134 : decode cX16_keepPart 134 = .ok (.aload_n 0, 1) := by decide +kernel
theorem dX16_keepPart_135 : decode cX16_keepPart 135 = .ok (.getfield 519, 3) := by decide +kernel
theorem dX16_keepPart_138 : decode cX16_keepPart 138 = .ok (.iload 4, 2) := by decide +kernel
theorem dX16_keepPart_140 : decode cX16_keepPart 140 = .ok (.laload, 1) := by decide +kernel
theorem dX16_keepPart_141 : decode cX16_keepPart 141 = .ok (.lastore, 1) := by decide +kernel
theorem dX16_keepPart_142 : decode cX16_keepPart 142 = .ok (.aload_n 0, 1) := by decide +kernel
theorem dX16_keepPart_143 : decode cX16_keepPart 143 = .ok (.getfield 718, 3) := by decide +kernel
theorem dX16_keepPart_146 : decode cX16_keepPart 146 = .ok (.iload 5, 2) := by decide +kernel
theorem dX16_keepPart_148 : decode cX16_keepPart 148 = .ok (.aload_n 0, 1) := by decide +kernel
theorem dX16_keepPart_149 : decode cX16_keepPart 149 = .ok (.getfield 522, 3) := by decide +kernel
theorem dX16_keepPart_152 : decode cX16_keepPart 152 = .ok (.iload 4, 2) := by decide +kernel
theorem dX16_keepPart_154 : decode cX16_keepPart 154 = .ok (.laload, 1) := by decide +kernel
theorem dX16_keepPart_155 : decode cX16_keepPart 155 = .ok (.lastore, 1) := by decide +kernel
theorem dX16_keepPart_156 : decode cX16_keepPart 156 = .ok (.aload_n 0, 1) := by decide +kernel
theorem dX16_keepPart_157 : decode cX16_keepPart 157 = .ok (.getfield 721, 3) := by decide +kernel
theorem dX16_keepPart_160 : decode cX16_keepPart 160 = .ok (.iload 5, 2) := by decide +kernel
theorem dX16_keepPart_162 : decode cX16_keepPart 162 = .ok (.aload_n 0, 1) := by decide +kernel
theorem dX16_keepPart_163 : decode cX16_keepPart 163 = .ok (.getfield 525, 3) := by decide +kernel
theorem dX16_keepPart_166 : decode cX16_keepPart 166 = .ok (.iload 4, 2) := by decide +kernel
theorem dX16_keepPart_168 : decode cX16_keepPart 168 = .ok (.laload, 1) := by decide +kernel
theorem dX16_keepPart_169 : decode cX16_keepPart 169 = .ok (.lastore, 1) := by decide +kernel
theorem dX16_keepPart_170 : decode cX16_keepPart 170 = .ok (.aload_n 0, 1) := by decide +kernel
theorem dX16_keepPart_171 : decode cX16_keepPart 171 = .ok (.getfield 724, 3) := by decide +kernel
theorem dX16_keepPart_174 : decode cX16_keepPart 174 = .ok (.iload 5, 2) := by decide +kernel
theorem dX16_keepPart_176 : decode cX16_keepPart 176 = .ok (.aload_n 0, 1) := by decide +kernel
theorem dX16_keepPart_177 : decode cX16_keepPart 177 = .ok (.getfield 531, 3) := by decide +kernel
theorem dX16_keepPart_180 : decode cX16_keepPart 180 = .ok (.iload 4, 2) := by decide +kernel
theorem dX16_keepPart_182 : decode cX16_keepPart 182 = .ok (.iaload, 1) := by decide +kernel
theorem dX16_keepPart_183 : decode cX16_keepPart 183 = .ok (.iastore, 1) := by decide +kernel
theorem dX16_keepPart_184 : decode cX16_keepPart 184 = .ok (.iconst 0, 1) := by decide +kernel
theorem dX16_keepPart_185 : decode cX16_keepPart 185 = .ok (.istore 6, 2) := by decide +kernel
theorem dX16_keepPart_187 : decode cX16_keepPart 187 = .ok (.iload 6, 2) := by decide +kernel
theorem dX16_keepPart_189 : decode cX16_keepPart 189 = .ok (.bipush 8, 2) := by decide +kernel
theorem dX16_keepPart_191 : decode cX16_keepPart 191 = .ok (.if_icmp .ge 35, 3) := by decide +kernel
theorem dX16_keepPart_194 : decode cX16_keepPart 194 = .ok (.aload_n 0, 1) := by decide +kernel
theorem dX16_keepPart_195 : decode cX16_keepPart 195 = .ok (.getfield 727, 3) := by decide +kernel
theorem dX16_keepPart_198 : decode cX16_keepPart 198 = .ok (.bipush 8, 2) := by decide +kernel
theorem dX16_keepPart_200 : decode cX16_keepPart 200 = .ok (.iload 5, 2) := by decide +kernel
theorem dX16_keepPart_202 : decode cX16_keepPart 202 = .ok (.imul, 1) := by decide +kernel
theorem dX16_keepPart_203 : decode cX16_keepPart 203 = .ok (.iload 6, 2) := by decide +kernel
theorem dX16_keepPart_205 : decode cX16_keepPart 205 = .ok (.iadd, 1) := by decide +kernel
theorem dX16_keepPart_206 : decode cX16_keepPart 206 = .ok (.aload_n 0, 1) := by decide +kernel
theorem dX16_keepPart_207 : decode cX16_keepPart 207 = .ok (.getfield 528, 3) := by decide +kernel
theorem dX16_keepPart_210 : decode cX16_keepPart 210 = .ok (.bipush 8, 2) := by decide +kernel
theorem dX16_keepPart_212 : decode cX16_keepPart 212 = .ok (.iload 4, 2) := by decide +kernel
theorem dX16_keepPart_214 : decode cX16_keepPart 214 = .ok (.imul, 1) := by decide +kernel
theorem dX16_keepPart_215 : decode cX16_keepPart 215 = .ok (.iload 6, 2) := by decide +kernel
theorem dX16_keepPart_217 : decode cX16_keepPart 217 = .ok (.iadd, 1) := by decide +kernel
theorem dX16_keepPart_218 : decode cX16_keepPart 218 = .ok (.laload, 1) := by decide +kernel
theorem dX16_keepPart_219 : decode cX16_keepPart 219 = .ok (.lastore, 1) := by decide +kernel
theorem dX16_keepPart_220 : decode cX16_keepPart 220 = .ok (.iinc 6 1, 3) := by decide +kernel
theorem dX16_keepPart_223 : decode cX16_keepPart 223 = .ok (.goto (-36), 3) := by decide +kernel
theorem dX16_keepPart_226 : decode cX16_keepPart 226 = .ok (.aload_n 0, 1) := by decide +kernel
theorem dX16_keepPart_227 : decode cX16_keepPart 227 = .ok (.getfield 495, 3) := by decide +kernel
theorem dX16_keepPart_230 : decode cX16_keepPart 230 = .ok (.iload 4, 2) := by decide +kernel
theorem dX16_keepPart_232 : decode cX16_keepPart 232 = .ok (.iaload, 1) := by decide +kernel
theorem dX16_keepPart_233 : decode cX16_keepPart 233 = .ok (.istore 4, 2) := by decide +kernel
theorem dX16_keepPart_235 : decode cX16_keepPart 235 = .ok (.goto (-170), 3) := by decide +kernel
theorem dX16_keepPart_238 : decode cX16_keepPart 238 = .ok (.aload_n 0, 1) := by decide +kernel
theorem dX16_keepPart_239 : decode cX16_keepPart 239 = .ok (.getfield 428, 3) := by decide +kernel
theorem dX16_keepPart_242 : decode cX16_keepPart 242 = .ok (.iload_n 1, 1) := by decide +kernel
theorem dX16_keepPart_243 : decode cX16_keepPart 243 = .ok (.iconst 1, 1) := by decide +kernel
theorem dX16_keepPart_244 : decode cX16_keepPart 244 = .ok (.bastore, 1) := by decide +kernel
theorem dX16_keepPart_245 : decode cX16_keepPart 245 = .ok (.return_, 1) := by decide +kernel
set_option maxRecDepth 20000 in
theorem a_X16_keepPart_238 {p : Program} {l : Launch} {e : Env} {R : Room} {s : State} {m : MethodId} {args : Array Value} {below : List Frame} {meth : Method} {c : Code} {D : va_G} {cA : Nat → ClassId} {tys : List (ClassId × FieldType)} {A : Nat → Prop} {n0 s0 : Nat} {QM : State → Prop} {ra : Nat → Nat} {jx : Nat → Nat → Nat} {rm : Nat} {Q : Sg → Unit → Prop} {X : Sg → String → Prop} (B : Cx p s m args c cX16_keepPart 7 RX16 D cA tys A) (hT : Tys cA tys) (hR : Rm R n0 s0) (hFr : 0 ≤ R.frames) (hLw : 0 ≤ R.locals) (hQ : ∀ (pc : Nat) (ls : Array Slot) (σ : Sg) (H : Heap) (locs : List Loc), decode cX16_keepPart pc = .ok (.return_, 1) → Hd D cA A s σ H locs → CB n0 s0 σ → Q σ () → RG σ → Shp ra jx rm σ → W p l e R s m args below meth c H locs (gc σ - n0) (gs σ - s0) QM (F0 m pc ls [])) (hX : ∀ (σ : Sg) (E : String) (pc : Nat) (lo : List (Nat × Value)) (st : List Value), X σ E → RG σ → Shp ra jx rm σ → JX p l e R s m args below meth c 7 D cA A n0 s0 QM σ E pc lo st) : ∀ (σ : Sg) (v1 : Int) (g1 : rng v1), w_X16_keepPart_238 ra jx rm Q X σ v1 → RG σ → Shp ra jx rm σ → JJ p l e R s m args below meth c 7 D cA A n0 s0 QM σ 238 [(0, .ref rm), (1, .int (i32 v1))] [] := by
  intro σ v1 g1 h hGσ hS H locs ls hH hl hc
  unfold w_X16_keepPart_238 at h
  refine lv_aload_n B.1 B.2.1 dX16_keepPart_238 rfl (lv_at hl 0 rfl) ?_
  refine r_arr B hH hS 44 (kd := 103) (n := 64) (by decide) (by decide) wf_X16_428 rfl (by decide) dX16_keepPart_239 ?_
  refine lv_iload_n B.1 B.2.1 dX16_keepPart_242 rfl (lv_at hl 1 rfl) ?_
  refine lv_iconst (v := i32 1) B.1 B.2.1 dX16_keepPart_243 (by decide) ?_
  obtain ⟨q1, h⟩ := h
  obtain ⟨σ27, eσ27⟩ : ∃ z, z = pI σ (ra 44) v1.toNat ((vp_nar .boolean (i32 1)).toInt) := ⟨_, rfl⟩
  have h := h σ27 eσ27
  refine r_zast B hT hH hS 44 (n := 64) (by decide) (by decide) q1 dX16_keepPart_244 (fun H locs hH => ?_)
  have hH : Hd D cA A s (pI σ (ra 44) v1.toNat ((vp_nar .boolean (i32 1)).toInt)) H locs := hH
  rw [← eσ27] at hH
  have hGσ27 : RG σ27 := by rw [eσ27]; exact hGσ.pI (rng_toInt _)
  have hS : Shp ra jx rm σ27 := by rw [eσ27]; exact hS
  have hc : CB n0 s0 σ27 := by rw [eσ27]; exact hc
  rw [show gc σ = gc σ27 by rw [eσ27], show gs σ = gs σ27 by rw [eσ27]]
  exact hQ _ _ _ _ _ dX16_keepPart_245 hH hc h hGσ27 hS
set_option maxRecDepth 20000 in
theorem a_X16_keepPart_226 {p : Program} {l : Launch} {e : Env} {R : Room} {s : State} {m : MethodId} {args : Array Value} {below : List Frame} {meth : Method} {c : Code} {D : va_G} {cA : Nat → ClassId} {tys : List (ClassId × FieldType)} {A : Nat → Prop} {n0 s0 : Nat} {QM : State → Prop} {ra : Nat → Nat} {jx : Nat → Nat → Nat} {rm : Nat} {Q : Sg → Unit → Prop} {X : Sg → String → Prop} (B : Cx p s m args c cX16_keepPart 7 RX16 D cA tys A) (hT : Tys cA tys) (hR : Rm R n0 s0) (hFr : 0 ≤ R.frames) (hLw : 0 ≤ R.locals) (hQ : ∀ (pc : Nat) (ls : Array Slot) (σ : Sg) (H : Heap) (locs : List Loc), decode cX16_keepPart pc = .ok (.return_, 1) → Hd D cA A s σ H locs → CB n0 s0 σ → Q σ () → RG σ → Shp ra jx rm σ → W p l e R s m args below meth c H locs (gc σ - n0) (gs σ - s0) QM (F0 m pc ls [])) (hX : ∀ (σ : Sg) (E : String) (pc : Nat) (lo : List (Nat × Value)) (st : List Value), X σ E → RG σ → Shp ra jx rm σ → JX p l e R s m args below meth c 7 D cA A n0 s0 QM σ E pc lo st) {K65 : Sg → Int → Int → Int → Prop} (hK65 : ∀ (σ : Sg) (v1 : Int) (v2 : Int) (v4 : Int) (g1 : rng v1) (g2 : rng v2) (g4 : rng v4), K65 σ v1 v2 v4 → RG σ → Shp ra jx rm σ → JJ p l e R s m args below meth c 7 D cA A n0 s0 QM σ 65 [(0, .ref rm), (1, .int (i32 v1)), (2, .int (i32 v2)), (4, .int (i32 v4))] []) : ∀ (σ : Sg) (v1 : Int) (v2 : Int) (v4 : Int) (g1 : rng v1) (g2 : rng v2) (g4 : rng v4), w_X16_keepPart_226 ra jx rm K65 Q X σ v1 v2 v4 → RG σ → Shp ra jx rm σ → JJ p l e R s m args below meth c 7 D cA A n0 s0 QM σ 226 [(0, .ref rm), (1, .int (i32 v1)), (2, .int (i32 v2)), (4, .int (i32 v4))] [] := by
  intro σ v1 v2 v4 g1 g2 g4 h hGσ hS H locs ls hH hl hc
  unfold w_X16_keepPart_226 at h
  refine lv_aload_n B.1 B.2.1 dX16_keepPart_226 rfl (lv_at hl 0 rfl) ?_
  refine r_arr B hH hS 75 (kd := 100) (n := 4000) (by decide) (by decide) wf_X16_495 rfl (by decide) dX16_keepPart_227 ?_
  refine lv_iload B.1 B.2.1 dX16_keepPart_230 (lv_at hl 3 rfl) ?_
  obtain ⟨q1, h⟩ := h
  refine r_iald B hT hH hS 75 (n := 4000) (by decide) (by decide) q1 dX16_keepPart_232 ?_
  refine lv_istore (lv' := [(4, .int (i32 (gI σ (ra 75) v4.toNat))), (0, .ref rm), (1, .int (i32 v1)), (2, .int (i32 v2))]) B.1 B.2.1 dX16_keepPart_233 hl (by decide) rfl (fun ls hl => ?_)
  refine lv_goto (tgt := 65) B.1 B.2.1 dX16_keepPart_235 (by decide) ?_
  exact hK65 _ _ _ _ g1 g2 (hGσ _ _) h hGσ hS _ _ _ hH (lv_sub (l' := [(0, .ref rm), (1, .int (i32 v1)), (2, .int (i32 v2)), (4, .int (i32 (gI σ (ra 75) v4.toNat)))]) hl [1, 2, 3, 0] rfl) hc
set_option maxRecDepth 20000 in
theorem a_X16_keepPart_194 {p : Program} {l : Launch} {e : Env} {R : Room} {s : State} {m : MethodId} {args : Array Value} {below : List Frame} {meth : Method} {c : Code} {D : va_G} {cA : Nat → ClassId} {tys : List (ClassId × FieldType)} {A : Nat → Prop} {n0 s0 : Nat} {QM : State → Prop} {ra : Nat → Nat} {jx : Nat → Nat → Nat} {rm : Nat} {Q : Sg → Unit → Prop} {X : Sg → String → Prop} (B : Cx p s m args c cX16_keepPart 7 RX16 D cA tys A) (hT : Tys cA tys) (hR : Rm R n0 s0) (hFr : 0 ≤ R.frames) (hLw : 0 ≤ R.locals) (hQ : ∀ (pc : Nat) (ls : Array Slot) (σ : Sg) (H : Heap) (locs : List Loc), decode cX16_keepPart pc = .ok (.return_, 1) → Hd D cA A s σ H locs → CB n0 s0 σ → Q σ () → RG σ → Shp ra jx rm σ → W p l e R s m args below meth c H locs (gc σ - n0) (gs σ - s0) QM (F0 m pc ls [])) (hX : ∀ (σ : Sg) (E : String) (pc : Nat) (lo : List (Nat × Value)) (st : List Value), X σ E → RG σ → Shp ra jx rm σ → JX p l e R s m args below meth c 7 D cA A n0 s0 QM σ E pc lo st) {K65 : Sg → Int → Int → Int → Prop} (hK65 : ∀ (σ : Sg) (v1 : Int) (v2 : Int) (v4 : Int) (g1 : rng v1) (g2 : rng v2) (g4 : rng v4), K65 σ v1 v2 v4 → RG σ → Shp ra jx rm σ → JJ p l e R s m args below meth c 7 D cA A n0 s0 QM σ 65 [(0, .ref rm), (1, .int (i32 v1)), (2, .int (i32 v2)), (4, .int (i32 v4))] []) {K187 : Sg → Int → Int → Int → Int → Int → Prop} (hK187 : ∀ (σ : Sg) (v1 : Int) (v2 : Int) (v4 : Int) (v5 : Int) (v6 : Int) (g1 : rng v1) (g2 : rng v2) (g4 : rng v4) (g5 : rng v5) (g6 : rng v6), K187 σ v1 v2 v4 v5 v6 → RG σ → Shp ra jx rm σ → JJ p l e R s m args below meth c 7 D cA A n0 s0 QM σ 187 [(0, .ref rm), (1, .int (i32 v1)), (2, .int (i32 v2)), (4, .int (i32 v4)), (5, .int (i32 v5)), (6, .int (i32 v6))] []) : ∀ (σ : Sg) (v1 : Int) (v2 : Int) (v4 : Int) (v5 : Int) (v6 : Int) (g1 : rng v1) (g2 : rng v2) (g4 : rng v4) (g5 : rng v5) (g6 : rng v6), w_X16_keepPart_194 ra jx rm K65 K187 Q X σ v1 v2 v4 v5 v6 → RG σ → Shp ra jx rm σ → JJ p l e R s m args below meth c 7 D cA A n0 s0 QM σ 194 [(0, .ref rm), (1, .int (i32 v1)), (2, .int (i32 v2)), (4, .int (i32 v4)), (5, .int (i32 v5)), (6, .int (i32 v6))] [] := by
  intro σ v1 v2 v4 v5 v6 g1 g2 g4 g5 g6 h hGσ hS H locs ls hH hl hc
  unfold w_X16_keepPart_194 at h
  refine lv_aload_n B.1 B.2.1 dX16_keepPart_194 rfl (lv_at hl 0 rfl) ?_
  refine r_arr B hH hS 105 (kd := 101) (n := 64000) (by decide) (by decide) wf_X16_727 rfl (by decide) dX16_keepPart_195 ?_
  refine lv_bipush (v := i32 8) B.1 B.2.1 dX16_keepPart_198 (by decide) ?_
  refine lv_iload B.1 B.2.1 dX16_keepPart_200 (lv_at hl 4 rfl) ?_
  obtain ⟨q1, h⟩ := h
  refine lv_imul B.1 B.2.1 dX16_keepPart_202 ?_
  rw [i32_mul]
  refine lv_iload B.1 B.2.1 dX16_keepPart_203 (lv_at hl 5 rfl) ?_
  obtain ⟨q2, h⟩ := h
  refine lv_iadd B.1 B.2.1 dX16_keepPart_205 ?_
  rw [i32_add]
  refine lv_aload_n B.1 B.2.1 dX16_keepPart_206 rfl (lv_at hl 0 rfl) ?_
  refine r_arr B hH hS 73 (kd := 101) (n := 32000) (by decide) (by decide) wf_X16_528 rfl (by decide) dX16_keepPart_207 ?_
  refine lv_bipush (v := i32 8) B.1 B.2.1 dX16_keepPart_210 (by decide) ?_
  refine lv_iload B.1 B.2.1 dX16_keepPart_212 (lv_at hl 3 rfl) ?_
  obtain ⟨q3, h⟩ := h
  refine lv_imul B.1 B.2.1 dX16_keepPart_214 ?_
  rw [i32_mul]
  refine lv_iload B.1 B.2.1 dX16_keepPart_215 (lv_at hl 5 rfl) ?_
  obtain ⟨q4, h⟩ := h
  refine lv_iadd B.1 B.2.1 dX16_keepPart_217 ?_
  rw [i32_add]
  obtain ⟨q5, h⟩ := h
  refine r_lald B hT hH hS 73 (n := 32000) (by decide) (by decide) q5 dX16_keepPart_218 ?_
  obtain ⟨q6, h⟩ := h
  obtain ⟨σ28, eσ28⟩ : ∃ z, z = pJ σ (ra 105) ((8 * v5) + v6).toNat (gJ σ (ra 73) ((8 * v4) + v6).toNat) := ⟨_, rfl⟩
  have h := h σ28 eσ28
  refine r_last B hT hH hS 105 (n := 64000) (by decide) (by decide) q6 dX16_keepPart_219 (fun H locs hH => ?_)
  have hH : Hd D cA A s (pJ σ (ra 105) ((8 * v5) + v6).toNat (gJ σ (ra 73) ((8 * v4) + v6).toNat)) H locs := hH
  rw [← eσ28] at hH
  have hGσ28 : RG σ28 := by rw [eσ28]; exact hGσ.pJ
  have hS : Shp ra jx rm σ28 := by rw [eσ28]; exact hS
  have hc : CB n0 s0 σ28 := by rw [eσ28]; exact hc
  rw [show gc σ = gc σ28 by rw [eσ28], show gs σ = gs σ28 by rw [eσ28]]
  obtain ⟨q7, h⟩ := h
  refine lv_iinc (k := 5) (v := i32 (v6 + 1)) (lv' := [(6, .int (i32 (v6 + 1))), (0, .ref rm), (1, .int (i32 v1)), (2, .int (i32 v2)), (4, .int (i32 v4)), (5, .int (i32 v5))]) B.1 B.2.1 dX16_keepPart_220 hl rfl (i32_add _ _) (by decide) rfl (fun ls hl => ?_)
  refine lv_goto (tgt := 187) B.1 B.2.1 dX16_keepPart_223 (by decide) ?_
  exact hK187 _ _ _ _ _ _ g1 g2 g4 g5 q7 h hGσ28 hS _ _ _ hH (lv_sub (l' := [(0, .ref rm), (1, .int (i32 v1)), (2, .int (i32 v2)), (4, .int (i32 v4)), (5, .int (i32 v5)), (6, .int (i32 (v6 + 1)))]) hl [1, 2, 3, 4, 5, 0] rfl) hc
set_option maxRecDepth 20000 in
theorem a_X16_keepPart_187 {p : Program} {l : Launch} {e : Env} {R : Room} {s : State} {m : MethodId} {args : Array Value} {below : List Frame} {meth : Method} {c : Code} {D : va_G} {cA : Nat → ClassId} {tys : List (ClassId × FieldType)} {A : Nat → Prop} {n0 s0 : Nat} {QM : State → Prop} {ra : Nat → Nat} {jx : Nat → Nat → Nat} {rm : Nat} {Q : Sg → Unit → Prop} {X : Sg → String → Prop} (B : Cx p s m args c cX16_keepPart 7 RX16 D cA tys A) (hT : Tys cA tys) (hR : Rm R n0 s0) (hFr : 0 ≤ R.frames) (hLw : 0 ≤ R.locals) (hQ : ∀ (pc : Nat) (ls : Array Slot) (σ : Sg) (H : Heap) (locs : List Loc), decode cX16_keepPart pc = .ok (.return_, 1) → Hd D cA A s σ H locs → CB n0 s0 σ → Q σ () → RG σ → Shp ra jx rm σ → W p l e R s m args below meth c H locs (gc σ - n0) (gs σ - s0) QM (F0 m pc ls [])) (hX : ∀ (σ : Sg) (E : String) (pc : Nat) (lo : List (Nat × Value)) (st : List Value), X σ E → RG σ → Shp ra jx rm σ → JX p l e R s m args below meth c 7 D cA A n0 s0 QM σ E pc lo st) {K65 : Sg → Int → Int → Int → Prop} (hK65 : ∀ (σ : Sg) (v1 : Int) (v2 : Int) (v4 : Int) (g1 : rng v1) (g2 : rng v2) (g4 : rng v4), K65 σ v1 v2 v4 → RG σ → Shp ra jx rm σ → JJ p l e R s m args below meth c 7 D cA A n0 s0 QM σ 65 [(0, .ref rm), (1, .int (i32 v1)), (2, .int (i32 v2)), (4, .int (i32 v4))] []) {K187 : Sg → Int → Int → Int → Int → Int → Prop} (hK187 : ∀ (σ : Sg) (v1 : Int) (v2 : Int) (v4 : Int) (v5 : Int) (v6 : Int) (g1 : rng v1) (g2 : rng v2) (g4 : rng v4) (g5 : rng v5) (g6 : rng v6), K187 σ v1 v2 v4 v5 v6 → RG σ → Shp ra jx rm σ → JJ p l e R s m args below meth c 7 D cA A n0 s0 QM σ 187 [(0, .ref rm), (1, .int (i32 v1)), (2, .int (i32 v2)), (4, .int (i32 v4)), (5, .int (i32 v5)), (6, .int (i32 v6))] []) : ∀ (σ : Sg) (v1 : Int) (v2 : Int) (v4 : Int) (v5 : Int) (v6 : Int) (g1 : rng v1) (g2 : rng v2) (g4 : rng v4) (g5 : rng v5) (g6 : rng v6), w_X16_keepPart_187 ra jx rm K65 K187 Q X σ v1 v2 v4 v5 v6 → RG σ → Shp ra jx rm σ → JJ p l e R s m args below meth c 7 D cA A n0 s0 QM σ 187 [(0, .ref rm), (1, .int (i32 v1)), (2, .int (i32 v2)), (4, .int (i32 v4)), (5, .int (i32 v5)), (6, .int (i32 v6))] [] := by
  intro σ v1 v2 v4 v5 v6 g1 g2 g4 g5 g6 h hGσ hS H locs ls hH hl hc
  unfold w_X16_keepPart_187 at h
  refine lv_iload B.1 B.2.1 dX16_keepPart_187 (lv_at hl 5 rfl) ?_
  refine lv_bipush (v := i32 8) B.1 B.2.1 dX16_keepPart_189 (by decide) ?_
  refine lv_icmp_ge (tgt := 226) B.1 B.2.1 dX16_keepPart_191 (by decide) (fun h9 => ?_) (fun h9 => ?_)
  · rw [if_pos ((i32_le (by unfold rng; omega) g6).mp h9)] at h
    exact a_X16_keepPart_226 B hT hR hFr hLw hQ hX hK65 _ _ _ _ g1 g2 g4 h hGσ hS _ _ _ hH (lv_sub (l' := [(0, .ref rm), (1, .int (i32 v1)), (2, .int (i32 v2)), (4, .int (i32 v4))]) hl [0, 1, 2, 3] rfl) hc
  · rw [if_neg (fun q => h9 ((i32_le (by unfold rng; omega) g6).mpr q))] at h
    exact a_X16_keepPart_194 B hT hR hFr hLw hQ hX hK65 hK187 _ _ _ _ _ _ g1 g2 g4 g5 g6 h hGσ hS _ _ _ hH (lv_sub (l' := [(0, .ref rm), (1, .int (i32 v1)), (2, .int (i32 v2)), (4, .int (i32 v4)), (5, .int (i32 v5)), (6, .int (i32 v6))]) hl [0, 1, 2, 3, 4, 5] rfl) hc
theorem al_X16_keepPart_187 {p : Program} {l : Launch} {e : Env} {R : Room} {s : State} {m : MethodId} {args : Array Value} {below : List Frame} {meth : Method} {c : Code} {D : va_G} {cA : Nat → ClassId} {tys : List (ClassId × FieldType)} {A : Nat → Prop} {n0 s0 : Nat} {QM : State → Prop} {ra : Nat → Nat} {jx : Nat → Nat → Nat} {rm : Nat} {Q : Sg → Unit → Prop} {X : Sg → String → Prop} (B : Cx p s m args c cX16_keepPart 7 RX16 D cA tys A) (hT : Tys cA tys) (hR : Rm R n0 s0) (hFr : 0 ≤ R.frames) (hLw : 0 ≤ R.locals) (hQ : ∀ (pc : Nat) (ls : Array Slot) (σ : Sg) (H : Heap) (locs : List Loc), decode cX16_keepPart pc = .ok (.return_, 1) → Hd D cA A s σ H locs → CB n0 s0 σ → Q σ () → RG σ → Shp ra jx rm σ → W p l e R s m args below meth c H locs (gc σ - n0) (gs σ - s0) QM (F0 m pc ls [])) (hX : ∀ (σ : Sg) (E : String) (pc : Nat) (lo : List (Nat × Value)) (st : List Value), X σ E → RG σ → Shp ra jx rm σ → JX p l e R s m args below meth c 7 D cA A n0 s0 QM σ E pc lo st) {K65 : Sg → Int → Int → Int → Prop} (hK65 : ∀ (σ : Sg) (v1 : Int) (v2 : Int) (v4 : Int) (g1 : rng v1) (g2 : rng v2) (g4 : rng v4), K65 σ v1 v2 v4 → RG σ → Shp ra jx rm σ → JJ p l e R s m args below meth c 7 D cA A n0 s0 QM σ 65 [(0, .ref rm), (1, .int (i32 v1)), (2, .int (i32 v2)), (4, .int (i32 v4))] []) : ∀ (n : Nat), ∀ (σ : Sg) (v1 : Int) (v2 : Int) (v4 : Int) (v5 : Int) (v6 : Int) (g1 : rng v1) (g2 : rng v2) (g4 : rng v4) (g5 : rng v5) (g6 : rng v6), wl_X16_keepPart_187 ra jx rm K65 Q X n σ v1 v2 v4 v5 v6 → RG σ → Shp ra jx rm σ → JJ p l e R s m args below meth c 7 D cA A n0 s0 QM σ 187 [(0, .ref rm), (1, .int (i32 v1)), (2, .int (i32 v2)), (4, .int (i32 v4)), (5, .int (i32 v5)), (6, .int (i32 v6))] [] := by
  intro n
  induction n with
  | zero => intro σ v1 v2 v4 v5 v6 g1 g2 g4 g5 g6 h; exact h.elim
  | succ n ih => exact fun σ v1 v2 v4 v5 v6 g1 g2 g4 g5 g6 h => a_X16_keepPart_187 B hT hR hFr hLw hQ hX hK65 ih σ v1 v2 v4 v5 v6 g1 g2 g4 g5 g6 h
set_option maxRecDepth 20000 in
theorem a_X16_keepPart_71 {p : Program} {l : Launch} {e : Env} {R : Room} {s : State} {m : MethodId} {args : Array Value} {below : List Frame} {meth : Method} {c : Code} {D : va_G} {cA : Nat → ClassId} {tys : List (ClassId × FieldType)} {A : Nat → Prop} {n0 s0 : Nat} {QM : State → Prop} {ra : Nat → Nat} {jx : Nat → Nat → Nat} {rm : Nat} {Q : Sg → Unit → Prop} {X : Sg → String → Prop} (B : Cx p s m args c cX16_keepPart 7 RX16 D cA tys A) (hT : Tys cA tys) (hR : Rm R n0 s0) (hFr : 0 ≤ R.frames) (hLw : 0 ≤ R.locals) (hQ : ∀ (pc : Nat) (ls : Array Slot) (σ : Sg) (H : Heap) (locs : List Loc), decode cX16_keepPart pc = .ok (.return_, 1) → Hd D cA A s σ H locs → CB n0 s0 σ → Q σ () → RG σ → Shp ra jx rm σ → W p l e R s m args below meth c H locs (gc σ - n0) (gs σ - s0) QM (F0 m pc ls [])) (hX : ∀ (σ : Sg) (E : String) (pc : Nat) (lo : List (Nat × Value)) (st : List Value), X σ E → RG σ → Shp ra jx rm σ → JX p l e R s m args below meth c 7 D cA A n0 s0 QM σ E pc lo st) {K65 : Sg → Int → Int → Int → Prop} (hK65 : ∀ (σ : Sg) (v1 : Int) (v2 : Int) (v4 : Int) (g1 : rng v1) (g2 : rng v2) (g4 : rng v4), K65 σ v1 v2 v4 → RG σ → Shp ra jx rm σ → JJ p l e R s m args below meth c 7 D cA A n0 s0 QM σ 65 [(0, .ref rm), (1, .int (i32 v1)), (2, .int (i32 v2)), (4, .int (i32 v4))] []) : ∀ (σ : Sg) (v1 : Int) (v2 : Int) (v4 : Int) (g1 : rng v1) (g2 : rng v2) (g4 : rng v4), w_X16_keepPart_71 ra jx rm K65 Q X σ v1 v2 v4 → RG σ → Shp ra jx rm σ → JJ p l e R s m args below meth c 7 D cA A n0 s0 QM σ 71 [(0, .ref rm), (1, .int (i32 v1)), (2, .int (i32 v2)), (4, .int (i32 v4))] [] := by
  intro σ v1 v2 v4 g1 g2 g4 h hGσ hS H locs ls hH hl hc
  unfold w_X16_keepPart_71 at h
  refine lv_sipush (v := i32 4000) B.1 B.2.1 dX16_keepPart_71 (by decide) ?_
  refine lv_aload_n B.1 B.2.1 dX16_keepPart_74 rfl (lv_at hl 0 rfl) ?_
  refine r_arr B hH hS 98 (kd := 100) (n := 2) (by decide) (by decide) wf_X16_703 rfl (by decide) dX16_keepPart_75 ?_
  refine lv_iconst (v := i32 1) B.1 B.2.1 dX16_keepPart_78 (by decide) ?_
  refine r_iald B hT hH hS 98 (n := 2) (by decide) (by decide) (by decide) dX16_keepPart_79 ?_
  obtain ⟨q1, h⟩ := h
  refine lv_iadd B.1 B.2.1 dX16_keepPart_80 ?_
  rw [i32_add]
  refine lv_istore (lv' := [(5, .int (i32 (4000 + (gI σ (ra 98) 1)))), (0, .ref rm), (1, .int (i32 v1)), (2, .int (i32 v2)), (4, .int (i32 v4))]) B.1 B.2.1 dX16_keepPart_81 hl (by decide) rfl (fun ls hl => ?_)
  refine lv_aload_n B.1 B.2.1 dX16_keepPart_83 rfl (lv_at hl 1 rfl) ?_
  refine r_arr B hH hS 98 (kd := 100) (n := 2) (by decide) (by decide) wf_X16_703 rfl (by decide) dX16_keepPart_84 ?_
  refine lv_iconst (v := i32 1) B.1 B.2.1 dX16_keepPart_87 (by decide) ?_
  refine lv_dup2_11 B.1 B.2.1 dX16_keepPart_88 rfl rfl ?_
  refine r_iald B hT hH hS 98 (n := 2) (by decide) (by decide) (by decide) dX16_keepPart_89 ?_
  refine lv_iconst (v := i32 1) B.1 B.2.1 dX16_keepPart_90 (by decide) ?_
  obtain ⟨q2, h⟩ := h
  refine lv_iadd B.1 B.2.1 dX16_keepPart_91 ?_
  rw [i32_add]
  obtain ⟨σ29, eσ29⟩ : ∃ z, z = pI σ (ra 98) 1 ((gI σ (ra 98) 1) + 1) := ⟨_, rfl⟩
  have h := h σ29 eσ29
  refine r_iast B hT hH hS 98 (n := 2) (by decide) (by decide) (by decide) dX16_keepPart_92 (fun H locs hH => ?_)
  have hH : Hd D cA A s (pI σ (ra 98) 1 ((gI σ (ra 98) 1) + 1)) H locs := hH
  rw [← eσ29] at hH
  have hGσ29 : RG σ29 := by rw [eσ29]; exact hGσ.pI q2
  have hS : Shp ra jx rm σ29 := by rw [eσ29]; exact hS
  have hc : CB n0 s0 σ29 := by rw [eσ29]; exact hc
  rw [show gc σ = gc σ29 by rw [eσ29], show gs σ = gs σ29 by rw [eσ29]]
  refine lv_aload_n B.1 B.2.1 dX16_keepPart_93 rfl (lv_at hl 1 rfl) ?_
  refine r_arr B hH hS 99 (kd := 100) (n := 8000) (by decide) (by decide) wf_X16_706 rfl (by decide) dX16_keepPart_94 ?_
  refine lv_iload B.1 B.2.1 dX16_keepPart_97 (lv_at hl 0 rfl) ?_
  refine lv_aload_n B.1 B.2.1 dX16_keepPart_99 rfl (lv_at hl 1 rfl) ?_
  refine r_arr B hH hS 68 (kd := 100) (n := 4000) (by decide) (by decide) wf_X16_513 rfl (by decide) dX16_keepPart_100 ?_
  refine lv_iload B.1 B.2.1 dX16_keepPart_103 (lv_at hl 4 rfl) ?_
  obtain ⟨q3, h⟩ := h
  refine r_iald B hT hH hS 68 (n := 4000) (by decide) (by decide) q3 dX16_keepPart_105 ?_
  obtain ⟨q4, h⟩ := h
  obtain ⟨σ30, eσ30⟩ : ∃ z, z = pI σ29 (ra 99) (4000 + (gI σ (ra 98) 1)).toNat (gI σ29 (ra 68) v4.toNat) := ⟨_, rfl⟩
  have h := h σ30 eσ30
  refine r_iast B hT hH hS 99 (n := 8000) (by decide) (by decide) q4 dX16_keepPart_106 (fun H locs hH => ?_)
  have hH : Hd D cA A s (pI σ29 (ra 99) (4000 + (gI σ (ra 98) 1)).toNat (gI σ29 (ra 68) v4.toNat)) H locs := hH
  rw [← eσ30] at hH
  have hGσ30 : RG σ30 := by rw [eσ30]; exact hGσ29.pI (hGσ29 _ _)
  have hS : Shp ra jx rm σ30 := by rw [eσ30]; exact hS
  have hc : CB n0 s0 σ30 := by rw [eσ30]; exact hc
  rw [show gc σ29 = gc σ30 by rw [eσ30], show gs σ29 = gs σ30 by rw [eσ30]]
  refine lv_aload_n B.1 B.2.1 dX16_keepPart_107 rfl (lv_at hl 1 rfl) ?_
  refine r_arr B hH hS 100 (kd := 100) (n := 8000) (by decide) (by decide) wf_X16_709 rfl (by decide) dX16_keepPart_108 ?_
  refine lv_iload B.1 B.2.1 dX16_keepPart_111 (lv_at hl 0 rfl) ?_
  refine lv_iload_n B.1 B.2.1 dX16_keepPart_113 rfl (lv_at hl 3 rfl) ?_
  obtain ⟨q5, h⟩ := h
  obtain ⟨σ31, eσ31⟩ : ∃ z, z = pI σ30 (ra 100) (4000 + (gI σ (ra 98) 1)).toNat v2 := ⟨_, rfl⟩
  have h := h σ31 eσ31
  refine r_iast B hT hH hS 100 (n := 8000) (by decide) (by decide) q5 dX16_keepPart_114 (fun H locs hH => ?_)
  have hH : Hd D cA A s (pI σ30 (ra 100) (4000 + (gI σ (ra 98) 1)).toNat v2) H locs := hH
  rw [← eσ31] at hH
  have hGσ31 : RG σ31 := by rw [eσ31]; exact hGσ30.pI g2
  have hS : Shp ra jx rm σ31 := by rw [eσ31]; exact hS
  have hc : CB n0 s0 σ31 := by rw [eσ31]; exact hc
  rw [show gc σ30 = gc σ31 by rw [eσ31], show gs σ30 = gs σ31 by rw [eσ31]]
  refine lv_aload_n B.1 B.2.1 dX16_keepPart_115 rfl (lv_at hl 1 rfl) ?_
  refine r_arr B hH hS 101 (kd := 100) (n := 8000) (by decide) (by decide) wf_X16_712 rfl (by decide) dX16_keepPart_116 ?_
  refine lv_iload B.1 B.2.1 dX16_keepPart_119 (lv_at hl 0 rfl) ?_
  refine lv_aload_n B.1 B.2.1 dX16_keepPart_121 rfl (lv_at hl 1 rfl) ?_
  refine r_arr B hH hS 39 (kd := 100) (n := 64) (by decide) (by decide) wf_X16_396 rfl (by decide) dX16_keepPart_122 ?_
  refine lv_iload_n B.1 B.2.1 dX16_keepPart_125 rfl (lv_at hl 2 rfl) ?_
  obtain ⟨q6, h⟩ := h
  refine r_iald B hT hH hS 39 (n := 64) (by decide) (by decide) q6 dX16_keepPart_126 ?_
  obtain ⟨q7, h⟩ := h
  obtain ⟨σ32, eσ32⟩ : ∃ z, z = pI σ31 (ra 101) (4000 + (gI σ (ra 98) 1)).toNat (gI σ31 (ra 39) v1.toNat) := ⟨_, rfl⟩
  have h := h σ32 eσ32
  refine r_iast B hT hH hS 101 (n := 8000) (by decide) (by decide) q7 dX16_keepPart_127 (fun H locs hH => ?_)
  have hH : Hd D cA A s (pI σ31 (ra 101) (4000 + (gI σ (ra 98) 1)).toNat (gI σ31 (ra 39) v1.toNat)) H locs := hH
  rw [← eσ32] at hH
  have hGσ32 : RG σ32 := by rw [eσ32]; exact hGσ31.pI (hGσ31 _ _)
  have hS : Shp ra jx rm σ32 := by rw [eσ32]; exact hS
  have hc : CB n0 s0 σ32 := by rw [eσ32]; exact hc
  rw [show gc σ31 = gc σ32 by rw [eσ32], show gs σ31 = gs σ32 by rw [eσ32]]
  refine lv_aload_n B.1 B.2.1 dX16_keepPart_128 rfl (lv_at hl 1 rfl) ?_
  refine r_arr B hH hS 102 (kd := 101) (n := 8000) (by decide) (by decide) wf_X16_715 rfl (by decide) dX16_keepPart_129 ?_
  refine lv_iload B.1 B.2.1 dX16_keepPart_132 (lv_at hl 0 rfl) ?_
  refine lv_aload_n B.1 B.2.1 dX16_keepPart_134 rfl (lv_at hl 1 rfl) ?_
  refine r_arr B hH hS 70 (kd := 101) (n := 4000) (by decide) (by decide) wf_X16_519 rfl (by decide) dX16_keepPart_135 ?_
  refine lv_iload B.1 B.2.1 dX16_keepPart_138 (lv_at hl 4 rfl) ?_
  obtain ⟨q8, h⟩ := h
  refine r_lald B hT hH hS 70 (n := 4000) (by decide) (by decide) q8 dX16_keepPart_140 ?_
  obtain ⟨q9, h⟩ := h
  obtain ⟨σ33, eσ33⟩ : ∃ z, z = pJ σ32 (ra 102) (4000 + (gI σ (ra 98) 1)).toNat (gJ σ32 (ra 70) v4.toNat) := ⟨_, rfl⟩
  have h := h σ33 eσ33
  refine r_last B hT hH hS 102 (n := 8000) (by decide) (by decide) q9 dX16_keepPart_141 (fun H locs hH => ?_)
  have hH : Hd D cA A s (pJ σ32 (ra 102) (4000 + (gI σ (ra 98) 1)).toNat (gJ σ32 (ra 70) v4.toNat)) H locs := hH
  rw [← eσ33] at hH
  have hGσ33 : RG σ33 := by rw [eσ33]; exact hGσ32.pJ
  have hS : Shp ra jx rm σ33 := by rw [eσ33]; exact hS
  have hc : CB n0 s0 σ33 := by rw [eσ33]; exact hc
  rw [show gc σ32 = gc σ33 by rw [eσ33], show gs σ32 = gs σ33 by rw [eσ33]]
  refine lv_aload_n B.1 B.2.1 dX16_keepPart_142 rfl (lv_at hl 1 rfl) ?_
  refine r_arr B hH hS 103 (kd := 101) (n := 8000) (by decide) (by decide) wf_X16_718 rfl (by decide) dX16_keepPart_143 ?_
  refine lv_iload B.1 B.2.1 dX16_keepPart_146 (lv_at hl 0 rfl) ?_
  refine lv_aload_n B.1 B.2.1 dX16_keepPart_148 rfl (lv_at hl 1 rfl) ?_
  refine r_arr B hH hS 71 (kd := 101) (n := 4000) (by decide) (by decide) wf_X16_522 rfl (by decide) dX16_keepPart_149 ?_
  refine lv_iload B.1 B.2.1 dX16_keepPart_152 (lv_at hl 4 rfl) ?_
  obtain ⟨q10, h⟩ := h
  refine r_lald B hT hH hS 71 (n := 4000) (by decide) (by decide) q10 dX16_keepPart_154 ?_
  obtain ⟨q11, h⟩ := h
  obtain ⟨σ34, eσ34⟩ : ∃ z, z = pJ σ33 (ra 103) (4000 + (gI σ (ra 98) 1)).toNat (gJ σ33 (ra 71) v4.toNat) := ⟨_, rfl⟩
  have h := h σ34 eσ34
  refine r_last B hT hH hS 103 (n := 8000) (by decide) (by decide) q11 dX16_keepPart_155 (fun H locs hH => ?_)
  have hH : Hd D cA A s (pJ σ33 (ra 103) (4000 + (gI σ (ra 98) 1)).toNat (gJ σ33 (ra 71) v4.toNat)) H locs := hH
  rw [← eσ34] at hH
  have hGσ34 : RG σ34 := by rw [eσ34]; exact hGσ33.pJ
  have hS : Shp ra jx rm σ34 := by rw [eσ34]; exact hS
  have hc : CB n0 s0 σ34 := by rw [eσ34]; exact hc
  rw [show gc σ33 = gc σ34 by rw [eσ34], show gs σ33 = gs σ34 by rw [eσ34]]
  refine lv_aload_n B.1 B.2.1 dX16_keepPart_156 rfl (lv_at hl 1 rfl) ?_
  refine r_arr B hH hS 104 (kd := 101) (n := 8000) (by decide) (by decide) wf_X16_721 rfl (by decide) dX16_keepPart_157 ?_
  refine lv_iload B.1 B.2.1 dX16_keepPart_160 (lv_at hl 0 rfl) ?_
  refine lv_aload_n B.1 B.2.1 dX16_keepPart_162 rfl (lv_at hl 1 rfl) ?_
  refine r_arr B hH hS 72 (kd := 101) (n := 4000) (by decide) (by decide) wf_X16_525 rfl (by decide) dX16_keepPart_163 ?_
  refine lv_iload B.1 B.2.1 dX16_keepPart_166 (lv_at hl 4 rfl) ?_
  obtain ⟨q12, h⟩ := h
  refine r_lald B hT hH hS 72 (n := 4000) (by decide) (by decide) q12 dX16_keepPart_168 ?_
  obtain ⟨q13, h⟩ := h
  obtain ⟨σ35, eσ35⟩ : ∃ z, z = pJ σ34 (ra 104) (4000 + (gI σ (ra 98) 1)).toNat (gJ σ34 (ra 72) v4.toNat) := ⟨_, rfl⟩
  have h := h σ35 eσ35
  refine r_last B hT hH hS 104 (n := 8000) (by decide) (by decide) q13 dX16_keepPart_169 (fun H locs hH => ?_)
  have hH : Hd D cA A s (pJ σ34 (ra 104) (4000 + (gI σ (ra 98) 1)).toNat (gJ σ34 (ra 72) v4.toNat)) H locs := hH
  rw [← eσ35] at hH
  have hGσ35 : RG σ35 := by rw [eσ35]; exact hGσ34.pJ
  have hS : Shp ra jx rm σ35 := by rw [eσ35]; exact hS
  have hc : CB n0 s0 σ35 := by rw [eσ35]; exact hc
  rw [show gc σ34 = gc σ35 by rw [eσ35], show gs σ34 = gs σ35 by rw [eσ35]]
  refine lv_aload_n B.1 B.2.1 dX16_keepPart_170 rfl (lv_at hl 1 rfl) ?_
  refine r_arr B hH hS 106 (kd := 100) (n := 8000) (by decide) (by decide) wf_X16_724 rfl (by decide) dX16_keepPart_171 ?_
  refine lv_iload B.1 B.2.1 dX16_keepPart_174 (lv_at hl 0 rfl) ?_
  refine lv_aload_n B.1 B.2.1 dX16_keepPart_176 rfl (lv_at hl 1 rfl) ?_
  refine r_arr B hH hS 74 (kd := 100) (n := 4000) (by decide) (by decide) wf_X16_531 rfl (by decide) dX16_keepPart_177 ?_
  refine lv_iload B.1 B.2.1 dX16_keepPart_180 (lv_at hl 4 rfl) ?_
  obtain ⟨q14, h⟩ := h
  refine r_iald B hT hH hS 74 (n := 4000) (by decide) (by decide) q14 dX16_keepPart_182 ?_
  obtain ⟨q15, h⟩ := h
  obtain ⟨σ36, eσ36⟩ : ∃ z, z = pI σ35 (ra 106) (4000 + (gI σ (ra 98) 1)).toNat (gI σ35 (ra 74) v4.toNat) := ⟨_, rfl⟩
  have h := h σ36 eσ36
  refine r_iast B hT hH hS 106 (n := 8000) (by decide) (by decide) q15 dX16_keepPart_183 (fun H locs hH => ?_)
  have hH : Hd D cA A s (pI σ35 (ra 106) (4000 + (gI σ (ra 98) 1)).toNat (gI σ35 (ra 74) v4.toNat)) H locs := hH
  rw [← eσ36] at hH
  have hGσ36 : RG σ36 := by rw [eσ36]; exact hGσ35.pI (hGσ35 _ _)
  have hS : Shp ra jx rm σ36 := by rw [eσ36]; exact hS
  have hc : CB n0 s0 σ36 := by rw [eσ36]; exact hc
  rw [show gc σ35 = gc σ36 by rw [eσ36], show gs σ35 = gs σ36 by rw [eσ36]]
  refine lv_iconst (v := i32 0) B.1 B.2.1 dX16_keepPart_184 (by decide) ?_
  refine lv_istore (lv' := [(6, .int (i32 0)), (5, .int (i32 (4000 + (gI σ (ra 98) 1)))), (0, .ref rm), (1, .int (i32 v1)), (2, .int (i32 v2)), (4, .int (i32 v4))]) B.1 B.2.1 dX16_keepPart_185 hl (by decide) rfl (fun ls hl => ?_)
  obtain ⟨n9, h⟩ := h
  exact al_X16_keepPart_187 B hT hR hFr hLw hQ hX hK65 n9 _ _ _ _ _ _ g1 g2 g4 q1 (by unfold rng; omega) h hGσ36 hS _ _ _ hH (lv_sub (l' := [(0, .ref rm), (1, .int (i32 v1)), (2, .int (i32 v2)), (4, .int (i32 v4)), (5, .int (i32 (4000 + (gI σ (ra 98) 1)))), (6, .int (i32 0))]) hl [2, 3, 4, 5, 1, 0] rfl) hc
set_option maxRecDepth 20000 in
theorem a_X16_keepPart_65 {p : Program} {l : Launch} {e : Env} {R : Room} {s : State} {m : MethodId} {args : Array Value} {below : List Frame} {meth : Method} {c : Code} {D : va_G} {cA : Nat → ClassId} {tys : List (ClassId × FieldType)} {A : Nat → Prop} {n0 s0 : Nat} {QM : State → Prop} {ra : Nat → Nat} {jx : Nat → Nat → Nat} {rm : Nat} {Q : Sg → Unit → Prop} {X : Sg → String → Prop} (B : Cx p s m args c cX16_keepPart 7 RX16 D cA tys A) (hT : Tys cA tys) (hR : Rm R n0 s0) (hFr : 0 ≤ R.frames) (hLw : 0 ≤ R.locals) (hQ : ∀ (pc : Nat) (ls : Array Slot) (σ : Sg) (H : Heap) (locs : List Loc), decode cX16_keepPart pc = .ok (.return_, 1) → Hd D cA A s σ H locs → CB n0 s0 σ → Q σ () → RG σ → Shp ra jx rm σ → W p l e R s m args below meth c H locs (gc σ - n0) (gs σ - s0) QM (F0 m pc ls [])) (hX : ∀ (σ : Sg) (E : String) (pc : Nat) (lo : List (Nat × Value)) (st : List Value), X σ E → RG σ → Shp ra jx rm σ → JX p l e R s m args below meth c 7 D cA A n0 s0 QM σ E pc lo st) {K65 : Sg → Int → Int → Int → Prop} (hK65 : ∀ (σ : Sg) (v1 : Int) (v2 : Int) (v4 : Int) (g1 : rng v1) (g2 : rng v2) (g4 : rng v4), K65 σ v1 v2 v4 → RG σ → Shp ra jx rm σ → JJ p l e R s m args below meth c 7 D cA A n0 s0 QM σ 65 [(0, .ref rm), (1, .int (i32 v1)), (2, .int (i32 v2)), (4, .int (i32 v4))] []) : ∀ (σ : Sg) (v1 : Int) (v2 : Int) (v4 : Int) (g1 : rng v1) (g2 : rng v2) (g4 : rng v4), w_X16_keepPart_65 ra jx rm K65 Q X σ v1 v2 v4 → RG σ → Shp ra jx rm σ → JJ p l e R s m args below meth c 7 D cA A n0 s0 QM σ 65 [(0, .ref rm), (1, .int (i32 v1)), (2, .int (i32 v2)), (4, .int (i32 v4))] [] := by
  intro σ v1 v2 v4 g1 g2 g4 h hGσ hS H locs ls hH hl hc
  unfold w_X16_keepPart_65 at h
  refine lv_iload B.1 B.2.1 dX16_keepPart_65 (lv_at hl 3 rfl) ?_
  refine lv_iconst (v := i32 (-1)) B.1 B.2.1 dX16_keepPart_67 (by decide) ?_
  refine lv_icmp_eq (tgt := 238) B.1 B.2.1 dX16_keepPart_68 (by decide) (fun h9 => ?_) (fun h9 => ?_)
  · rw [if_pos ((i32_eq g4 (by unfold rng; omega)).mp h9)] at h
    exact a_X16_keepPart_238 B hT hR hFr hLw hQ hX _ _ g1 h hGσ hS _ _ _ hH (lv_sub (l' := [(0, .ref rm), (1, .int (i32 v1))]) hl [0, 1] rfl) hc
  · rw [if_neg (fun q => h9 ((i32_eq g4 (by unfold rng; omega)).mpr q))] at h
    exact a_X16_keepPart_71 B hT hR hFr hLw hQ hX hK65 _ _ _ _ g1 g2 g4 h hGσ hS _ _ _ hH (lv_sub (l' := [(0, .ref rm), (1, .int (i32 v1)), (2, .int (i32 v2)), (4, .int (i32 v4))]) hl [0, 1, 2, 3] rfl) hc
theorem al_X16_keepPart_65 {p : Program} {l : Launch} {e : Env} {R : Room} {s : State} {m : MethodId} {args : Array Value} {below : List Frame} {meth : Method} {c : Code} {D : va_G} {cA : Nat → ClassId} {tys : List (ClassId × FieldType)} {A : Nat → Prop} {n0 s0 : Nat} {QM : State → Prop} {ra : Nat → Nat} {jx : Nat → Nat → Nat} {rm : Nat} {Q : Sg → Unit → Prop} {X : Sg → String → Prop} (B : Cx p s m args c cX16_keepPart 7 RX16 D cA tys A) (hT : Tys cA tys) (hR : Rm R n0 s0) (hFr : 0 ≤ R.frames) (hLw : 0 ≤ R.locals) (hQ : ∀ (pc : Nat) (ls : Array Slot) (σ : Sg) (H : Heap) (locs : List Loc), decode cX16_keepPart pc = .ok (.return_, 1) → Hd D cA A s σ H locs → CB n0 s0 σ → Q σ () → RG σ → Shp ra jx rm σ → W p l e R s m args below meth c H locs (gc σ - n0) (gs σ - s0) QM (F0 m pc ls [])) (hX : ∀ (σ : Sg) (E : String) (pc : Nat) (lo : List (Nat × Value)) (st : List Value), X σ E → RG σ → Shp ra jx rm σ → JX p l e R s m args below meth c 7 D cA A n0 s0 QM σ E pc lo st) : ∀ (n : Nat), ∀ (σ : Sg) (v1 : Int) (v2 : Int) (v4 : Int) (g1 : rng v1) (g2 : rng v2) (g4 : rng v4), wl_X16_keepPart_65 ra jx rm Q X n σ v1 v2 v4 → RG σ → Shp ra jx rm σ → JJ p l e R s m args below meth c 7 D cA A n0 s0 QM σ 65 [(0, .ref rm), (1, .int (i32 v1)), (2, .int (i32 v2)), (4, .int (i32 v4))] [] := by
  intro n
  induction n with
  | zero => intro σ v1 v2 v4 g1 g2 g4 h; exact h.elim
  | succ n ih => exact fun σ v1 v2 v4 g1 g2 g4 h => a_X16_keepPart_65 B hT hR hFr hLw hQ hX ih σ v1 v2 v4 g1 g2 g4 h
set_option maxRecDepth 20000 in
theorem a_X16_keepPart_0 {p : Program} {l : Launch} {e : Env} {R : Room} {s : State} {m : MethodId} {args : Array Value} {below : List Frame} {meth : Method} {c : Code} {D : va_G} {cA : Nat → ClassId} {tys : List (ClassId × FieldType)} {A : Nat → Prop} {n0 s0 : Nat} {QM : State → Prop} {ra : Nat → Nat} {jx : Nat → Nat → Nat} {rm : Nat} {Q : Sg → Unit → Prop} {X : Sg → String → Prop} (B : Cx p s m args c cX16_keepPart 7 RX16 D cA tys A) (hT : Tys cA tys) (hR : Rm R n0 s0) (hFr : 0 ≤ R.frames) (hLw : 0 ≤ R.locals) (hQ : ∀ (pc : Nat) (ls : Array Slot) (σ : Sg) (H : Heap) (locs : List Loc), decode cX16_keepPart pc = .ok (.return_, 1) → Hd D cA A s σ H locs → CB n0 s0 σ → Q σ () → RG σ → Shp ra jx rm σ → W p l e R s m args below meth c H locs (gc σ - n0) (gs σ - s0) QM (F0 m pc ls [])) (hX : ∀ (σ : Sg) (E : String) (pc : Nat) (lo : List (Nat × Value)) (st : List Value), X σ E → RG σ → Shp ra jx rm σ → JX p l e R s m args below meth c 7 D cA A n0 s0 QM σ E pc lo st) : ∀ (σ : Sg) (v1 : Int) (g1 : rng v1), w_X16_keepPart_0 ra jx rm Q X σ v1 → RG σ → Shp ra jx rm σ → JJ p l e R s m args below meth c 7 D cA A n0 s0 QM σ 0 [(0, .ref rm), (1, .int (i32 v1))] [] := by
  intro σ v1 g1 h hGσ hS H locs ls hH hl hc
  unfold w_X16_keepPart_0 at h
  refine lv_aload_n B.1 B.2.1 dX16_keepPart_0 rfl (lv_at hl 0 rfl) ?_
  refine r_arr B hH hS 38 (kd := 100) (n := 64) (by decide) (by decide) wf_X16_380 rfl (by decide) dX16_keepPart_1 ?_
  refine lv_iload_n B.1 B.2.1 dX16_keepPart_4 rfl (lv_at hl 1 rfl) ?_
  obtain ⟨q1, h⟩ := h
  refine r_iald B hT hH hS 38 (n := 64) (by decide) (by decide) q1 dX16_keepPart_5 ?_
  refine lv_istore_n (lv' := [(2, .int (i32 (gI σ (ra 38) v1.toNat))), (0, .ref rm), (1, .int (i32 v1))]) B.1 B.2.1 dX16_keepPart_6 rfl hl (by decide) rfl (fun ls hl => ?_)
  refine lv_bipush (v := i32 64) B.1 B.2.1 dX16_keepPart_7 (by decide) ?_
  refine lv_iconst (v := i32 4) B.1 B.2.1 dX16_keepPart_9 (by decide) ?_
  refine lv_iload_n B.1 B.2.1 dX16_keepPart_10 rfl (lv_at hl 0 rfl) ?_
  obtain ⟨q2, h⟩ := h
  refine lv_imul B.1 B.2.1 dX16_keepPart_11 ?_
  rw [i32_mul]
  obtain ⟨q3, h⟩ := h
  refine lv_iadd B.1 B.2.1 dX16_keepPart_12 ?_
  rw [i32_add]
  refine lv_aload_n B.1 B.2.1 dX16_keepPart_13 rfl (lv_at hl 1 rfl) ?_
  refine r_arr B hH hS 39 (kd := 100) (n := 64) (by decide) (by decide) wf_X16_396 rfl (by decide) dX16_keepPart_14 ?_
  refine lv_iload_n B.1 B.2.1 dX16_keepPart_17 rfl (lv_at hl 2 rfl) ?_
  obtain ⟨q4, h⟩ := h
  refine r_iald B hT hH hS 39 (n := 64) (by decide) (by decide) q4 dX16_keepPart_18 ?_
  obtain ⟨q5, h⟩ := h
  refine lv_iadd B.1 B.2.1 dX16_keepPart_19 ?_
  rw [i32_add]
  refine lv_istore_n (lv' := [(3, .int (i32 ((64 + (4 * (gI σ (ra 38) v1.toNat))) + (gI σ (ra 39) v1.toNat)))), (2, .int (i32 (gI σ (ra 38) v1.toNat))), (0, .ref rm), (1, .int (i32 v1))]) B.1 B.2.1 dX16_keepPart_20 rfl hl (by decide) rfl (fun ls hl => ?_)
  refine lv_aload_n B.1 B.2.1 dX16_keepPart_21 rfl (lv_at hl 2 rfl) ?_
  refine r_arr B hH hS 107 (kd := 100) (n := 128) (by decide) (by decide) wf_X16_694 rfl (by decide) dX16_keepPart_22 ?_
  refine lv_iload_n B.1 B.2.1 dX16_keepPart_25 rfl (lv_at hl 0 rfl) ?_
  refine lv_aload_n B.1 B.2.1 dX16_keepPart_26 rfl (lv_at hl 2 rfl) ?_
  refine r_arr B hH hS 42 (kd := 100) (n := 64) (by decide) (by decide) wf_X16_422 rfl (by decide) dX16_keepPart_27 ?_
  refine lv_iload_n B.1 B.2.1 dX16_keepPart_30 rfl (lv_at hl 3 rfl) ?_
  obtain ⟨q6, h⟩ := h
  refine r_iald B hT hH hS 42 (n := 64) (by decide) (by decide) q6 dX16_keepPart_31 ?_
  obtain ⟨q7, h⟩ := h
  obtain ⟨σ37, eσ37⟩ : ∃ z, z = pI σ (ra 107) ((64 + (4 * (gI σ (ra 38) v1.toNat))) + (gI σ (ra 39) v1.toNat)).toNat (gI σ (ra 42) v1.toNat) := ⟨_, rfl⟩
  have h := h σ37 eσ37
  refine r_iast B hT hH hS 107 (n := 128) (by decide) (by decide) q7 dX16_keepPart_32 (fun H locs hH => ?_)
  have hH : Hd D cA A s (pI σ (ra 107) ((64 + (4 * (gI σ (ra 38) v1.toNat))) + (gI σ (ra 39) v1.toNat)).toNat (gI σ (ra 42) v1.toNat)) H locs := hH
  rw [← eσ37] at hH
  have hGσ37 : RG σ37 := by rw [eσ37]; exact hGσ.pI (hGσ _ _)
  have hS : Shp ra jx rm σ37 := by rw [eσ37]; exact hS
  have hc : CB n0 s0 σ37 := by rw [eσ37]; exact hc
  rw [show gc σ = gc σ37 by rw [eσ37], show gs σ = gs σ37 by rw [eσ37]]
  refine lv_aload_n B.1 B.2.1 dX16_keepPart_33 rfl (lv_at hl 2 rfl) ?_
  refine r_arr B hH hS 108 (kd := 100) (n := 128) (by decide) (by decide) wf_X16_697 rfl (by decide) dX16_keepPart_34 ?_
  refine lv_iload_n B.1 B.2.1 dX16_keepPart_37 rfl (lv_at hl 0 rfl) ?_
  refine lv_aload_n B.1 B.2.1 dX16_keepPart_38 rfl (lv_at hl 2 rfl) ?_
  refine r_arr B hH hS 43 (kd := 100) (n := 64) (by decide) (by decide) wf_X16_425 rfl (by decide) dX16_keepPart_39 ?_
  refine lv_iload_n B.1 B.2.1 dX16_keepPart_42 rfl (lv_at hl 3 rfl) ?_
  obtain ⟨q8, h⟩ := h
  refine r_iald B hT hH hS 43 (n := 64) (by decide) (by decide) q8 dX16_keepPart_43 ?_
  obtain ⟨q9, h⟩ := h
  obtain ⟨σ38, eσ38⟩ : ∃ z, z = pI σ37 (ra 108) ((64 + (4 * (gI σ (ra 38) v1.toNat))) + (gI σ (ra 39) v1.toNat)).toNat (gI σ37 (ra 43) v1.toNat) := ⟨_, rfl⟩
  have h := h σ38 eσ38
  refine r_iast B hT hH hS 108 (n := 128) (by decide) (by decide) q9 dX16_keepPart_44 (fun H locs hH => ?_)
  have hH : Hd D cA A s (pI σ37 (ra 108) ((64 + (4 * (gI σ (ra 38) v1.toNat))) + (gI σ (ra 39) v1.toNat)).toNat (gI σ37 (ra 43) v1.toNat)) H locs := hH
  rw [← eσ38] at hH
  have hGσ38 : RG σ38 := by rw [eσ38]; exact hGσ37.pI (hGσ37 _ _)
  have hS : Shp ra jx rm σ38 := by rw [eσ38]; exact hS
  have hc : CB n0 s0 σ38 := by rw [eσ38]; exact hc
  rw [show gc σ37 = gc σ38 by rw [eσ38], show gs σ37 = gs σ38 by rw [eσ38]]
  refine lv_aload_n B.1 B.2.1 dX16_keepPart_45 rfl (lv_at hl 2 rfl) ?_
  refine r_arr B hH hS 109 (kd := 101) (n := 128) (by decide) (by decide) wf_X16_700 rfl (by decide) dX16_keepPart_46 ?_
  refine lv_iload_n B.1 B.2.1 dX16_keepPart_49 rfl (lv_at hl 0 rfl) ?_
  refine lv_aload_n B.1 B.2.1 dX16_keepPart_50 rfl (lv_at hl 2 rfl) ?_
  refine r_arr B hH hS 40 (kd := 101) (n := 64) (by decide) (by decide) wf_X16_414 rfl (by decide) dX16_keepPart_51 ?_
  refine lv_iload_n B.1 B.2.1 dX16_keepPart_54 rfl (lv_at hl 3 rfl) ?_
  obtain ⟨q10, h⟩ := h
  refine r_lald B hT hH hS 40 (n := 64) (by decide) (by decide) q10 dX16_keepPart_55 ?_
  obtain ⟨q11, h⟩ := h
  obtain ⟨σ39, eσ39⟩ : ∃ z, z = pJ σ38 (ra 109) ((64 + (4 * (gI σ (ra 38) v1.toNat))) + (gI σ (ra 39) v1.toNat)).toNat (gJ σ38 (ra 40) v1.toNat) := ⟨_, rfl⟩
  have h := h σ39 eσ39
  refine r_last B hT hH hS 109 (n := 128) (by decide) (by decide) q11 dX16_keepPart_56 (fun H locs hH => ?_)
  have hH : Hd D cA A s (pJ σ38 (ra 109) ((64 + (4 * (gI σ (ra 38) v1.toNat))) + (gI σ (ra 39) v1.toNat)).toNat (gJ σ38 (ra 40) v1.toNat)) H locs := hH
  rw [← eσ39] at hH
  have hGσ39 : RG σ39 := by rw [eσ39]; exact hGσ38.pJ
  have hS : Shp ra jx rm σ39 := by rw [eσ39]; exact hS
  have hc : CB n0 s0 σ39 := by rw [eσ39]; exact hc
  rw [show gc σ38 = gc σ39 by rw [eσ39], show gs σ38 = gs σ39 by rw [eσ39]]
  refine lv_aload_n B.1 B.2.1 dX16_keepPart_57 rfl (lv_at hl 2 rfl) ?_
  refine r_arr B hH hS 76 (kd := 100) (n := 64) (by decide) (by decide) wf_X16_504 rfl (by decide) dX16_keepPart_58 ?_
  refine lv_iload_n B.1 B.2.1 dX16_keepPart_61 rfl (lv_at hl 3 rfl) ?_
  obtain ⟨q12, h⟩ := h
  refine r_iald B hT hH hS 76 (n := 64) (by decide) (by decide) q12 dX16_keepPart_62 ?_
  refine lv_istore (lv' := [(4, .int (i32 (gI σ39 (ra 76) v1.toNat))), (3, .int (i32 ((64 + (4 * (gI σ (ra 38) v1.toNat))) + (gI σ (ra 39) v1.toNat)))), (2, .int (i32 (gI σ (ra 38) v1.toNat))), (0, .ref rm), (1, .int (i32 v1))]) B.1 B.2.1 dX16_keepPart_63 hl (by decide) rfl (fun ls hl => ?_)
  obtain ⟨n9, h⟩ := h
  exact al_X16_keepPart_65 B hT hR hFr hLw hQ hX n9 _ _ _ _ g1 (hGσ _ _) (hGσ39 _ _) h hGσ39 hS _ _ _ hH (lv_sub (l' := [(0, .ref rm), (1, .int (i32 v1)), (2, .int (i32 (gI σ (ra 38) v1.toNat))), (4, .int (i32 (gI σ39 (ra 76) v1.toNat)))]) hl [3, 4, 2, 0] rfl) hc
theorem ok_X16_keepPart {l : Launch} {D : va_G} {cA : Nat → ClassId} {tys : List (ClassId × FieldType)} {A : Nat → Prop} {ra : Nat → Nat} {jx : Nat → Nat → Nat} {rm : Nat} (hT : Tys cA tys) {Q : Sg → Unit → Prop} {X : Sg → String → Prop} (σ : Sg) (v1 : Int) (g1 : rng v1) (hG : RG σ) (hS : Shp ra jx rm σ) (h : wp_X16_keepPart ra jx rm v1 σ Q X) : Ok l D cA tys A yX16_keepPart (.code yX16_keepPart cX16_keepPart 7 none) 0 0 [.ref rm, .int (i32 v1)] σ (fun σ' w => w = none ∧ Q σ' () ∧ RG σ' ∧ Shp ra jx rm σ') (fun σ' E => X σ' E ∧ RG σ' ∧ Shp ra jx rm σ') := by
  refine ok_of (ret := none) (by decide) (Nat.le_of_ble_eq_true rfl) ?_
  intro p e R s m args below meth c hRR B hr hlocks hex _
  have B : Cx p s m args c cX16_keepPart 7 RX16 D cA tys A := B
  have hR : Rm R (gc σ) (gs σ) := by rw [hRR]; exact ⟨rfl, rfl⟩
  unfold wp_X16_keepPart at h
  intro H locs ls hH hl hc
  have hX : ∀ (σ9 : Sg) (E : String) (pc : Nat) (lo : List (Nat × Value)) (st : List Value), X σ9 E → RG σ9 → Shp ra jx rm σ9 → JX p l e R s m args below meth c 7 D cA A (gc σ) (gs σ) (vx_MQ below (Qw D cA A σ (fun σ' w => w = none ∧ Q σ' () ∧ RG σ' ∧ Shp ra jx rm σ')) (Xw D cA A σ (fun σ' E => X σ' E ∧ RG σ' ∧ Shp ra jx rm σ')) args s (BC - gc σ) (BS - gs σ) A) σ9 E pc lo st := fun σ9 E pc lo st hx hG9 hS9 H locs ls ce q hH hl hc hce hcv hcl => e_out hH hc (fun x hx9 => (hex x hx9).elim) hlocks hce hcv hcl ⟨hx, hG9, hS9⟩
  exact a_X16_keepPart_0 B hT hR (by rw [hRR]; exact Nat.le_refl _) (by rw [hRR]; exact Nat.le_refl _) (fun pc ls σ9 H locs hd hH hc hq hG9 hS9 => e_vret B hH hc hr hlocks ⟨rfl, hq, hG9, hS9⟩ hd) hX σ v1 g1 h hG hS H locs ls hH (lv_sub (l' := [(0, .ref rm), (1, .int (i32 v1))]) hl [0, 1] rfl) hc
theorem dX16_letGo_0 : decode cX16_letGo 0 = .ok (.aload_n 0, 1) := by decide +kernel
theorem dX16_letGo_1 : decode cX16_letGo 1 = .ok (.getfield 661, 3) := by decide +kernel
theorem dX16_letGo_4 : decode cX16_letGo 4 = .ok (.iload_n 1, 1) := by decide +kernel
theorem dX16_letGo_5 : decode cX16_letGo 5 = .ok (.iaload, 1) := by decide +kernel
theorem dX16_letGo_6 : decode cX16_letGo 6 = .ok (.iconst (-1), 1) := by decide +kernel
theorem dX16_letGo_7 : decode cX16_letGo 7 = .ok (.if_icmp .eq 50, 3) := by decide +kernel
theorem dX16_letGo_10 : decode cX16_letGo 10 = .ok (.aload_n 0, 1) := by decide +kernel
theorem dX16_letGo_11 : decode cX16_letGo 11 = .ok (.getfield 661, 3) := by decide +kernel
theorem dX16_letGo_14 : decode cX16_letGo 14 = .ok (.iload_n 1, 1) := by decide +kernel
theorem dX16_letGo_15 : decode cX16_letGo 15 = .ok (.iaload, 1) := by decide +kernel
theorem dX16_letGo_16 : decode cX16_letGo 16 = .ok (.istore_n 2, 1) := by decide +kernel
theorem dX16_letGo_17 : decode cX16_letGo 17 = .ok (.aload_n 0, 1) := by decide +kernel
theorem dX16_letGo_18 : decode cX16_letGo 18 = .ok (.getfield 661, 3) := by decide +kernel
theorem dX16_letGo_21 : decode cX16_letGo 21 = .ok (.iload_n 1, 1) := by decide +kernel
theorem dX16_letGo_22 : decode cX16_letGo 22 = .ok (.aload_n 0, 1) := by decide +kernel
theorem dX16_letGo_23 : decode cX16_letGo 23 = .ok (.getfield 652, 3) := by decide +kernel
theorem dX16_letGo_26 : decode cX16_letGo 26 = .ok (.iload_n 2, 1) := by decide +kernel
theorem dX16_letGo_27 : decode cX16_letGo 27 = .ok (.iaload, 1) := by decide +kernel
theorem dX16_letGo_28 : decode cX16_letGo 28 = .ok (.iastore, 1) := by decide +kernel
theorem dX16_letGo_29 : decode cX16_letGo 29 = .ok (.aload_n 0, 1) := by decide +kernel
theorem dX16_letGo_30 : decode cX16_letGo 30 = .ok (.getfield 652, 3) := by decide +kernel
theorem dX16_letGo_33 : decode cX16_letGo 33 = .ok (.iload_n 2, 1) := by decide +kernel
theorem dX16_letGo_34 : decode cX16_letGo 34 = .ok (.aload_n 0, 1) := by decide +kernel
theorem dX16_letGo_35 : decode cX16_letGo 35 = .ok (.getfield 655, 3) := by decide +kernel
theorem dX16_letGo_38 : decode cX16_letGo 38 = .ok (.iastore, 1) := by decide +kernel
theorem dX16_letGo_39 : decode cX16_letGo 39 = .ok (.aload_n 0, 1) := by decide +kernel
theorem dX16_letGo_40 : decode cX16_letGo 40 = .ok (.iload_n 2, 1) := by decide +kernel
theorem dX16_letGo_41 : decode cX16_letGo 41 = .ok (.putfield 655, 3) := by decide +kernel
theorem dX16_letGo_44 : decode cX16_letGo 44 = .ok (.aload_n 0, 1) := by decide +kernel
theorem dX16_letGo_45 : decode cX16_letGo 45 = .ok (.dup, 1) := by decide +kernel
theorem dX16_letGo_46 : decode cX16_letGo 46 = .ok (.getfield 658, 3) := by decide +kernel
theorem dX16_letGo_49 : decode cX16_letGo 49 = .ok (.iconst 1, 1) := by decide +kernel
theorem dX16_letGo_50 : decode cX16_letGo 50 = .ok (.isub, 1) := by decide +kernel
theorem dX16_letGo_51 : decode cX16_letGo 51 = .ok (.putfield 658, 3) := by decide +kernel
theorem dX16_letGo_54 : decode cX16_letGo 54 = .ok (.goto (-54), 3) := by decide +kernel
theorem dX16_letGo_57 : decode cX16_letGo 57 = .ok (.aload_n 0, 1) := by decide +kernel
theorem dX16_letGo_58 : decode cX16_letGo 58 = .ok (.getfield 664, 3) := by decide +kernel
theorem dX16_letGo_61 : decode cX16_letGo 61 = .ok (.iload_n 1, 1) := by decide +kernel
theorem dX16_letGo_62 : decode cX16_letGo 62 = .ok (.iconst (-1), 1) := by decide +kernel
theorem dX16_letGo_63 : decode cX16_letGo 63 = .ok (.iastore, 1) := by decide +kernel
theorem dX16_letGo_64 : decode cX16_letGo 64 = .ok (.aload_n 0, 1) := by decide +kernel
theorem dX16_letGo_65 : decode cX16_letGo 65 = .ok (.getfield 667, 3) := by decide +kernel
theorem dX16_letGo_68 : decode cX16_letGo 68 = .ok (.iload_n 1, 1) := by decide +kernel
theorem dX16_letGo_69 : decode cX16_letGo 69 = .ok (.iconst 0, 1) := by decide +kernel
theorem dX16_letGo_70 : decode cX16_letGo 70 = .ok (.iastore, 1) := by decide +kernel
theorem dX16_letGo_71 : decode cX16_letGo 71 = .ok (.return_, 1) := by decide +kernel
set_option maxRecDepth 20000 in
theorem a_X16_letGo_57 {p : Program} {l : Launch} {e : Env} {R : Room} {s : State} {m : MethodId} {args : Array Value} {below : List Frame} {meth : Method} {c : Code} {D : va_G} {cA : Nat → ClassId} {tys : List (ClassId × FieldType)} {A : Nat → Prop} {n0 s0 : Nat} {QM : State → Prop} {ra : Nat → Nat} {jx : Nat → Nat → Nat} {rm : Nat} {Q : Sg → Unit → Prop} {X : Sg → String → Prop} (B : Cx p s m args c cX16_letGo 3 RX16 D cA tys A) (hT : Tys cA tys) (hR : Rm R n0 s0) (hFr : 0 ≤ R.frames) (hLw : 0 ≤ R.locals) (hQ : ∀ (pc : Nat) (ls : Array Slot) (σ : Sg) (H : Heap) (locs : List Loc), decode cX16_letGo pc = .ok (.return_, 1) → Hd D cA A s σ H locs → CB n0 s0 σ → Q σ () → RG σ → Shp ra jx rm σ → W p l e R s m args below meth c H locs (gc σ - n0) (gs σ - s0) QM (F0 m pc ls [])) (hX : ∀ (σ : Sg) (E : String) (pc : Nat) (lo : List (Nat × Value)) (st : List Value), X σ E → RG σ → Shp ra jx rm σ → JX p l e R s m args below meth c 3 D cA A n0 s0 QM σ E pc lo st) : ∀ (σ : Sg) (v1 : Int) (g1 : rng v1), w_X16_letGo_57 ra jx rm Q X σ v1 → RG σ → Shp ra jx rm σ → JJ p l e R s m args below meth c 3 D cA A n0 s0 QM σ 57 [(0, .ref rm), (1, .int (i32 v1))] [] := by
  intro σ v1 g1 h hGσ hS H locs ls hH hl hc
  unfold w_X16_letGo_57 at h
  refine lv_aload_n B.1 B.2.1 dX16_letGo_57 rfl (lv_at hl 0 rfl) ?_
  refine r_arr B hH hS 88 (kd := 100) (n := 12) (by decide) (by decide) wf_X16_664 rfl (by decide) dX16_letGo_58 ?_
  refine lv_iload_n B.1 B.2.1 dX16_letGo_61 rfl (lv_at hl 1 rfl) ?_
  refine lv_iconst (v := i32 (-1)) B.1 B.2.1 dX16_letGo_62 (by decide) ?_
  obtain ⟨q1, h⟩ := h
  obtain ⟨σ13, eσ13⟩ : ∃ z, z = pI σ (ra 88) v1.toNat (-1) := ⟨_, rfl⟩
  have h := h σ13 eσ13
  refine r_iast B hT hH hS 88 (n := 12) (by decide) (by decide) q1 dX16_letGo_63 (fun H locs hH => ?_)
  have hH : Hd D cA A s (pI σ (ra 88) v1.toNat (-1)) H locs := hH
  rw [← eσ13] at hH
  have hGσ13 : RG σ13 := by rw [eσ13]; exact hGσ.pI (by unfold rng; omega)
  have hS : Shp ra jx rm σ13 := by rw [eσ13]; exact hS
  have hc : CB n0 s0 σ13 := by rw [eσ13]; exact hc
  rw [show gc σ = gc σ13 by rw [eσ13], show gs σ = gs σ13 by rw [eσ13]]
  refine lv_aload_n B.1 B.2.1 dX16_letGo_64 rfl (lv_at hl 0 rfl) ?_
  refine r_arr B hH hS 89 (kd := 100) (n := 12) (by decide) (by decide) wf_X16_667 rfl (by decide) dX16_letGo_65 ?_
  refine lv_iload_n B.1 B.2.1 dX16_letGo_68 rfl (lv_at hl 1 rfl) ?_
  refine lv_iconst (v := i32 0) B.1 B.2.1 dX16_letGo_69 (by decide) ?_
  obtain ⟨q2, h⟩ := h
  obtain ⟨σ14, eσ14⟩ : ∃ z, z = pI σ13 (ra 89) v1.toNat 0 := ⟨_, rfl⟩
  have h := h σ14 eσ14
  refine r_iast B hT hH hS 89 (n := 12) (by decide) (by decide) q2 dX16_letGo_70 (fun H locs hH => ?_)
  have hH : Hd D cA A s (pI σ13 (ra 89) v1.toNat 0) H locs := hH
  rw [← eσ14] at hH
  have hGσ14 : RG σ14 := by rw [eσ14]; exact hGσ13.pI (by unfold rng; omega)
  have hS : Shp ra jx rm σ14 := by rw [eσ14]; exact hS
  have hc : CB n0 s0 σ14 := by rw [eσ14]; exact hc
  rw [show gc σ13 = gc σ14 by rw [eσ14], show gs σ13 = gs σ14 by rw [eσ14]]
  exact hQ _ _ _ _ _ dX16_letGo_71 hH hc h hGσ14 hS
set_option maxRecDepth 20000 in
theorem a_X16_letGo_10 {p : Program} {l : Launch} {e : Env} {R : Room} {s : State} {m : MethodId} {args : Array Value} {below : List Frame} {meth : Method} {c : Code} {D : va_G} {cA : Nat → ClassId} {tys : List (ClassId × FieldType)} {A : Nat → Prop} {n0 s0 : Nat} {QM : State → Prop} {ra : Nat → Nat} {jx : Nat → Nat → Nat} {rm : Nat} {Q : Sg → Unit → Prop} {X : Sg → String → Prop} (B : Cx p s m args c cX16_letGo 3 RX16 D cA tys A) (hT : Tys cA tys) (hR : Rm R n0 s0) (hFr : 0 ≤ R.frames) (hLw : 0 ≤ R.locals) (hQ : ∀ (pc : Nat) (ls : Array Slot) (σ : Sg) (H : Heap) (locs : List Loc), decode cX16_letGo pc = .ok (.return_, 1) → Hd D cA A s σ H locs → CB n0 s0 σ → Q σ () → RG σ → Shp ra jx rm σ → W p l e R s m args below meth c H locs (gc σ - n0) (gs σ - s0) QM (F0 m pc ls [])) (hX : ∀ (σ : Sg) (E : String) (pc : Nat) (lo : List (Nat × Value)) (st : List Value), X σ E → RG σ → Shp ra jx rm σ → JX p l e R s m args below meth c 3 D cA A n0 s0 QM σ E pc lo st) {K0 : Sg → Int → Prop} (hK0 : ∀ (σ : Sg) (v1 : Int) (g1 : rng v1), K0 σ v1 → RG σ → Shp ra jx rm σ → JJ p l e R s m args below meth c 3 D cA A n0 s0 QM σ 0 [(0, .ref rm), (1, .int (i32 v1))] []) : ∀ (σ : Sg) (v1 : Int) (g1 : rng v1), w_X16_letGo_10 ra jx rm K0 Q X σ v1 → RG σ → Shp ra jx rm σ → JJ p l e R s m args below meth c 3 D cA A n0 s0 QM σ 10 [(0, .ref rm), (1, .int (i32 v1))] [] := by
  intro σ v1 g1 h hGσ hS H locs ls hH hl hc
  unfold w_X16_letGo_10 at h
  refine lv_aload_n B.1 B.2.1 dX16_letGo_10 rfl (lv_at hl 0 rfl) ?_
  refine r_arr B hH hS 87 (kd := 100) (n := 12) (by decide) (by decide) wf_X16_661 rfl (by decide) dX16_letGo_11 ?_
  refine lv_iload_n B.1 B.2.1 dX16_letGo_14 rfl (lv_at hl 1 rfl) ?_
  obtain ⟨q1, h⟩ := h
  refine r_iald B hT hH hS 87 (n := 12) (by decide) (by decide) q1 dX16_letGo_15 ?_
  refine lv_istore_n (lv' := [(2, .int (i32 (gI σ (ra 87) v1.toNat))), (0, .ref rm), (1, .int (i32 v1))]) B.1 B.2.1 dX16_letGo_16 rfl hl (by decide) rfl (fun ls hl => ?_)
  refine lv_aload_n B.1 B.2.1 dX16_letGo_17 rfl (lv_at hl 1 rfl) ?_
  refine r_arr B hH hS 87 (kd := 100) (n := 12) (by decide) (by decide) wf_X16_661 rfl (by decide) dX16_letGo_18 ?_
  refine lv_iload_n B.1 B.2.1 dX16_letGo_21 rfl (lv_at hl 2 rfl) ?_
  refine lv_aload_n B.1 B.2.1 dX16_letGo_22 rfl (lv_at hl 1 rfl) ?_
  refine r_arr B hH hS 86 (kd := 100) (n := 2000) (by decide) (by decide) wf_X16_652 rfl (by decide) dX16_letGo_23 ?_
  refine lv_iload_n B.1 B.2.1 dX16_letGo_26 rfl (lv_at hl 0 rfl) ?_
  obtain ⟨q2, h⟩ := h
  refine r_iald B hT hH hS 86 (n := 2000) (by decide) (by decide) q2 dX16_letGo_27 ?_
  obtain ⟨q3, h⟩ := h
  obtain ⟨σ15, eσ15⟩ : ∃ z, z = pI σ (ra 87) v1.toNat (gI σ (ra 86) (gI σ (ra 87) v1.toNat).toNat) := ⟨_, rfl⟩
  have h := h σ15 eσ15
  refine r_iast B hT hH hS 87 (n := 12) (by decide) (by decide) q3 dX16_letGo_28 (fun H locs hH => ?_)
  have hH : Hd D cA A s (pI σ (ra 87) v1.toNat (gI σ (ra 86) (gI σ (ra 87) v1.toNat).toNat)) H locs := hH
  rw [← eσ15] at hH
  have hGσ15 : RG σ15 := by rw [eσ15]; exact hGσ.pI (hGσ _ _)
  have hS : Shp ra jx rm σ15 := by rw [eσ15]; exact hS
  have hc : CB n0 s0 σ15 := by rw [eσ15]; exact hc
  rw [show gc σ = gc σ15 by rw [eσ15], show gs σ = gs σ15 by rw [eσ15]]
  refine lv_aload_n B.1 B.2.1 dX16_letGo_29 rfl (lv_at hl 1 rfl) ?_
  refine r_arr B hH hS 86 (kd := 100) (n := 2000) (by decide) (by decide) wf_X16_652 rfl (by decide) dX16_letGo_30 ?_
  refine lv_iload_n B.1 B.2.1 dX16_letGo_33 rfl (lv_at hl 0 rfl) ?_
  refine lv_aload_n B.1 B.2.1 dX16_letGo_34 rfl (lv_at hl 1 rfl) ?_
  refine r_geti B hH hS 90 (by decide) wf_X16_655 rfl (by decide) dX16_letGo_35 ?_
  obtain ⟨q4, h⟩ := h
  obtain ⟨σ16, eσ16⟩ : ∃ z, z = pI σ15 (ra 86) (gI σ (ra 87) v1.toNat).toNat (gI σ15 rm 90) := ⟨_, rfl⟩
  have h := h σ16 eσ16
  refine r_iast B hT hH hS 86 (n := 2000) (by decide) (by decide) q4 dX16_letGo_38 (fun H locs hH => ?_)
  have hH : Hd D cA A s (pI σ15 (ra 86) (gI σ (ra 87) v1.toNat).toNat (gI σ15 rm 90)) H locs := hH
  rw [← eσ16] at hH
  have hGσ16 : RG σ16 := by rw [eσ16]; exact hGσ15.pI (hGσ15 _ _)
  have hS : Shp ra jx rm σ16 := by rw [eσ16]; exact hS
  have hc : CB n0 s0 σ16 := by rw [eσ16]; exact hc
  rw [show gc σ15 = gc σ16 by rw [eσ16], show gs σ15 = gs σ16 by rw [eσ16]]
  refine lv_aload_n B.1 B.2.1 dX16_letGo_39 rfl (lv_at hl 1 rfl) ?_
  refine lv_iload_n B.1 B.2.1 dX16_letGo_40 rfl (lv_at hl 0 rfl) ?_
  obtain ⟨σ17, eσ17⟩ : ∃ z, z = pI σ16 rm 90 (gI σ (ra 87) v1.toNat) := ⟨_, rfl⟩
  have h := h σ17 eσ17
  refine r_puti B hH hS 90 (ty := .int) (by decide) wf_X16_655 rfl rfl (by decide) rfl rfl rfl dX16_letGo_41 (fun H locs hH => ?_)
  have hH : Hd D cA A s (pI σ16 rm 90 (gI σ (ra 87) v1.toNat)) H locs := hH
  rw [← eσ17] at hH
  have hGσ17 : RG σ17 := by rw [eσ17]; exact hGσ16.pI (hGσ _ _)
  have hS : Shp ra jx rm σ17 := by rw [eσ17]; exact hS
  have hc : CB n0 s0 σ17 := by rw [eσ17]; exact hc
  rw [show gc σ16 = gc σ17 by rw [eσ17], show gs σ16 = gs σ17 by rw [eσ17]]
  refine lv_aload_n B.1 B.2.1 dX16_letGo_44 rfl (lv_at hl 1 rfl) ?_
  refine lv_dup B.1 B.2.1 dX16_letGo_45 rfl ?_
  refine r_geti B hH hS 91 (by decide) wf_X16_658 rfl (by decide) dX16_letGo_46 ?_
  refine lv_iconst (v := i32 1) B.1 B.2.1 dX16_letGo_49 (by decide) ?_
  obtain ⟨q5, h⟩ := h
  refine lv_isub B.1 B.2.1 dX16_letGo_50 ?_
  rw [i32_sub]
  obtain ⟨σ18, eσ18⟩ : ∃ z, z = pI σ17 rm 91 (gI σ17 rm 91 - 1) := ⟨_, rfl⟩
  have h := h σ18 eσ18
  refine r_puti B hH hS 91 (ty := .int) (by decide) wf_X16_658 rfl rfl (by decide) rfl rfl rfl dX16_letGo_51 (fun H locs hH => ?_)
  have hH : Hd D cA A s (pI σ17 rm 91 (gI σ17 rm 91 - 1)) H locs := hH
  rw [← eσ18] at hH
  have hGσ18 : RG σ18 := by rw [eσ18]; exact hGσ17.pI q5
  have hS : Shp ra jx rm σ18 := by rw [eσ18]; exact hS
  have hc : CB n0 s0 σ18 := by rw [eσ18]; exact hc
  rw [show gc σ17 = gc σ18 by rw [eσ18], show gs σ17 = gs σ18 by rw [eσ18]]
  refine lv_goto (tgt := 0) B.1 B.2.1 dX16_letGo_54 (by decide) ?_
  exact hK0 _ _ g1 h hGσ18 hS _ _ _ hH (lv_sub (l' := [(0, .ref rm), (1, .int (i32 v1))]) hl [1, 2] rfl) hc
set_option maxRecDepth 20000 in
theorem a_X16_letGo_0 {p : Program} {l : Launch} {e : Env} {R : Room} {s : State} {m : MethodId} {args : Array Value} {below : List Frame} {meth : Method} {c : Code} {D : va_G} {cA : Nat → ClassId} {tys : List (ClassId × FieldType)} {A : Nat → Prop} {n0 s0 : Nat} {QM : State → Prop} {ra : Nat → Nat} {jx : Nat → Nat → Nat} {rm : Nat} {Q : Sg → Unit → Prop} {X : Sg → String → Prop} (B : Cx p s m args c cX16_letGo 3 RX16 D cA tys A) (hT : Tys cA tys) (hR : Rm R n0 s0) (hFr : 0 ≤ R.frames) (hLw : 0 ≤ R.locals) (hQ : ∀ (pc : Nat) (ls : Array Slot) (σ : Sg) (H : Heap) (locs : List Loc), decode cX16_letGo pc = .ok (.return_, 1) → Hd D cA A s σ H locs → CB n0 s0 σ → Q σ () → RG σ → Shp ra jx rm σ → W p l e R s m args below meth c H locs (gc σ - n0) (gs σ - s0) QM (F0 m pc ls [])) (hX : ∀ (σ : Sg) (E : String) (pc : Nat) (lo : List (Nat × Value)) (st : List Value), X σ E → RG σ → Shp ra jx rm σ → JX p l e R s m args below meth c 3 D cA A n0 s0 QM σ E pc lo st) {K0 : Sg → Int → Prop} (hK0 : ∀ (σ : Sg) (v1 : Int) (g1 : rng v1), K0 σ v1 → RG σ → Shp ra jx rm σ → JJ p l e R s m args below meth c 3 D cA A n0 s0 QM σ 0 [(0, .ref rm), (1, .int (i32 v1))] []) : ∀ (σ : Sg) (v1 : Int) (g1 : rng v1), w_X16_letGo_0 ra jx rm K0 Q X σ v1 → RG σ → Shp ra jx rm σ → JJ p l e R s m args below meth c 3 D cA A n0 s0 QM σ 0 [(0, .ref rm), (1, .int (i32 v1))] [] := by
  intro σ v1 g1 h hGσ hS H locs ls hH hl hc
  unfold w_X16_letGo_0 at h
  refine lv_aload_n B.1 B.2.1 dX16_letGo_0 rfl (lv_at hl 0 rfl) ?_
  refine r_arr B hH hS 87 (kd := 100) (n := 12) (by decide) (by decide) wf_X16_661 rfl (by decide) dX16_letGo_1 ?_
  refine lv_iload_n B.1 B.2.1 dX16_letGo_4 rfl (lv_at hl 1 rfl) ?_
  obtain ⟨q1, h⟩ := h
  refine r_iald B hT hH hS 87 (n := 12) (by decide) (by decide) q1 dX16_letGo_5 ?_
  refine lv_iconst (v := i32 (-1)) B.1 B.2.1 dX16_letGo_6 (by decide) ?_
  refine lv_icmp_eq (tgt := 57) B.1 B.2.1 dX16_letGo_7 (by decide) (fun h9 => ?_) (fun h9 => ?_)
  · rw [if_pos ((i32_eq (hGσ _ _) (by unfold rng; omega)).mp h9)] at h
    exact a_X16_letGo_57 B hT hR hFr hLw hQ hX _ _ g1 h hGσ hS _ _ _ hH (lv_sub (l' := [(0, .ref rm), (1, .int (i32 v1))]) hl [0, 1] rfl) hc
  · rw [if_neg (fun q => h9 ((i32_eq (hGσ _ _) (by unfold rng; omega)).mpr q))] at h
    exact a_X16_letGo_10 B hT hR hFr hLw hQ hX hK0 _ _ g1 h hGσ hS _ _ _ hH (lv_sub (l' := [(0, .ref rm), (1, .int (i32 v1))]) hl [0, 1] rfl) hc
theorem al_X16_letGo_0 {p : Program} {l : Launch} {e : Env} {R : Room} {s : State} {m : MethodId} {args : Array Value} {below : List Frame} {meth : Method} {c : Code} {D : va_G} {cA : Nat → ClassId} {tys : List (ClassId × FieldType)} {A : Nat → Prop} {n0 s0 : Nat} {QM : State → Prop} {ra : Nat → Nat} {jx : Nat → Nat → Nat} {rm : Nat} {Q : Sg → Unit → Prop} {X : Sg → String → Prop} (B : Cx p s m args c cX16_letGo 3 RX16 D cA tys A) (hT : Tys cA tys) (hR : Rm R n0 s0) (hFr : 0 ≤ R.frames) (hLw : 0 ≤ R.locals) (hQ : ∀ (pc : Nat) (ls : Array Slot) (σ : Sg) (H : Heap) (locs : List Loc), decode cX16_letGo pc = .ok (.return_, 1) → Hd D cA A s σ H locs → CB n0 s0 σ → Q σ () → RG σ → Shp ra jx rm σ → W p l e R s m args below meth c H locs (gc σ - n0) (gs σ - s0) QM (F0 m pc ls [])) (hX : ∀ (σ : Sg) (E : String) (pc : Nat) (lo : List (Nat × Value)) (st : List Value), X σ E → RG σ → Shp ra jx rm σ → JX p l e R s m args below meth c 3 D cA A n0 s0 QM σ E pc lo st) : ∀ (n : Nat), ∀ (σ : Sg) (v1 : Int) (g1 : rng v1), wl_X16_letGo_0 ra jx rm Q X n σ v1 → RG σ → Shp ra jx rm σ → JJ p l e R s m args below meth c 3 D cA A n0 s0 QM σ 0 [(0, .ref rm), (1, .int (i32 v1))] [] := by
  intro n
  induction n with
  | zero => intro σ v1 g1 h; exact h.elim
  | succ n ih => exact fun σ v1 g1 h => a_X16_letGo_0 B hT hR hFr hLw hQ hX ih σ v1 g1 h
theorem ok_X16_letGo {l : Launch} {D : va_G} {cA : Nat → ClassId} {tys : List (ClassId × FieldType)} {A : Nat → Prop} {ra : Nat → Nat} {jx : Nat → Nat → Nat} {rm : Nat} (hT : Tys cA tys) {Q : Sg → Unit → Prop} {X : Sg → String → Prop} (σ : Sg) (v1 : Int) (g1 : rng v1) (hG : RG σ) (hS : Shp ra jx rm σ) (h : wp_X16_letGo ra jx rm v1 σ Q X) : Ok l D cA tys A yX16_letGo (.code yX16_letGo cX16_letGo 3 none) 0 0 [.ref rm, .int (i32 v1)] σ (fun σ' w => w = none ∧ Q σ' () ∧ RG σ' ∧ Shp ra jx rm σ') (fun σ' E => X σ' E ∧ RG σ' ∧ Shp ra jx rm σ') := by
  refine ok_of (ret := none) (by decide) (Nat.le_of_ble_eq_true rfl) ?_
  intro p e R s m args below meth c hRR B hr hlocks hex _
  have B : Cx p s m args c cX16_letGo 3 RX16 D cA tys A := B
  have hR : Rm R (gc σ) (gs σ) := by rw [hRR]; exact ⟨rfl, rfl⟩
  unfold wp_X16_letGo at h
  obtain ⟨n9, h⟩ := h
  intro H locs ls hH hl hc
  have hX : ∀ (σ9 : Sg) (E : String) (pc : Nat) (lo : List (Nat × Value)) (st : List Value), X σ9 E → RG σ9 → Shp ra jx rm σ9 → JX p l e R s m args below meth c 3 D cA A (gc σ) (gs σ) (vx_MQ below (Qw D cA A σ (fun σ' w => w = none ∧ Q σ' () ∧ RG σ' ∧ Shp ra jx rm σ')) (Xw D cA A σ (fun σ' E => X σ' E ∧ RG σ' ∧ Shp ra jx rm σ')) args s (BC - gc σ) (BS - gs σ) A) σ9 E pc lo st := fun σ9 E pc lo st hx hG9 hS9 H locs ls ce q hH hl hc hce hcv hcl => e_out hH hc (fun x hx9 => (hex x hx9).elim) hlocks hce hcv hcl ⟨hx, hG9, hS9⟩
  exact al_X16_letGo_0 B hT hR (by rw [hRR]; exact Nat.le_refl _) (by rw [hRR]; exact Nat.le_refl _) (fun pc ls σ9 H locs hd hH hc hq hG9 hS9 => e_vret B hH hc hr hlocks ⟨rfl, hq, hG9, hS9⟩ hd) hX n9 σ v1 g1 h hG hS H locs ls hH (lv_sub (l' := [(0, .ref rm), (1, .int (i32 v1))]) hl [0, 1] rfl) hc
theorem dX16_listed_0 : decode cX16_listed 0 = .ok (.iconst 0, 1) := by decide +kernel
theorem dX16_listed_1 : decode cX16_listed 1 = .ok (.istore_n 2, 1) := by decide +kernel
theorem dX16_listed_2 : decode cX16_listed 2 = .ok (.iconst 0, 1) := by decide +kernel
theorem dX16_listed_3 : decode cX16_listed 3 = .ok (.istore_n 3, 1) := by decide +kernel
theorem dX16_listed_4 : decode cX16_listed 4 = .ok (.iload_n 3, 1) := by decide +kernel
theorem dX16_listed_5 : decode cX16_listed 5 = .ok (.iconst 4, 1) := by decide +kernel
theorem dX16_listed_6 : decode cX16_listed 6 = .ok (.if_icmp .ge 22, 3) := by decide +kernel
theorem dX16_listed_9 : decode cX16_listed 9 = .ok (.iload_n 2, 1) := by decide +kernel
theorem dX16_listed_10 : decode cX16_listed 10 = .ok (.aload_n 0, 1) := by decide +kernel
theorem dX16_listed_11 : decode cX16_listed 11 = .ok (.getfield 667, 3) := by decide +kernel
theorem dX16_listed_14 : decode cX16_listed 14 = .ok (.iconst 3, 1) := by decide +kernel
theorem dX16_listed_15 : decode cX16_listed 15 = .ok (.iload_n 3, 1) := by decide +kernel
theorem dX16_listed_16 : decode cX16_listed 16 = .ok (.imul, 1) := by decide +kernel
theorem dX16_listed_17 : decode cX16_listed 17 = .ok (.iload_n 1, 1) := by decide +kernel
theorem dX16_listed_18 : decode cX16_listed 18 = .ok (.iadd, 1) := by decide +kernel
theorem dX16_listed_19 : decode cX16_listed 19 = .ok (.iaload, 1) := by decide +kernel
theorem dX16_listed_20 : decode cX16_listed 20 = .ok (.iadd, 1) := by decide +kernel
theorem dX16_listed_21 : decode cX16_listed 21 = .ok (.istore_n 2, 1) := by decide +kernel
theorem dX16_listed_22 : decode cX16_listed 22 = .ok (.iinc 3 1, 3) := by decide +kernel
theorem dX16_listed_25 : decode cX16_listed 25 = .ok (.goto (-21), 3) := by decide +kernel
theorem dX16_listed_28 : decode cX16_listed 28 = .ok (.iload_n 2, 1) := by decide +kernel
theorem dX16_listed_29 : decode cX16_listed 29 = .ok (.ireturn, 1) := by decide +kernel
set_option maxRecDepth 20000 in
theorem a_X16_listed_28 {p : Program} {l : Launch} {e : Env} {R : Room} {s : State} {m : MethodId} {args : Array Value} {below : List Frame} {meth : Method} {c : Code} {D : va_G} {cA : Nat → ClassId} {tys : List (ClassId × FieldType)} {A : Nat → Prop} {n0 s0 : Nat} {QM : State → Prop} {ra : Nat → Nat} {jx : Nat → Nat → Nat} {rm : Nat} {Q : Sg → Int → Prop} {X : Sg → String → Prop} (B : Cx p s m args c cX16_listed 4 RX16 D cA tys A) (hT : Tys cA tys) (hR : Rm R n0 s0) (hFr : 0 ≤ R.frames) (hLw : 0 ≤ R.locals) (hQ : ∀ (pc : Nat) (ls : Array Slot) (σ : Sg) (H : Heap) (locs : List Loc) (r : Int) (gr : rng r), decode cX16_listed pc = .ok (.ireturn, 1) → Hd D cA A s σ H locs → CB n0 s0 σ → Q σ r → RG σ → Shp ra jx rm σ → W p l e R s m args below meth c H locs (gc σ - n0) (gs σ - s0) QM (F0 m pc ls [.int (i32 r)])) (hX : ∀ (σ : Sg) (E : String) (pc : Nat) (lo : List (Nat × Value)) (st : List Value), X σ E → RG σ → Shp ra jx rm σ → JX p l e R s m args below meth c 4 D cA A n0 s0 QM σ E pc lo st) : ∀ (σ : Sg) (v2 : Int) (g2 : rng v2), w_X16_listed_28 ra jx rm Q X σ v2 → RG σ → Shp ra jx rm σ → JJ p l e R s m args below meth c 4 D cA A n0 s0 QM σ 28 [(0, .ref rm), (2, .int (i32 v2))] [] := by
  intro σ v2 g2 h hGσ hS H locs ls hH hl hc
  unfold w_X16_listed_28 at h
  refine lv_iload_n B.1 B.2.1 dX16_listed_28 rfl (lv_at hl 1 rfl) ?_
  exact hQ _ _ _ _ _ _ g2 dX16_listed_29 hH hc h hGσ hS
set_option maxRecDepth 20000 in
theorem a_X16_listed_9 {p : Program} {l : Launch} {e : Env} {R : Room} {s : State} {m : MethodId} {args : Array Value} {below : List Frame} {meth : Method} {c : Code} {D : va_G} {cA : Nat → ClassId} {tys : List (ClassId × FieldType)} {A : Nat → Prop} {n0 s0 : Nat} {QM : State → Prop} {ra : Nat → Nat} {jx : Nat → Nat → Nat} {rm : Nat} {Q : Sg → Int → Prop} {X : Sg → String → Prop} (B : Cx p s m args c cX16_listed 4 RX16 D cA tys A) (hT : Tys cA tys) (hR : Rm R n0 s0) (hFr : 0 ≤ R.frames) (hLw : 0 ≤ R.locals) (hQ : ∀ (pc : Nat) (ls : Array Slot) (σ : Sg) (H : Heap) (locs : List Loc) (r : Int) (gr : rng r), decode cX16_listed pc = .ok (.ireturn, 1) → Hd D cA A s σ H locs → CB n0 s0 σ → Q σ r → RG σ → Shp ra jx rm σ → W p l e R s m args below meth c H locs (gc σ - n0) (gs σ - s0) QM (F0 m pc ls [.int (i32 r)])) (hX : ∀ (σ : Sg) (E : String) (pc : Nat) (lo : List (Nat × Value)) (st : List Value), X σ E → RG σ → Shp ra jx rm σ → JX p l e R s m args below meth c 4 D cA A n0 s0 QM σ E pc lo st) {K4 : Sg → Int → Int → Int → Prop} (hK4 : ∀ (σ : Sg) (v1 : Int) (v2 : Int) (v3 : Int) (g1 : rng v1) (g2 : rng v2) (g3 : rng v3), K4 σ v1 v2 v3 → RG σ → Shp ra jx rm σ → JJ p l e R s m args below meth c 4 D cA A n0 s0 QM σ 4 [(0, .ref rm), (1, .int (i32 v1)), (2, .int (i32 v2)), (3, .int (i32 v3))] []) : ∀ (σ : Sg) (v1 : Int) (v2 : Int) (v3 : Int) (g1 : rng v1) (g2 : rng v2) (g3 : rng v3), w_X16_listed_9 ra jx rm K4 Q X σ v1 v2 v3 → RG σ → Shp ra jx rm σ → JJ p l e R s m args below meth c 4 D cA A n0 s0 QM σ 9 [(0, .ref rm), (1, .int (i32 v1)), (2, .int (i32 v2)), (3, .int (i32 v3))] [] := by
  intro σ v1 v2 v3 g1 g2 g3 h hGσ hS H locs ls hH hl hc
  unfold w_X16_listed_9 at h
  refine lv_iload_n B.1 B.2.1 dX16_listed_9 rfl (lv_at hl 2 rfl) ?_
  refine lv_aload_n B.1 B.2.1 dX16_listed_10 rfl (lv_at hl 0 rfl) ?_
  refine r_arr B hH hS 89 (kd := 100) (n := 12) (by decide) (by decide) wf_X16_667 rfl (by decide) dX16_listed_11 ?_
  refine lv_iconst (v := i32 3) B.1 B.2.1 dX16_listed_14 (by decide) ?_
  refine lv_iload_n B.1 B.2.1 dX16_listed_15 rfl (lv_at hl 3 rfl) ?_
  obtain ⟨q1, h⟩ := h
  refine lv_imul B.1 B.2.1 dX16_listed_16 ?_
  rw [i32_mul]
  refine lv_iload_n B.1 B.2.1 dX16_listed_17 rfl (lv_at hl 1 rfl) ?_
  obtain ⟨q2, h⟩ := h
  refine lv_iadd B.1 B.2.1 dX16_listed_18 ?_
  rw [i32_add]
  obtain ⟨q3, h⟩ := h
  refine r_iald B hT hH hS 89 (n := 12) (by decide) (by decide) q3 dX16_listed_19 ?_
  obtain ⟨q4, h⟩ := h
  refine lv_iadd B.1 B.2.1 dX16_listed_20 ?_
  rw [i32_add]
  refine lv_istore_n (lv' := [(2, .int (i32 (v2 + (gI σ (ra 89) ((3 * v3) + v1).toNat)))), (0, .ref rm), (1, .int (i32 v1)), (3, .int (i32 v3))]) B.1 B.2.1 dX16_listed_21 rfl hl (by decide) rfl (fun ls hl => ?_)
  obtain ⟨q5, h⟩ := h
  refine lv_iinc (k := 3) (v := i32 (v3 + 1)) (lv' := [(3, .int (i32 (v3 + 1))), (2, .int (i32 (v2 + (gI σ (ra 89) ((3 * v3) + v1).toNat)))), (0, .ref rm), (1, .int (i32 v1))]) B.1 B.2.1 dX16_listed_22 hl rfl (i32_add _ _) (by decide) rfl (fun ls hl => ?_)
  refine lv_goto (tgt := 4) B.1 B.2.1 dX16_listed_25 (by decide) ?_
  exact hK4 _ _ _ _ g1 q4 q5 h hGσ hS _ _ _ hH (lv_sub (l' := [(0, .ref rm), (1, .int (i32 v1)), (2, .int (i32 (v2 + (gI σ (ra 89) ((3 * v3) + v1).toNat)))), (3, .int (i32 (v3 + 1)))]) hl [2, 3, 1, 0] rfl) hc
set_option maxRecDepth 20000 in
theorem a_X16_listed_4 {p : Program} {l : Launch} {e : Env} {R : Room} {s : State} {m : MethodId} {args : Array Value} {below : List Frame} {meth : Method} {c : Code} {D : va_G} {cA : Nat → ClassId} {tys : List (ClassId × FieldType)} {A : Nat → Prop} {n0 s0 : Nat} {QM : State → Prop} {ra : Nat → Nat} {jx : Nat → Nat → Nat} {rm : Nat} {Q : Sg → Int → Prop} {X : Sg → String → Prop} (B : Cx p s m args c cX16_listed 4 RX16 D cA tys A) (hT : Tys cA tys) (hR : Rm R n0 s0) (hFr : 0 ≤ R.frames) (hLw : 0 ≤ R.locals) (hQ : ∀ (pc : Nat) (ls : Array Slot) (σ : Sg) (H : Heap) (locs : List Loc) (r : Int) (gr : rng r), decode cX16_listed pc = .ok (.ireturn, 1) → Hd D cA A s σ H locs → CB n0 s0 σ → Q σ r → RG σ → Shp ra jx rm σ → W p l e R s m args below meth c H locs (gc σ - n0) (gs σ - s0) QM (F0 m pc ls [.int (i32 r)])) (hX : ∀ (σ : Sg) (E : String) (pc : Nat) (lo : List (Nat × Value)) (st : List Value), X σ E → RG σ → Shp ra jx rm σ → JX p l e R s m args below meth c 4 D cA A n0 s0 QM σ E pc lo st) {K4 : Sg → Int → Int → Int → Prop} (hK4 : ∀ (σ : Sg) (v1 : Int) (v2 : Int) (v3 : Int) (g1 : rng v1) (g2 : rng v2) (g3 : rng v3), K4 σ v1 v2 v3 → RG σ → Shp ra jx rm σ → JJ p l e R s m args below meth c 4 D cA A n0 s0 QM σ 4 [(0, .ref rm), (1, .int (i32 v1)), (2, .int (i32 v2)), (3, .int (i32 v3))] []) : ∀ (σ : Sg) (v1 : Int) (v2 : Int) (v3 : Int) (g1 : rng v1) (g2 : rng v2) (g3 : rng v3), w_X16_listed_4 ra jx rm K4 Q X σ v1 v2 v3 → RG σ → Shp ra jx rm σ → JJ p l e R s m args below meth c 4 D cA A n0 s0 QM σ 4 [(0, .ref rm), (1, .int (i32 v1)), (2, .int (i32 v2)), (3, .int (i32 v3))] [] := by
  intro σ v1 v2 v3 g1 g2 g3 h hGσ hS H locs ls hH hl hc
  unfold w_X16_listed_4 at h
  refine lv_iload_n B.1 B.2.1 dX16_listed_4 rfl (lv_at hl 3 rfl) ?_
  refine lv_iconst (v := i32 4) B.1 B.2.1 dX16_listed_5 (by decide) ?_
  refine lv_icmp_ge (tgt := 28) B.1 B.2.1 dX16_listed_6 (by decide) (fun h9 => ?_) (fun h9 => ?_)
  · rw [if_pos ((i32_le (by unfold rng; omega) g3).mp h9)] at h
    exact a_X16_listed_28 B hT hR hFr hLw hQ hX _ _ g2 h hGσ hS _ _ _ hH (lv_sub (l' := [(0, .ref rm), (2, .int (i32 v2))]) hl [0, 2] rfl) hc
  · rw [if_neg (fun q => h9 ((i32_le (by unfold rng; omega) g3).mpr q))] at h
    exact a_X16_listed_9 B hT hR hFr hLw hQ hX hK4 _ _ _ _ g1 g2 g3 h hGσ hS _ _ _ hH (lv_sub (l' := [(0, .ref rm), (1, .int (i32 v1)), (2, .int (i32 v2)), (3, .int (i32 v3))]) hl [0, 1, 2, 3] rfl) hc
theorem al_X16_listed_4 {p : Program} {l : Launch} {e : Env} {R : Room} {s : State} {m : MethodId} {args : Array Value} {below : List Frame} {meth : Method} {c : Code} {D : va_G} {cA : Nat → ClassId} {tys : List (ClassId × FieldType)} {A : Nat → Prop} {n0 s0 : Nat} {QM : State → Prop} {ra : Nat → Nat} {jx : Nat → Nat → Nat} {rm : Nat} {Q : Sg → Int → Prop} {X : Sg → String → Prop} (B : Cx p s m args c cX16_listed 4 RX16 D cA tys A) (hT : Tys cA tys) (hR : Rm R n0 s0) (hFr : 0 ≤ R.frames) (hLw : 0 ≤ R.locals) (hQ : ∀ (pc : Nat) (ls : Array Slot) (σ : Sg) (H : Heap) (locs : List Loc) (r : Int) (gr : rng r), decode cX16_listed pc = .ok (.ireturn, 1) → Hd D cA A s σ H locs → CB n0 s0 σ → Q σ r → RG σ → Shp ra jx rm σ → W p l e R s m args below meth c H locs (gc σ - n0) (gs σ - s0) QM (F0 m pc ls [.int (i32 r)])) (hX : ∀ (σ : Sg) (E : String) (pc : Nat) (lo : List (Nat × Value)) (st : List Value), X σ E → RG σ → Shp ra jx rm σ → JX p l e R s m args below meth c 4 D cA A n0 s0 QM σ E pc lo st) : ∀ (n : Nat), ∀ (σ : Sg) (v1 : Int) (v2 : Int) (v3 : Int) (g1 : rng v1) (g2 : rng v2) (g3 : rng v3), wl_X16_listed_4 ra jx rm Q X n σ v1 v2 v3 → RG σ → Shp ra jx rm σ → JJ p l e R s m args below meth c 4 D cA A n0 s0 QM σ 4 [(0, .ref rm), (1, .int (i32 v1)), (2, .int (i32 v2)), (3, .int (i32 v3))] [] := by
  intro n
  induction n with
  | zero => intro σ v1 v2 v3 g1 g2 g3 h; exact h.elim
  | succ n ih => exact fun σ v1 v2 v3 g1 g2 g3 h => a_X16_listed_4 B hT hR hFr hLw hQ hX ih σ v1 v2 v3 g1 g2 g3 h
set_option maxRecDepth 20000 in
theorem a_X16_listed_0 {p : Program} {l : Launch} {e : Env} {R : Room} {s : State} {m : MethodId} {args : Array Value} {below : List Frame} {meth : Method} {c : Code} {D : va_G} {cA : Nat → ClassId} {tys : List (ClassId × FieldType)} {A : Nat → Prop} {n0 s0 : Nat} {QM : State → Prop} {ra : Nat → Nat} {jx : Nat → Nat → Nat} {rm : Nat} {Q : Sg → Int → Prop} {X : Sg → String → Prop} (B : Cx p s m args c cX16_listed 4 RX16 D cA tys A) (hT : Tys cA tys) (hR : Rm R n0 s0) (hFr : 0 ≤ R.frames) (hLw : 0 ≤ R.locals) (hQ : ∀ (pc : Nat) (ls : Array Slot) (σ : Sg) (H : Heap) (locs : List Loc) (r : Int) (gr : rng r), decode cX16_listed pc = .ok (.ireturn, 1) → Hd D cA A s σ H locs → CB n0 s0 σ → Q σ r → RG σ → Shp ra jx rm σ → W p l e R s m args below meth c H locs (gc σ - n0) (gs σ - s0) QM (F0 m pc ls [.int (i32 r)])) (hX : ∀ (σ : Sg) (E : String) (pc : Nat) (lo : List (Nat × Value)) (st : List Value), X σ E → RG σ → Shp ra jx rm σ → JX p l e R s m args below meth c 4 D cA A n0 s0 QM σ E pc lo st) : ∀ (σ : Sg) (v1 : Int) (g1 : rng v1), w_X16_listed_0 ra jx rm Q X σ v1 → RG σ → Shp ra jx rm σ → JJ p l e R s m args below meth c 4 D cA A n0 s0 QM σ 0 [(0, .ref rm), (1, .int (i32 v1))] [] := by
  intro σ v1 g1 h hGσ hS H locs ls hH hl hc
  unfold w_X16_listed_0 at h
  refine lv_iconst (v := i32 0) B.1 B.2.1 dX16_listed_0 (by decide) ?_
  refine lv_istore_n (lv' := [(2, .int (i32 0)), (0, .ref rm), (1, .int (i32 v1))]) B.1 B.2.1 dX16_listed_1 rfl hl (by decide) rfl (fun ls hl => ?_)
  refine lv_iconst (v := i32 0) B.1 B.2.1 dX16_listed_2 (by decide) ?_
  refine lv_istore_n (lv' := [(3, .int (i32 0)), (2, .int (i32 0)), (0, .ref rm), (1, .int (i32 v1))]) B.1 B.2.1 dX16_listed_3 rfl hl (by decide) rfl (fun ls hl => ?_)
  obtain ⟨n9, h⟩ := h
  exact al_X16_listed_4 B hT hR hFr hLw hQ hX n9 _ _ _ _ g1 (by unfold rng; omega) (by unfold rng; omega) h hGσ hS _ _ _ hH (lv_sub (l' := [(0, .ref rm), (1, .int (i32 v1)), (2, .int (i32 0)), (3, .int (i32 0))]) hl [2, 3, 1, 0] rfl) hc
theorem ok_X16_listed {l : Launch} {D : va_G} {cA : Nat → ClassId} {tys : List (ClassId × FieldType)} {A : Nat → Prop} {ra : Nat → Nat} {jx : Nat → Nat → Nat} {rm : Nat} (hT : Tys cA tys) {Q : Sg → Int → Prop} {X : Sg → String → Prop} (σ : Sg) (v1 : Int) (g1 : rng v1) (hG : RG σ) (hS : Shp ra jx rm σ) (h : wp_X16_listed ra jx rm v1 σ Q X) : Ok l D cA tys A yX16_listed (.code yX16_listed cX16_listed 4 (some .int)) 0 0 [.ref rm, .int (i32 v1)] σ (fun σ' w => ∃ r, w = some (.int (i32 r)) ∧ rng r ∧ Q σ' r ∧ RG σ' ∧ Shp ra jx rm σ') (fun σ' E => X σ' E ∧ RG σ' ∧ Shp ra jx rm σ') := by
  refine ok_of (ret := (some .int)) (by decide) (Nat.le_of_ble_eq_true rfl) ?_
  intro p e R s m args below meth c hRR B hr hlocks hex _
  have B : Cx p s m args c cX16_listed 4 RX16 D cA tys A := B
  have hR : Rm R (gc σ) (gs σ) := by rw [hRR]; exact ⟨rfl, rfl⟩
  unfold wp_X16_listed at h
  intro H locs ls hH hl hc
  have hX : ∀ (σ9 : Sg) (E : String) (pc : Nat) (lo : List (Nat × Value)) (st : List Value), X σ9 E → RG σ9 → Shp ra jx rm σ9 → JX p l e R s m args below meth c 4 D cA A (gc σ) (gs σ) (vx_MQ below (Qw D cA A σ (fun σ' w => ∃ r, w = some (.int (i32 r)) ∧ rng r ∧ Q σ' r ∧ RG σ' ∧ Shp ra jx rm σ')) (Xw D cA A σ (fun σ' E => X σ' E ∧ RG σ' ∧ Shp ra jx rm σ')) args s (BC - gc σ) (BS - gs σ) A) σ9 E pc lo st := fun σ9 E pc lo st hx hG9 hS9 H locs ls ce q hH hl hc hce hcv hcl => e_out hH hc (fun x hx9 => (hex x hx9).elim) hlocks hce hcv hcl ⟨hx, hG9, hS9⟩
  exact a_X16_listed_0 B hT hR (by rw [hRR]; exact Nat.le_refl _) (by rw [hRR]; exact Nat.le_refl _) (fun pc ls σ9 H locs r gr hd hH hc hq hG9 hS9 => e_iret B hH hc hr rfl hlocks ⟨r, rfl, gr, hq, hG9, hS9⟩ hd) hX σ v1 g1 h hG hS H locs ls hH (lv_sub (l' := [(0, .ref rm), (1, .int (i32 v1))]) hl [0, 1] rfl) hc
theorem dX16_load_0 : decode cX16_load 0 = .ok (.iconst 0, 1) := by decide +kernel
theorem dX16_load_1 : decode cX16_load 1 = .ok (.istore_n 2, 1) := by decide +kernel
theorem dX16_load_2 : decode cX16_load 2 = .ok (.iload_n 2, 1) := by decide +kernel
theorem dX16_load_3 : decode cX16_load 3 = .ok (.bipush 8, 2) := by decide +kernel
theorem dX16_load_5 : decode cX16_load 5 = .ok (.if_icmp .ge 26, 3) := by decide +kernel
theorem dX16_load_8 : decode cX16_load 8 = .ok (.aload_n 0, 1) := by decide +kernel
theorem dX16_load_9 : decode cX16_load 9 = .ok (.getfield 542, 3) := by decide +kernel
theorem dX16_load_12 : decode cX16_load 12 = .ok (.iload_n 2, 1) := by decide +kernel
theorem dX16_load_13 : decode cX16_load 13 = .ok (.aload_n 0, 1) := by decide +kernel
theorem dX16_load_14 : decode cX16_load 14 = .ok (.getfield 867, 3) := by decide +kernel
theorem dX16_load_17 : decode cX16_load 17 = .ok (.bipush 8, 2) := by decide +kernel
theorem dX16_load_19 : decode cX16_load 19 = .ok (.iload_n 1, 1) := by decide +kernel
theorem dX16_load_20 : decode cX16_load 20 = .ok (.imul, 1) := by decide +kernel
theorem dX16_load_21 : decode cX16_load 21 = .ok (.iload_n 2, 1) := by decide +kernel
theorem dX16_load_22 : decode cX16_load 22 = .ok (.iadd, 1) := by decide +kernel
theorem dX16_load_23 : decode cX16_load 23 = .ok (.laload, 1) := by decide +kernel
theorem dX16_load_24 : decode cX16_load 24 = .ok (.lastore, 1) := by decide +kernel
theorem dX16_load_25 : decode cX16_load 25 = .ok (.iinc 2 1, 3) := by decide +kernel
theorem dX16_load_28 : decode cX16_load 28 = .ok (.goto (-26), 3) := by decide +kernel
theorem dX16_load_31 : decode cX16_load 31 = .ok (.return_, 1) := by decide +kernel
set_option maxRecDepth 20000 in
theorem a_X16_load_31 {p : Program} {l : Launch} {e : Env} {R : Room} {s : State} {m : MethodId} {args : Array Value} {below : List Frame} {meth : Method} {c : Code} {D : va_G} {cA : Nat → ClassId} {tys : List (ClassId × FieldType)} {A : Nat → Prop} {n0 s0 : Nat} {QM : State → Prop} {ra : Nat → Nat} {jx : Nat → Nat → Nat} {rm : Nat} {Q : Sg → Unit → Prop} {X : Sg → String → Prop} (B : Cx p s m args c cX16_load 3 RX16 D cA tys A) (hT : Tys cA tys) (hR : Rm R n0 s0) (hFr : 0 ≤ R.frames) (hLw : 0 ≤ R.locals) (hQ : ∀ (pc : Nat) (ls : Array Slot) (σ : Sg) (H : Heap) (locs : List Loc), decode cX16_load pc = .ok (.return_, 1) → Hd D cA A s σ H locs → CB n0 s0 σ → Q σ () → RG σ → Shp ra jx rm σ → W p l e R s m args below meth c H locs (gc σ - n0) (gs σ - s0) QM (F0 m pc ls [])) (hX : ∀ (σ : Sg) (E : String) (pc : Nat) (lo : List (Nat × Value)) (st : List Value), X σ E → RG σ → Shp ra jx rm σ → JX p l e R s m args below meth c 3 D cA A n0 s0 QM σ E pc lo st) : ∀ (σ : Sg), w_X16_load_31 ra jx rm Q X σ → RG σ → Shp ra jx rm σ → JJ p l e R s m args below meth c 3 D cA A n0 s0 QM σ 31 [(0, .ref rm)] [] := by
  intro σ h hGσ hS H locs ls hH hl hc
  unfold w_X16_load_31 at h
  exact hQ _ _ _ _ _ dX16_load_31 hH hc h hGσ hS
set_option maxRecDepth 20000 in
theorem a_X16_load_8 {p : Program} {l : Launch} {e : Env} {R : Room} {s : State} {m : MethodId} {args : Array Value} {below : List Frame} {meth : Method} {c : Code} {D : va_G} {cA : Nat → ClassId} {tys : List (ClassId × FieldType)} {A : Nat → Prop} {n0 s0 : Nat} {QM : State → Prop} {ra : Nat → Nat} {jx : Nat → Nat → Nat} {rm : Nat} {Q : Sg → Unit → Prop} {X : Sg → String → Prop} (B : Cx p s m args c cX16_load 3 RX16 D cA tys A) (hT : Tys cA tys) (hR : Rm R n0 s0) (hFr : 0 ≤ R.frames) (hLw : 0 ≤ R.locals) (hQ : ∀ (pc : Nat) (ls : Array Slot) (σ : Sg) (H : Heap) (locs : List Loc), decode cX16_load pc = .ok (.return_, 1) → Hd D cA A s σ H locs → CB n0 s0 σ → Q σ () → RG σ → Shp ra jx rm σ → W p l e R s m args below meth c H locs (gc σ - n0) (gs σ - s0) QM (F0 m pc ls [])) (hX : ∀ (σ : Sg) (E : String) (pc : Nat) (lo : List (Nat × Value)) (st : List Value), X σ E → RG σ → Shp ra jx rm σ → JX p l e R s m args below meth c 3 D cA A n0 s0 QM σ E pc lo st) {K2 : Sg → Int → Int → Prop} (hK2 : ∀ (σ : Sg) (v1 : Int) (v2 : Int) (g1 : rng v1) (g2 : rng v2), K2 σ v1 v2 → RG σ → Shp ra jx rm σ → JJ p l e R s m args below meth c 3 D cA A n0 s0 QM σ 2 [(0, .ref rm), (1, .int (i32 v1)), (2, .int (i32 v2))] []) : ∀ (σ : Sg) (v1 : Int) (v2 : Int) (g1 : rng v1) (g2 : rng v2), w_X16_load_8 ra jx rm K2 Q X σ v1 v2 → RG σ → Shp ra jx rm σ → JJ p l e R s m args below meth c 3 D cA A n0 s0 QM σ 8 [(0, .ref rm), (1, .int (i32 v1)), (2, .int (i32 v2))] [] := by
  intro σ v1 v2 g1 g2 h hGσ hS H locs ls hH hl hc
  unfold w_X16_load_8 at h
  refine lv_aload_n B.1 B.2.1 dX16_load_8 rfl (lv_at hl 0 rfl) ?_
  refine r_arr B hH hS 81 (kd := 101) (n := 8) (by decide) (by decide) wf_X16_542 rfl (by decide) dX16_load_9 ?_
  refine lv_iload_n B.1 B.2.1 dX16_load_12 rfl (lv_at hl 2 rfl) ?_
  refine lv_aload_n B.1 B.2.1 dX16_load_13 rfl (lv_at hl 0 rfl) ?_
  refine r_arr B hH hS 116 (kd := 101) (n := 32000) (by decide) (by decide) wf_X16_867 rfl (by decide) dX16_load_14 ?_
  refine lv_bipush (v := i32 8) B.1 B.2.1 dX16_load_17 (by decide) ?_
  refine lv_iload_n B.1 B.2.1 dX16_load_19 rfl (lv_at hl 1 rfl) ?_
  obtain ⟨q1, h⟩ := h
  refine lv_imul B.1 B.2.1 dX16_load_20 ?_
  rw [i32_mul]
  refine lv_iload_n B.1 B.2.1 dX16_load_21 rfl (lv_at hl 2 rfl) ?_
  obtain ⟨q2, h⟩ := h
  refine lv_iadd B.1 B.2.1 dX16_load_22 ?_
  rw [i32_add]
  obtain ⟨q3, h⟩ := h
  refine r_lald B hT hH hS 116 (n := 32000) (by decide) (by decide) q3 dX16_load_23 ?_
  obtain ⟨q4, h⟩ := h
  obtain ⟨σ3, eσ3⟩ : ∃ z, z = pJ σ (ra 81) v2.toNat (gJ σ (ra 116) ((8 * v1) + v2).toNat) := ⟨_, rfl⟩
  have h := h σ3 eσ3
  refine r_last B hT hH hS 81 (n := 8) (by decide) (by decide) q4 dX16_load_24 (fun H locs hH => ?_)
  have hH : Hd D cA A s (pJ σ (ra 81) v2.toNat (gJ σ (ra 116) ((8 * v1) + v2).toNat)) H locs := hH
  rw [← eσ3] at hH
  have hGσ3 : RG σ3 := by rw [eσ3]; exact hGσ.pJ
  have hS : Shp ra jx rm σ3 := by rw [eσ3]; exact hS
  have hc : CB n0 s0 σ3 := by rw [eσ3]; exact hc
  rw [show gc σ = gc σ3 by rw [eσ3], show gs σ = gs σ3 by rw [eσ3]]
  obtain ⟨q5, h⟩ := h
  refine lv_iinc (k := 2) (v := i32 (v2 + 1)) (lv' := [(2, .int (i32 (v2 + 1))), (0, .ref rm), (1, .int (i32 v1))]) B.1 B.2.1 dX16_load_25 hl rfl (i32_add _ _) (by decide) rfl (fun ls hl => ?_)
  refine lv_goto (tgt := 2) B.1 B.2.1 dX16_load_28 (by decide) ?_
  exact hK2 _ _ _ g1 q5 h hGσ3 hS _ _ _ hH (lv_sub (l' := [(0, .ref rm), (1, .int (i32 v1)), (2, .int (i32 (v2 + 1)))]) hl [1, 2, 0] rfl) hc
set_option maxRecDepth 20000 in
theorem a_X16_load_2 {p : Program} {l : Launch} {e : Env} {R : Room} {s : State} {m : MethodId} {args : Array Value} {below : List Frame} {meth : Method} {c : Code} {D : va_G} {cA : Nat → ClassId} {tys : List (ClassId × FieldType)} {A : Nat → Prop} {n0 s0 : Nat} {QM : State → Prop} {ra : Nat → Nat} {jx : Nat → Nat → Nat} {rm : Nat} {Q : Sg → Unit → Prop} {X : Sg → String → Prop} (B : Cx p s m args c cX16_load 3 RX16 D cA tys A) (hT : Tys cA tys) (hR : Rm R n0 s0) (hFr : 0 ≤ R.frames) (hLw : 0 ≤ R.locals) (hQ : ∀ (pc : Nat) (ls : Array Slot) (σ : Sg) (H : Heap) (locs : List Loc), decode cX16_load pc = .ok (.return_, 1) → Hd D cA A s σ H locs → CB n0 s0 σ → Q σ () → RG σ → Shp ra jx rm σ → W p l e R s m args below meth c H locs (gc σ - n0) (gs σ - s0) QM (F0 m pc ls [])) (hX : ∀ (σ : Sg) (E : String) (pc : Nat) (lo : List (Nat × Value)) (st : List Value), X σ E → RG σ → Shp ra jx rm σ → JX p l e R s m args below meth c 3 D cA A n0 s0 QM σ E pc lo st) {K2 : Sg → Int → Int → Prop} (hK2 : ∀ (σ : Sg) (v1 : Int) (v2 : Int) (g1 : rng v1) (g2 : rng v2), K2 σ v1 v2 → RG σ → Shp ra jx rm σ → JJ p l e R s m args below meth c 3 D cA A n0 s0 QM σ 2 [(0, .ref rm), (1, .int (i32 v1)), (2, .int (i32 v2))] []) : ∀ (σ : Sg) (v1 : Int) (v2 : Int) (g1 : rng v1) (g2 : rng v2), w_X16_load_2 ra jx rm K2 Q X σ v1 v2 → RG σ → Shp ra jx rm σ → JJ p l e R s m args below meth c 3 D cA A n0 s0 QM σ 2 [(0, .ref rm), (1, .int (i32 v1)), (2, .int (i32 v2))] [] := by
  intro σ v1 v2 g1 g2 h hGσ hS H locs ls hH hl hc
  unfold w_X16_load_2 at h
  refine lv_iload_n B.1 B.2.1 dX16_load_2 rfl (lv_at hl 2 rfl) ?_
  refine lv_bipush (v := i32 8) B.1 B.2.1 dX16_load_3 (by decide) ?_
  refine lv_icmp_ge (tgt := 31) B.1 B.2.1 dX16_load_5 (by decide) (fun h9 => ?_) (fun h9 => ?_)
  · rw [if_pos ((i32_le (by unfold rng; omega) g2).mp h9)] at h
    exact a_X16_load_31 B hT hR hFr hLw hQ hX _ h hGσ hS _ _ _ hH (lv_sub (l' := [(0, .ref rm)]) hl [0] rfl) hc
  · rw [if_neg (fun q => h9 ((i32_le (by unfold rng; omega) g2).mpr q))] at h
    exact a_X16_load_8 B hT hR hFr hLw hQ hX hK2 _ _ _ g1 g2 h hGσ hS _ _ _ hH (lv_sub (l' := [(0, .ref rm), (1, .int (i32 v1)), (2, .int (i32 v2))]) hl [0, 1, 2] rfl) hc
theorem al_X16_load_2 {p : Program} {l : Launch} {e : Env} {R : Room} {s : State} {m : MethodId} {args : Array Value} {below : List Frame} {meth : Method} {c : Code} {D : va_G} {cA : Nat → ClassId} {tys : List (ClassId × FieldType)} {A : Nat → Prop} {n0 s0 : Nat} {QM : State → Prop} {ra : Nat → Nat} {jx : Nat → Nat → Nat} {rm : Nat} {Q : Sg → Unit → Prop} {X : Sg → String → Prop} (B : Cx p s m args c cX16_load 3 RX16 D cA tys A) (hT : Tys cA tys) (hR : Rm R n0 s0) (hFr : 0 ≤ R.frames) (hLw : 0 ≤ R.locals) (hQ : ∀ (pc : Nat) (ls : Array Slot) (σ : Sg) (H : Heap) (locs : List Loc), decode cX16_load pc = .ok (.return_, 1) → Hd D cA A s σ H locs → CB n0 s0 σ → Q σ () → RG σ → Shp ra jx rm σ → W p l e R s m args below meth c H locs (gc σ - n0) (gs σ - s0) QM (F0 m pc ls [])) (hX : ∀ (σ : Sg) (E : String) (pc : Nat) (lo : List (Nat × Value)) (st : List Value), X σ E → RG σ → Shp ra jx rm σ → JX p l e R s m args below meth c 3 D cA A n0 s0 QM σ E pc lo st) : ∀ (n : Nat), ∀ (σ : Sg) (v1 : Int) (v2 : Int) (g1 : rng v1) (g2 : rng v2), wl_X16_load_2 ra jx rm Q X n σ v1 v2 → RG σ → Shp ra jx rm σ → JJ p l e R s m args below meth c 3 D cA A n0 s0 QM σ 2 [(0, .ref rm), (1, .int (i32 v1)), (2, .int (i32 v2))] [] := by
  intro n
  induction n with
  | zero => intro σ v1 v2 g1 g2 h; exact h.elim
  | succ n ih => exact fun σ v1 v2 g1 g2 h => a_X16_load_2 B hT hR hFr hLw hQ hX ih σ v1 v2 g1 g2 h
set_option maxRecDepth 20000 in
theorem a_X16_load_0 {p : Program} {l : Launch} {e : Env} {R : Room} {s : State} {m : MethodId} {args : Array Value} {below : List Frame} {meth : Method} {c : Code} {D : va_G} {cA : Nat → ClassId} {tys : List (ClassId × FieldType)} {A : Nat → Prop} {n0 s0 : Nat} {QM : State → Prop} {ra : Nat → Nat} {jx : Nat → Nat → Nat} {rm : Nat} {Q : Sg → Unit → Prop} {X : Sg → String → Prop} (B : Cx p s m args c cX16_load 3 RX16 D cA tys A) (hT : Tys cA tys) (hR : Rm R n0 s0) (hFr : 0 ≤ R.frames) (hLw : 0 ≤ R.locals) (hQ : ∀ (pc : Nat) (ls : Array Slot) (σ : Sg) (H : Heap) (locs : List Loc), decode cX16_load pc = .ok (.return_, 1) → Hd D cA A s σ H locs → CB n0 s0 σ → Q σ () → RG σ → Shp ra jx rm σ → W p l e R s m args below meth c H locs (gc σ - n0) (gs σ - s0) QM (F0 m pc ls [])) (hX : ∀ (σ : Sg) (E : String) (pc : Nat) (lo : List (Nat × Value)) (st : List Value), X σ E → RG σ → Shp ra jx rm σ → JX p l e R s m args below meth c 3 D cA A n0 s0 QM σ E pc lo st) : ∀ (σ : Sg) (v1 : Int) (g1 : rng v1), w_X16_load_0 ra jx rm Q X σ v1 → RG σ → Shp ra jx rm σ → JJ p l e R s m args below meth c 3 D cA A n0 s0 QM σ 0 [(0, .ref rm), (1, .int (i32 v1))] [] := by
  intro σ v1 g1 h hGσ hS H locs ls hH hl hc
  unfold w_X16_load_0 at h
  refine lv_iconst (v := i32 0) B.1 B.2.1 dX16_load_0 (by decide) ?_
  refine lv_istore_n (lv' := [(2, .int (i32 0)), (0, .ref rm), (1, .int (i32 v1))]) B.1 B.2.1 dX16_load_1 rfl hl (by decide) rfl (fun ls hl => ?_)
  obtain ⟨n9, h⟩ := h
  exact al_X16_load_2 B hT hR hFr hLw hQ hX n9 _ _ _ g1 (by unfold rng; omega) h hGσ hS _ _ _ hH (lv_sub (l' := [(0, .ref rm), (1, .int (i32 v1)), (2, .int (i32 0))]) hl [1, 2, 0] rfl) hc
theorem ok_X16_load {l : Launch} {D : va_G} {cA : Nat → ClassId} {tys : List (ClassId × FieldType)} {A : Nat → Prop} {ra : Nat → Nat} {jx : Nat → Nat → Nat} {rm : Nat} (hT : Tys cA tys) {Q : Sg → Unit → Prop} {X : Sg → String → Prop} (σ : Sg) (v1 : Int) (g1 : rng v1) (hG : RG σ) (hS : Shp ra jx rm σ) (h : wp_X16_load ra jx rm v1 σ Q X) : Ok l D cA tys A yX16_load (.code yX16_load cX16_load 3 none) 0 0 [.ref rm, .int (i32 v1)] σ (fun σ' w => w = none ∧ Q σ' () ∧ RG σ' ∧ Shp ra jx rm σ') (fun σ' E => X σ' E ∧ RG σ' ∧ Shp ra jx rm σ') := by
  refine ok_of (ret := none) (by decide) (Nat.le_of_ble_eq_true rfl) ?_
  intro p e R s m args below meth c hRR B hr hlocks hex _
  have B : Cx p s m args c cX16_load 3 RX16 D cA tys A := B
  have hR : Rm R (gc σ) (gs σ) := by rw [hRR]; exact ⟨rfl, rfl⟩
  unfold wp_X16_load at h
  intro H locs ls hH hl hc
  have hX : ∀ (σ9 : Sg) (E : String) (pc : Nat) (lo : List (Nat × Value)) (st : List Value), X σ9 E → RG σ9 → Shp ra jx rm σ9 → JX p l e R s m args below meth c 3 D cA A (gc σ) (gs σ) (vx_MQ below (Qw D cA A σ (fun σ' w => w = none ∧ Q σ' () ∧ RG σ' ∧ Shp ra jx rm σ')) (Xw D cA A σ (fun σ' E => X σ' E ∧ RG σ' ∧ Shp ra jx rm σ')) args s (BC - gc σ) (BS - gs σ) A) σ9 E pc lo st := fun σ9 E pc lo st hx hG9 hS9 H locs ls ce q hH hl hc hce hcv hcl => e_out hH hc (fun x hx9 => (hex x hx9).elim) hlocks hce hcv hcl ⟨hx, hG9, hS9⟩
  exact a_X16_load_0 B hT hR (by rw [hRR]; exact Nat.le_refl _) (by rw [hRR]; exact Nat.le_refl _) (fun pc ls σ9 H locs hd hH hc hq hG9 hS9 => e_vret B hH hc hr hlocks ⟨rfl, hq, hG9, hS9⟩ hd) hX σ v1 g1 h hG hS H locs ls hH (lv_sub (l' := [(0, .ref rm), (1, .int (i32 v1))]) hl [0, 1] rfl) hc
theorem dX16_mark_0 : decode cX16_mark 0 = .ok (.aload_n 0, 1) := by decide +kernel
theorem dX16_mark_1 : decode cX16_mark 1 = .ok (.aload_n 0, 1) := by decide +kernel
theorem dX16_mark_2 : decode cX16_mark 2 = .ok (.getfield 852, 3) := by decide +kernel
theorem dX16_mark_5 : decode cX16_mark 5 = .ok (.ifCond .eq 24, 3) := by decide +kernel
theorem dX16_mark_8 : decode cX16_mark 8 = .ok (.aload_n 0, 1) := by decide +kernel
theorem dX16_mark_9 : decode cX16_mark 9 = .ok (.getfield 688, 3) := by decide +kernel
theorem dX16_mark_12 : decode cX16_mark 12 = .ok (.ifCond .ne 17, 3) := by decide +kernel
theorem dX16_mark_15 : decode cX16_mark 15 = .ok (.aload_n 0, 1) := by decide +kernel
theorem dX16_mark_16 : decode cX16_mark 16 = .ok (.getfield 831, 3) := by decide +kernel
theorem dX16_mark_19 : decode cX16_mark 19 = .ok (.ifCond .ne 10, 3) := by decide +kernel
theorem dX16_mark_22 : decode cX16_mark 22 = .ok (.aload_n 0, 1) := by decide +kernel
theorem dX16_mark_23 : decode cX16_mark 23 = .ok (.getfield 742, 3) := by decide +kernel
theorem dX16_mark_26 : decode cX16_mark 26 = .ok (.ifCond .le 7, 3) := by decide +kernel
theorem dX16_mark_29 : decode cX16_mark 29 = .ok (.iconst 1, 1) := by decide +kernel
theorem dX16_mark_30 : decode cX16_mark 30 = .ok (.goto 4, 3) := by decide +kernel
theorem dX16_mark_33 : decode cX16_mark 33 = .ok (.iconst 0, 1) := by decide +kernel
theorem dX16_mark_34 : decode cX16_mark 34 = .ok (.putfield 1, 3) := by decide +kernel
theorem dX16_mark_37 : decode cX16_mark 37 = .ok (.aload_n 0, 1) := by decide +kernel
theorem dX16_mark_38 : decode cX16_mark 38 = .ok (.getfield 1, 3) := by decide +kernel
theorem dX16_mark_41 : decode cX16_mark 41 = .ok (.ifCond .le 5, 3) := by decide +kernel
theorem dX16_mark_44 : decode cX16_mark 44 = .ok (.iconst 0, 1) := by decide +kernel
theorem dX16_mark_45 : decode cX16_mark 45 = .ok (.ireturn, 1) := by decide +kernel
theorem dX16_mark_46 : decode cX16_mark 46 = .ok (.aload_n 0, 1) := by decide +kernel
theorem dX16_mark_47 : decode cX16_mark 47 = .ok (.dup, 1) := by decide +kernel
theorem dX16_mark_48 : decode cX16_mark 48 = .ok (.getfield 855, 3) := by decide +kernel
theorem dX16_mark_51 : decode cX16_mark 51 = .ok (.iconst 1, 1) := by decide +kernel
theorem dX16_mark_52 : decode cX16_mark 52 = .ok (.iadd, 1) := by decide +kernel
theorem dX16_mark_53 : decode cX16_mark 53 = .ok (.putfield 855, 3) := by decide +kernel
theorem dX16_mark_56 : decode cX16_mark 56 = .ok (.aload_n 0, 1) := by decide +kernel
theorem dX16_mark_57 : decode cX16_mark 57 = .ok (.aload_n 0, 1) := by decide +kernel
theorem dX16_mark_58 : decode cX16_mark 58 = .ok (.getfield 855, 3) := by decide +kernel
theorem dX16_mark_61 : decode cX16_mark 61 = .ok (.putfield 742, 3) := by decide +kernel
theorem dX16_mark_64 : decode cX16_mark 64 = .ok (.aload_n 0, 1) := by decide +kernel
theorem dX16_mark_65 : decode cX16_mark 65 = .ok (.getfield 703, 3) := by decide +kernel
theorem dX16_mark_68 : decode cX16_mark 68 = .ok (.iconst 1, 1) := by decide +kernel
theorem dX16_mark_69 : decode cX16_mark 69 = .ok (.iconst 0, 1) := by decide +kernel
theorem dX16_mark_70 : decode cX16_mark 70 = .ok (.iastore, 1) := by decide +kernel
theorem dX16_mark_71 : decode cX16_mark 71 = .ok (.aload_n 0, 1) := by decide +kernel
theorem dX16_mark_72 : decode cX16_mark 72 = .ok (.getfield 748, 3) := by decide +kernel
theorem dX16_mark_75 : decode cX16_mark 75 = .ok (.iconst 1, 1) := by decide +kernel
theorem dX16_mark_76 : decode cX16_mark 76 = .ok (.aload_n 0, 1) := by decide +kernel
theorem dX16_mark_77 : decode cX16_mark 77 = .ok (.getfield 365, 3) := by decide +kernel
theorem dX16_mark_80 : decode cX16_mark 80 = .ok (.iastore, 1) := by decide +kernel
theorem dX16_mark_81 : decode cX16_mark 81 = .ok (.aload_n 0, 1) := by decide +kernel
theorem dX16_mark_82 : decode cX16_mark 82 = .ok (.getfield 742, 3) := by decide +kernel
theorem dX16_mark_85 : decode cX16_mark 85 = .ok (.ireturn, 1) := by decide +kernel
set_option maxRecDepth 20000 in
theorem a_X16_mark_46 {p : Program} {l : Launch} {e : Env} {R : Room} {s : State} {m : MethodId} {args : Array Value} {below : List Frame} {meth : Method} {c : Code} {D : va_G} {cA : Nat → ClassId} {tys : List (ClassId × FieldType)} {A : Nat → Prop} {n0 s0 : Nat} {QM : State → Prop} {ra : Nat → Nat} {jx : Nat → Nat → Nat} {rm : Nat} {Q : Sg → Int → Prop} {X : Sg → String → Prop} (B : Cx p s m args c cX16_mark 1 RX16 D cA tys A) (hT : Tys cA tys) (hR : Rm R n0 s0) (hFr : 0 ≤ R.frames) (hLw : 0 ≤ R.locals) (hQ : ∀ (pc : Nat) (ls : Array Slot) (σ : Sg) (H : Heap) (locs : List Loc) (r : Int) (gr : rng r), decode cX16_mark pc = .ok (.ireturn, 1) → Hd D cA A s σ H locs → CB n0 s0 σ → Q σ r → RG σ → Shp ra jx rm σ → W p l e R s m args below meth c H locs (gc σ - n0) (gs σ - s0) QM (F0 m pc ls [.int (i32 r)])) (hX : ∀ (σ : Sg) (E : String) (pc : Nat) (lo : List (Nat × Value)) (st : List Value), X σ E → RG σ → Shp ra jx rm σ → JX p l e R s m args below meth c 1 D cA A n0 s0 QM σ E pc lo st) : ∀ (σ : Sg), w_X16_mark_46 ra jx rm Q X σ → RG σ → Shp ra jx rm σ → JJ p l e R s m args below meth c 1 D cA A n0 s0 QM σ 46 [(0, .ref rm)] [] := by
  intro σ h hGσ hS H locs ls hH hl hc
  unfold w_X16_mark_46 at h
  refine lv_aload_n B.1 B.2.1 dX16_mark_46 rfl (lv_at hl 0 rfl) ?_
  refine lv_dup B.1 B.2.1 dX16_mark_47 rfl ?_
  refine r_geti B hH hS 94 (by decide) wf_X16_855 rfl (by decide) dX16_mark_48 ?_
  refine lv_iconst (v := i32 1) B.1 B.2.1 dX16_mark_51 (by decide) ?_
  obtain ⟨q1, h⟩ := h
  refine lv_iadd B.1 B.2.1 dX16_mark_52 ?_
  rw [i32_add]
  obtain ⟨σ11, eσ11⟩ : ∃ z, z = pI σ rm 94 (gI σ rm 94 + 1) := ⟨_, rfl⟩
  have h := h σ11 eσ11
  refine r_puti B hH hS 94 (ty := .int) (by decide) wf_X16_855 rfl rfl (by decide) rfl rfl rfl dX16_mark_53 (fun H locs hH => ?_)
  have hH : Hd D cA A s (pI σ rm 94 (gI σ rm 94 + 1)) H locs := hH
  rw [← eσ11] at hH
  have hGσ11 : RG σ11 := by rw [eσ11]; exact hGσ.pI q1
  have hS : Shp ra jx rm σ11 := by rw [eσ11]; exact hS
  have hc : CB n0 s0 σ11 := by rw [eσ11]; exact hc
  rw [show gc σ = gc σ11 by rw [eσ11], show gs σ = gs σ11 by rw [eσ11]]
  refine lv_aload_n B.1 B.2.1 dX16_mark_56 rfl (lv_at hl 0 rfl) ?_
  refine lv_aload_n B.1 B.2.1 dX16_mark_57 rfl (lv_at hl 0 rfl) ?_
  refine r_geti B hH hS 94 (by decide) wf_X16_855 rfl (by decide) dX16_mark_58 ?_
  obtain ⟨σ12, eσ12⟩ : ∃ z, z = pI σ11 rm 93 (gI σ11 rm 94) := ⟨_, rfl⟩
  have h := h σ12 eσ12
  refine r_puti B hH hS 93 (ty := .int) (by decide) wf_X16_742 rfl rfl (by decide) rfl rfl rfl dX16_mark_61 (fun H locs hH => ?_)
  have hH : Hd D cA A s (pI σ11 rm 93 (gI σ11 rm 94)) H locs := hH
  rw [← eσ12] at hH
  have hGσ12 : RG σ12 := by rw [eσ12]; exact hGσ11.pI (hGσ11 _ _)
  have hS : Shp ra jx rm σ12 := by rw [eσ12]; exact hS
  have hc : CB n0 s0 σ12 := by rw [eσ12]; exact hc
  rw [show gc σ11 = gc σ12 by rw [eσ12], show gs σ11 = gs σ12 by rw [eσ12]]
  refine lv_aload_n B.1 B.2.1 dX16_mark_64 rfl (lv_at hl 0 rfl) ?_
  refine r_arr B hH hS 98 (kd := 100) (n := 2) (by decide) (by decide) wf_X16_703 rfl (by decide) dX16_mark_65 ?_
  refine lv_iconst (v := i32 1) B.1 B.2.1 dX16_mark_68 (by decide) ?_
  refine lv_iconst (v := i32 0) B.1 B.2.1 dX16_mark_69 (by decide) ?_
  obtain ⟨σ13, eσ13⟩ : ∃ z, z = pI σ12 (ra 98) 1 0 := ⟨_, rfl⟩
  have h := h σ13 eσ13
  refine r_iast B hT hH hS 98 (n := 2) (by decide) (by decide) (by decide) dX16_mark_70 (fun H locs hH => ?_)
  have hH : Hd D cA A s (pI σ12 (ra 98) 1 0) H locs := hH
  rw [← eσ13] at hH
  have hGσ13 : RG σ13 := by rw [eσ13]; exact hGσ12.pI (by unfold rng; omega)
  have hS : Shp ra jx rm σ13 := by rw [eσ13]; exact hS
  have hc : CB n0 s0 σ13 := by rw [eσ13]; exact hc
  rw [show gc σ12 = gc σ13 by rw [eσ13], show gs σ12 = gs σ13 by rw [eσ13]]
  refine lv_aload_n B.1 B.2.1 dX16_mark_71 rfl (lv_at hl 0 rfl) ?_
  refine r_arr B hH hS 97 (kd := 100) (n := 2) (by decide) (by decide) wf_X16_748 rfl (by decide) dX16_mark_72 ?_
  refine lv_iconst (v := i32 1) B.1 B.2.1 dX16_mark_75 (by decide) ?_
  refine lv_aload_n B.1 B.2.1 dX16_mark_76 rfl (lv_at hl 0 rfl) ?_
  refine r_geti B hH hS 33 (by decide) wf_X16_365 rfl (by decide) dX16_mark_77 ?_
  obtain ⟨σ14, eσ14⟩ : ∃ z, z = pI σ13 (ra 97) 1 (gI σ13 rm 33) := ⟨_, rfl⟩
  have h := h σ14 eσ14
  refine r_iast B hT hH hS 97 (n := 2) (by decide) (by decide) (by decide) dX16_mark_80 (fun H locs hH => ?_)
  have hH : Hd D cA A s (pI σ13 (ra 97) 1 (gI σ13 rm 33)) H locs := hH
  rw [← eσ14] at hH
  have hGσ14 : RG σ14 := by rw [eσ14]; exact hGσ13.pI (hGσ13 _ _)
  have hS : Shp ra jx rm σ14 := by rw [eσ14]; exact hS
  have hc : CB n0 s0 σ14 := by rw [eσ14]; exact hc
  rw [show gc σ13 = gc σ14 by rw [eσ14], show gs σ13 = gs σ14 by rw [eσ14]]
  refine lv_aload_n B.1 B.2.1 dX16_mark_81 rfl (lv_at hl 0 rfl) ?_
  refine r_geti B hH hS 93 (by decide) wf_X16_742 rfl (by decide) dX16_mark_82 ?_
  exact hQ _ _ _ _ _ _ (hGσ14 _ _) dX16_mark_85 hH hc h hGσ14 hS
set_option maxRecDepth 20000 in
theorem a_X16_mark_44 {p : Program} {l : Launch} {e : Env} {R : Room} {s : State} {m : MethodId} {args : Array Value} {below : List Frame} {meth : Method} {c : Code} {D : va_G} {cA : Nat → ClassId} {tys : List (ClassId × FieldType)} {A : Nat → Prop} {n0 s0 : Nat} {QM : State → Prop} {ra : Nat → Nat} {jx : Nat → Nat → Nat} {rm : Nat} {Q : Sg → Int → Prop} {X : Sg → String → Prop} (B : Cx p s m args c cX16_mark 1 RX16 D cA tys A) (hT : Tys cA tys) (hR : Rm R n0 s0) (hFr : 0 ≤ R.frames) (hLw : 0 ≤ R.locals) (hQ : ∀ (pc : Nat) (ls : Array Slot) (σ : Sg) (H : Heap) (locs : List Loc) (r : Int) (gr : rng r), decode cX16_mark pc = .ok (.ireturn, 1) → Hd D cA A s σ H locs → CB n0 s0 σ → Q σ r → RG σ → Shp ra jx rm σ → W p l e R s m args below meth c H locs (gc σ - n0) (gs σ - s0) QM (F0 m pc ls [.int (i32 r)])) (hX : ∀ (σ : Sg) (E : String) (pc : Nat) (lo : List (Nat × Value)) (st : List Value), X σ E → RG σ → Shp ra jx rm σ → JX p l e R s m args below meth c 1 D cA A n0 s0 QM σ E pc lo st) : ∀ (σ : Sg), w_X16_mark_44 ra jx rm Q X σ → RG σ → Shp ra jx rm σ → JJ p l e R s m args below meth c 1 D cA A n0 s0 QM σ 44 [(0, .ref rm)] [] := by
  intro σ h hGσ hS H locs ls hH hl hc
  unfold w_X16_mark_44 at h
  refine lv_iconst (v := i32 0) B.1 B.2.1 dX16_mark_44 (by decide) ?_
  exact hQ _ _ _ _ _ _ (by unfold rng; omega) dX16_mark_45 hH hc h hGσ hS
set_option maxRecDepth 20000 in
theorem a_X16_mark_34 {p : Program} {l : Launch} {e : Env} {R : Room} {s : State} {m : MethodId} {args : Array Value} {below : List Frame} {meth : Method} {c : Code} {D : va_G} {cA : Nat → ClassId} {tys : List (ClassId × FieldType)} {A : Nat → Prop} {n0 s0 : Nat} {QM : State → Prop} {ra : Nat → Nat} {jx : Nat → Nat → Nat} {rm : Nat} {Q : Sg → Int → Prop} {X : Sg → String → Prop} (B : Cx p s m args c cX16_mark 1 RX16 D cA tys A) (hT : Tys cA tys) (hR : Rm R n0 s0) (hFr : 0 ≤ R.frames) (hLw : 0 ≤ R.locals) (hQ : ∀ (pc : Nat) (ls : Array Slot) (σ : Sg) (H : Heap) (locs : List Loc) (r : Int) (gr : rng r), decode cX16_mark pc = .ok (.ireturn, 1) → Hd D cA A s σ H locs → CB n0 s0 σ → Q σ r → RG σ → Shp ra jx rm σ → W p l e R s m args below meth c H locs (gc σ - n0) (gs σ - s0) QM (F0 m pc ls [.int (i32 r)])) (hX : ∀ (σ : Sg) (E : String) (pc : Nat) (lo : List (Nat × Value)) (st : List Value), X σ E → RG σ → Shp ra jx rm σ → JX p l e R s m args below meth c 1 D cA A n0 s0 QM σ E pc lo st) : ∀ (σ : Sg) (u0 : Int) (gu0 : rng u0), w_X16_mark_34 ra jx rm Q X σ u0 → RG σ → Shp ra jx rm σ → JJ p l e R s m args below meth c 1 D cA A n0 s0 QM σ 34 [(0, .ref rm)] [.int (i32 u0), .ref rm] := by
  intro σ u0 gu0 h hGσ hS H locs ls hH hl hc
  unfold w_X16_mark_34 at h
  obtain ⟨σ15, eσ15⟩ : ∃ z, z = pI σ rm 0 u0 := ⟨_, rfl⟩
  have h := h σ15 eσ15
  refine r_puti B hH hS 0 (ty := .int) (by decide) wf_X16_1 rfl rfl (by decide) rfl rfl rfl dX16_mark_34 (fun H locs hH => ?_)
  have hH : Hd D cA A s (pI σ rm 0 u0) H locs := hH
  rw [← eσ15] at hH
  have hGσ15 : RG σ15 := by rw [eσ15]; exact hGσ.pI gu0
  have hS : Shp ra jx rm σ15 := by rw [eσ15]; exact hS
  have hc : CB n0 s0 σ15 := by rw [eσ15]; exact hc
  rw [show gc σ = gc σ15 by rw [eσ15], show gs σ = gs σ15 by rw [eσ15]]
  refine lv_aload_n B.1 B.2.1 dX16_mark_37 rfl (lv_at hl 0 rfl) ?_
  refine r_geti B hH hS 0 (by decide) wf_X16_1 rfl (by decide) dX16_mark_38 ?_
  refine lv_if_le (tgt := 46) B.1 B.2.1 dX16_mark_41 (by decide) (fun h9 => ?_) (fun h9 => ?_)
  · rw [if_pos ((z_le (hGσ15 _ _)).mp h9)] at h
    exact a_X16_mark_46 B hT hR hFr hLw hQ hX _ h hGσ15 hS _ _ _ hH (lv_sub (l' := [(0, .ref rm)]) hl [0] rfl) hc
  · rw [if_neg (fun q => h9 ((z_le (hGσ15 _ _)).mpr q))] at h
    exact a_X16_mark_44 B hT hR hFr hLw hQ hX _ h hGσ15 hS _ _ _ hH (lv_sub (l' := [(0, .ref rm)]) hl [0] rfl) hc
set_option maxRecDepth 20000 in
theorem a_X16_mark_29 {p : Program} {l : Launch} {e : Env} {R : Room} {s : State} {m : MethodId} {args : Array Value} {below : List Frame} {meth : Method} {c : Code} {D : va_G} {cA : Nat → ClassId} {tys : List (ClassId × FieldType)} {A : Nat → Prop} {n0 s0 : Nat} {QM : State → Prop} {ra : Nat → Nat} {jx : Nat → Nat → Nat} {rm : Nat} {Q : Sg → Int → Prop} {X : Sg → String → Prop} (B : Cx p s m args c cX16_mark 1 RX16 D cA tys A) (hT : Tys cA tys) (hR : Rm R n0 s0) (hFr : 0 ≤ R.frames) (hLw : 0 ≤ R.locals) (hQ : ∀ (pc : Nat) (ls : Array Slot) (σ : Sg) (H : Heap) (locs : List Loc) (r : Int) (gr : rng r), decode cX16_mark pc = .ok (.ireturn, 1) → Hd D cA A s σ H locs → CB n0 s0 σ → Q σ r → RG σ → Shp ra jx rm σ → W p l e R s m args below meth c H locs (gc σ - n0) (gs σ - s0) QM (F0 m pc ls [.int (i32 r)])) (hX : ∀ (σ : Sg) (E : String) (pc : Nat) (lo : List (Nat × Value)) (st : List Value), X σ E → RG σ → Shp ra jx rm σ → JX p l e R s m args below meth c 1 D cA A n0 s0 QM σ E pc lo st) : ∀ (σ : Sg), w_X16_mark_29 ra jx rm Q X σ → RG σ → Shp ra jx rm σ → JJ p l e R s m args below meth c 1 D cA A n0 s0 QM σ 29 [(0, .ref rm)] [.ref rm] := by
  intro σ h hGσ hS H locs ls hH hl hc
  unfold w_X16_mark_29 at h
  refine lv_iconst (v := i32 1) B.1 B.2.1 dX16_mark_29 (by decide) ?_
  refine lv_goto (tgt := 34) B.1 B.2.1 dX16_mark_30 (by decide) ?_
  exact a_X16_mark_34 B hT hR hFr hLw hQ hX _ _ (by unfold rng; omega) h hGσ hS _ _ _ hH (lv_sub (l' := [(0, .ref rm)]) hl [0] rfl) hc
set_option maxRecDepth 20000 in
theorem a_X16_mark_33 {p : Program} {l : Launch} {e : Env} {R : Room} {s : State} {m : MethodId} {args : Array Value} {below : List Frame} {meth : Method} {c : Code} {D : va_G} {cA : Nat → ClassId} {tys : List (ClassId × FieldType)} {A : Nat → Prop} {n0 s0 : Nat} {QM : State → Prop} {ra : Nat → Nat} {jx : Nat → Nat → Nat} {rm : Nat} {Q : Sg → Int → Prop} {X : Sg → String → Prop} (B : Cx p s m args c cX16_mark 1 RX16 D cA tys A) (hT : Tys cA tys) (hR : Rm R n0 s0) (hFr : 0 ≤ R.frames) (hLw : 0 ≤ R.locals) (hQ : ∀ (pc : Nat) (ls : Array Slot) (σ : Sg) (H : Heap) (locs : List Loc) (r : Int) (gr : rng r), decode cX16_mark pc = .ok (.ireturn, 1) → Hd D cA A s σ H locs → CB n0 s0 σ → Q σ r → RG σ → Shp ra jx rm σ → W p l e R s m args below meth c H locs (gc σ - n0) (gs σ - s0) QM (F0 m pc ls [.int (i32 r)])) (hX : ∀ (σ : Sg) (E : String) (pc : Nat) (lo : List (Nat × Value)) (st : List Value), X σ E → RG σ → Shp ra jx rm σ → JX p l e R s m args below meth c 1 D cA A n0 s0 QM σ E pc lo st) : ∀ (σ : Sg), w_X16_mark_33 ra jx rm Q X σ → RG σ → Shp ra jx rm σ → JJ p l e R s m args below meth c 1 D cA A n0 s0 QM σ 33 [(0, .ref rm)] [.ref rm] := by
  intro σ h hGσ hS H locs ls hH hl hc
  unfold w_X16_mark_33 at h
  refine lv_iconst (v := i32 0) B.1 B.2.1 dX16_mark_33 (by decide) ?_
  exact a_X16_mark_34 B hT hR hFr hLw hQ hX _ _ (by unfold rng; omega) h hGσ hS _ _ _ hH (lv_sub (l' := [(0, .ref rm)]) hl [0] rfl) hc
set_option maxRecDepth 20000 in
theorem a_X16_mark_22 {p : Program} {l : Launch} {e : Env} {R : Room} {s : State} {m : MethodId} {args : Array Value} {below : List Frame} {meth : Method} {c : Code} {D : va_G} {cA : Nat → ClassId} {tys : List (ClassId × FieldType)} {A : Nat → Prop} {n0 s0 : Nat} {QM : State → Prop} {ra : Nat → Nat} {jx : Nat → Nat → Nat} {rm : Nat} {Q : Sg → Int → Prop} {X : Sg → String → Prop} (B : Cx p s m args c cX16_mark 1 RX16 D cA tys A) (hT : Tys cA tys) (hR : Rm R n0 s0) (hFr : 0 ≤ R.frames) (hLw : 0 ≤ R.locals) (hQ : ∀ (pc : Nat) (ls : Array Slot) (σ : Sg) (H : Heap) (locs : List Loc) (r : Int) (gr : rng r), decode cX16_mark pc = .ok (.ireturn, 1) → Hd D cA A s σ H locs → CB n0 s0 σ → Q σ r → RG σ → Shp ra jx rm σ → W p l e R s m args below meth c H locs (gc σ - n0) (gs σ - s0) QM (F0 m pc ls [.int (i32 r)])) (hX : ∀ (σ : Sg) (E : String) (pc : Nat) (lo : List (Nat × Value)) (st : List Value), X σ E → RG σ → Shp ra jx rm σ → JX p l e R s m args below meth c 1 D cA A n0 s0 QM σ E pc lo st) : ∀ (σ : Sg), w_X16_mark_22 ra jx rm Q X σ → RG σ → Shp ra jx rm σ → JJ p l e R s m args below meth c 1 D cA A n0 s0 QM σ 22 [(0, .ref rm)] [.ref rm] := by
  intro σ h hGσ hS H locs ls hH hl hc
  unfold w_X16_mark_22 at h
  refine lv_aload_n B.1 B.2.1 dX16_mark_22 rfl (lv_at hl 0 rfl) ?_
  refine r_geti B hH hS 93 (by decide) wf_X16_742 rfl (by decide) dX16_mark_23 ?_
  refine lv_if_le (tgt := 33) B.1 B.2.1 dX16_mark_26 (by decide) (fun h9 => ?_) (fun h9 => ?_)
  · rw [if_pos ((z_le (hGσ _ _)).mp h9)] at h
    exact a_X16_mark_33 B hT hR hFr hLw hQ hX _ h hGσ hS _ _ _ hH (lv_sub (l' := [(0, .ref rm)]) hl [0] rfl) hc
  · rw [if_neg (fun q => h9 ((z_le (hGσ _ _)).mpr q))] at h
    exact a_X16_mark_29 B hT hR hFr hLw hQ hX _ h hGσ hS _ _ _ hH (lv_sub (l' := [(0, .ref rm)]) hl [0] rfl) hc
set_option maxRecDepth 20000 in
theorem a_X16_mark_15 {p : Program} {l : Launch} {e : Env} {R : Room} {s : State} {m : MethodId} {args : Array Value} {below : List Frame} {meth : Method} {c : Code} {D : va_G} {cA : Nat → ClassId} {tys : List (ClassId × FieldType)} {A : Nat → Prop} {n0 s0 : Nat} {QM : State → Prop} {ra : Nat → Nat} {jx : Nat → Nat → Nat} {rm : Nat} {Q : Sg → Int → Prop} {X : Sg → String → Prop} (B : Cx p s m args c cX16_mark 1 RX16 D cA tys A) (hT : Tys cA tys) (hR : Rm R n0 s0) (hFr : 0 ≤ R.frames) (hLw : 0 ≤ R.locals) (hQ : ∀ (pc : Nat) (ls : Array Slot) (σ : Sg) (H : Heap) (locs : List Loc) (r : Int) (gr : rng r), decode cX16_mark pc = .ok (.ireturn, 1) → Hd D cA A s σ H locs → CB n0 s0 σ → Q σ r → RG σ → Shp ra jx rm σ → W p l e R s m args below meth c H locs (gc σ - n0) (gs σ - s0) QM (F0 m pc ls [.int (i32 r)])) (hX : ∀ (σ : Sg) (E : String) (pc : Nat) (lo : List (Nat × Value)) (st : List Value), X σ E → RG σ → Shp ra jx rm σ → JX p l e R s m args below meth c 1 D cA A n0 s0 QM σ E pc lo st) : ∀ (σ : Sg), w_X16_mark_15 ra jx rm Q X σ → RG σ → Shp ra jx rm σ → JJ p l e R s m args below meth c 1 D cA A n0 s0 QM σ 15 [(0, .ref rm)] [.ref rm] := by
  intro σ h hGσ hS H locs ls hH hl hc
  unfold w_X16_mark_15 at h
  refine lv_aload_n B.1 B.2.1 dX16_mark_15 rfl (lv_at hl 0 rfl) ?_
  refine r_geti B hH hS 31 (by decide) wf_X16_831 rfl (by decide) dX16_mark_16 ?_
  refine lv_if_ne (tgt := 29) B.1 B.2.1 dX16_mark_19 (by decide) (fun h9 => ?_) (fun h9 => ?_)
  · rw [if_pos (fun q => h9 ((z_eq (hGσ _ _)).mpr q))] at h
    exact a_X16_mark_29 B hT hR hFr hLw hQ hX _ h hGσ hS _ _ _ hH (lv_sub (l' := [(0, .ref rm)]) hl [0] rfl) hc
  · rw [if_neg (fun q => q ((z_eq (hGσ _ _)).mp h9))] at h
    exact a_X16_mark_22 B hT hR hFr hLw hQ hX _ h hGσ hS _ _ _ hH (lv_sub (l' := [(0, .ref rm)]) hl [0] rfl) hc
set_option maxRecDepth 20000 in
theorem a_X16_mark_8 {p : Program} {l : Launch} {e : Env} {R : Room} {s : State} {m : MethodId} {args : Array Value} {below : List Frame} {meth : Method} {c : Code} {D : va_G} {cA : Nat → ClassId} {tys : List (ClassId × FieldType)} {A : Nat → Prop} {n0 s0 : Nat} {QM : State → Prop} {ra : Nat → Nat} {jx : Nat → Nat → Nat} {rm : Nat} {Q : Sg → Int → Prop} {X : Sg → String → Prop} (B : Cx p s m args c cX16_mark 1 RX16 D cA tys A) (hT : Tys cA tys) (hR : Rm R n0 s0) (hFr : 0 ≤ R.frames) (hLw : 0 ≤ R.locals) (hQ : ∀ (pc : Nat) (ls : Array Slot) (σ : Sg) (H : Heap) (locs : List Loc) (r : Int) (gr : rng r), decode cX16_mark pc = .ok (.ireturn, 1) → Hd D cA A s σ H locs → CB n0 s0 σ → Q σ r → RG σ → Shp ra jx rm σ → W p l e R s m args below meth c H locs (gc σ - n0) (gs σ - s0) QM (F0 m pc ls [.int (i32 r)])) (hX : ∀ (σ : Sg) (E : String) (pc : Nat) (lo : List (Nat × Value)) (st : List Value), X σ E → RG σ → Shp ra jx rm σ → JX p l e R s m args below meth c 1 D cA A n0 s0 QM σ E pc lo st) : ∀ (σ : Sg), w_X16_mark_8 ra jx rm Q X σ → RG σ → Shp ra jx rm σ → JJ p l e R s m args below meth c 1 D cA A n0 s0 QM σ 8 [(0, .ref rm)] [.ref rm] := by
  intro σ h hGσ hS H locs ls hH hl hc
  unfold w_X16_mark_8 at h
  refine lv_aload_n B.1 B.2.1 dX16_mark_8 rfl (lv_at hl 0 rfl) ?_
  refine r_geti B hH hS 32 (by decide) wf_X16_688 rfl (by decide) dX16_mark_9 ?_
  refine lv_if_ne (tgt := 29) B.1 B.2.1 dX16_mark_12 (by decide) (fun h9 => ?_) (fun h9 => ?_)
  · rw [if_pos (fun q => h9 ((z_eq (hGσ _ _)).mpr q))] at h
    exact a_X16_mark_29 B hT hR hFr hLw hQ hX _ h hGσ hS _ _ _ hH (lv_sub (l' := [(0, .ref rm)]) hl [0] rfl) hc
  · rw [if_neg (fun q => q ((z_eq (hGσ _ _)).mp h9))] at h
    exact a_X16_mark_15 B hT hR hFr hLw hQ hX _ h hGσ hS _ _ _ hH (lv_sub (l' := [(0, .ref rm)]) hl [0] rfl) hc
set_option maxRecDepth 20000 in
theorem a_X16_mark_0 {p : Program} {l : Launch} {e : Env} {R : Room} {s : State} {m : MethodId} {args : Array Value} {below : List Frame} {meth : Method} {c : Code} {D : va_G} {cA : Nat → ClassId} {tys : List (ClassId × FieldType)} {A : Nat → Prop} {n0 s0 : Nat} {QM : State → Prop} {ra : Nat → Nat} {jx : Nat → Nat → Nat} {rm : Nat} {Q : Sg → Int → Prop} {X : Sg → String → Prop} (B : Cx p s m args c cX16_mark 1 RX16 D cA tys A) (hT : Tys cA tys) (hR : Rm R n0 s0) (hFr : 0 ≤ R.frames) (hLw : 0 ≤ R.locals) (hQ : ∀ (pc : Nat) (ls : Array Slot) (σ : Sg) (H : Heap) (locs : List Loc) (r : Int) (gr : rng r), decode cX16_mark pc = .ok (.ireturn, 1) → Hd D cA A s σ H locs → CB n0 s0 σ → Q σ r → RG σ → Shp ra jx rm σ → W p l e R s m args below meth c H locs (gc σ - n0) (gs σ - s0) QM (F0 m pc ls [.int (i32 r)])) (hX : ∀ (σ : Sg) (E : String) (pc : Nat) (lo : List (Nat × Value)) (st : List Value), X σ E → RG σ → Shp ra jx rm σ → JX p l e R s m args below meth c 1 D cA A n0 s0 QM σ E pc lo st) : ∀ (σ : Sg), w_X16_mark_0 ra jx rm Q X σ → RG σ → Shp ra jx rm σ → JJ p l e R s m args below meth c 1 D cA A n0 s0 QM σ 0 [(0, .ref rm)] [] := by
  intro σ h hGσ hS H locs ls hH hl hc
  unfold w_X16_mark_0 at h
  refine lv_aload_n B.1 B.2.1 dX16_mark_0 rfl (lv_at hl 0 rfl) ?_
  refine lv_aload_n B.1 B.2.1 dX16_mark_1 rfl (lv_at hl 0 rfl) ?_
  refine r_geti B hH hS 30 (by decide) wf_X16_852 rfl (by decide) dX16_mark_2 ?_
  refine lv_if_eq (tgt := 29) B.1 B.2.1 dX16_mark_5 (by decide) (fun h9 => ?_) (fun h9 => ?_)
  · rw [if_pos ((z_eq (hGσ _ _)).mp h9)] at h
    exact a_X16_mark_29 B hT hR hFr hLw hQ hX _ h hGσ hS _ _ _ hH (lv_sub (l' := [(0, .ref rm)]) hl [0] rfl) hc
  · rw [if_neg (fun q => h9 ((z_eq (hGσ _ _)).mpr q))] at h
    exact a_X16_mark_8 B hT hR hFr hLw hQ hX _ h hGσ hS _ _ _ hH (lv_sub (l' := [(0, .ref rm)]) hl [0] rfl) hc
theorem ok_X16_mark {l : Launch} {D : va_G} {cA : Nat → ClassId} {tys : List (ClassId × FieldType)} {A : Nat → Prop} {ra : Nat → Nat} {jx : Nat → Nat → Nat} {rm : Nat} (hT : Tys cA tys) {Q : Sg → Int → Prop} {X : Sg → String → Prop} (σ : Sg) (hG : RG σ) (hS : Shp ra jx rm σ) (h : wp_X16_mark ra jx rm σ Q X) : Ok l D cA tys A yX16_mark (.code yX16_mark cX16_mark 1 (some .int)) 0 0 [.ref rm] σ (fun σ' w => ∃ r, w = some (.int (i32 r)) ∧ rng r ∧ Q σ' r ∧ RG σ' ∧ Shp ra jx rm σ') (fun σ' E => X σ' E ∧ RG σ' ∧ Shp ra jx rm σ') := by
  refine ok_of (ret := (some .int)) (by decide) (Nat.le_of_ble_eq_true rfl) ?_
  intro p e R s m args below meth c hRR B hr hlocks hex _
  have B : Cx p s m args c cX16_mark 1 RX16 D cA tys A := B
  have hR : Rm R (gc σ) (gs σ) := by rw [hRR]; exact ⟨rfl, rfl⟩
  unfold wp_X16_mark at h
  intro H locs ls hH hl hc
  have hX : ∀ (σ9 : Sg) (E : String) (pc : Nat) (lo : List (Nat × Value)) (st : List Value), X σ9 E → RG σ9 → Shp ra jx rm σ9 → JX p l e R s m args below meth c 1 D cA A (gc σ) (gs σ) (vx_MQ below (Qw D cA A σ (fun σ' w => ∃ r, w = some (.int (i32 r)) ∧ rng r ∧ Q σ' r ∧ RG σ' ∧ Shp ra jx rm σ')) (Xw D cA A σ (fun σ' E => X σ' E ∧ RG σ' ∧ Shp ra jx rm σ')) args s (BC - gc σ) (BS - gs σ) A) σ9 E pc lo st := fun σ9 E pc lo st hx hG9 hS9 H locs ls ce q hH hl hc hce hcv hcl => e_out hH hc (fun x hx9 => (hex x hx9).elim) hlocks hce hcv hcl ⟨hx, hG9, hS9⟩
  exact a_X16_mark_0 B hT hR (by rw [hRR]; exact Nat.le_refl _) (by rw [hRR]; exact Nat.le_refl _) (fun pc ls σ9 H locs r gr hd hH hc hq hG9 hS9 => e_iret B hH hc hr rfl hlocks ⟨r, rfl, gr, hq, hG9, hS9⟩ hd) hX σ h hG hS H locs ls hH (lv_sub (l' := [(0, .ref rm)]) hl [0] rfl) hc
theorem dX16_misplaced_0 : decode cX16_misplaced 0 = .ok (.aload_n 0, 1) := by decide +kernel
theorem dX16_misplaced_1 : decode cX16_misplaced 1 = .ok (.aload_n 0, 1) := by decide +kernel
theorem dX16_misplaced_2 : decode cX16_misplaced 2 = .ok (.getfield 38, 3) := by decide +kernel
theorem dX16_misplaced_5 : decode cX16_misplaced 5 = .ok (.iconst 3, 1) := by decide +kernel
theorem dX16_misplaced_6 : decode cX16_misplaced 6 = .ok (.if_icmp .ne 7, 3) := by decide +kernel
theorem dX16_misplaced_9 : decode cX16_misplaced 9 = .ok (.iconst 3, 1) := by decide +kernel
theorem dX16_misplaced_10 : decode cX16_misplaced 10 = .ok (.goto 4, 3) := by decide +kernel
theorem dX16_misplaced_13 : decode cX16_misplaced 13 = .ok (.iconst 4, 1) := by decide +kernel
theorem dX16_misplaced_14 : decode cX16_misplaced 14 = .ok (.invokevirtual 65, 3) := by decide +kernel
theorem dX16_misplaced_17 : decode cX16_misplaced 17 = .ok (.areturn, 1) := by decide +kernel
set_option maxRecDepth 20000 in
theorem a_X16_misplaced_14 {p : Program} {l : Launch} {e : Env} {R : Room} {s : State} {m : MethodId} {args : Array Value} {below : List Frame} {meth : Method} {c : Code} {D : va_G} {cA : Nat → ClassId} {tys : List (ClassId × FieldType)} {A : Nat → Prop} {n0 s0 : Nat} {QM : State → Prop} {ra : Nat → Nat} {jx : Nat → Nat → Nat} {rm : Nat} {Q : Sg → Option Nat → Prop} {X : Sg → String → Prop} (B : Cx p s m args c cX16_misplaced 1 RX16 D cA tys A) (hT : Tys cA tys) (hR : Rm R n0 s0) (hFr : 1 ≤ R.frames) (hLw : 21 ≤ R.locals) (hQ : ∀ (pc : Nat) (ls : Array Slot) (σ : Sg) (H : Heap) (locs : List Loc) (r : Option Nat), decode cX16_misplaced pc = .ok (.areturn, 1) → Hd D cA A s σ H locs → CB n0 s0 σ → Q σ r → RG σ → Shp ra jx rm σ → W p l e R s m args below meth c H locs (gc σ - n0) (gs σ - s0) QM (F0 m pc ls [va_rf r])) (hX : ∀ (σ : Sg) (E : String) (pc : Nat) (lo : List (Nat × Value)) (st : List Value), X σ E → RG σ → Shp ra jx rm σ → JX p l e R s m args below meth c 1 D cA A n0 s0 QM σ E pc lo st) : ∀ (σ : Sg) (u0 : Int) (gu0 : rng u0), w_X16_misplaced_14 ra jx rm Q X σ u0 → RG σ → Shp ra jx rm σ → JJ p l e R s m args below meth c 1 D cA A n0 s0 QM σ 14 [(0, .ref rm)] [.int (i32 u0), .ref rm] := by
  intro σ u0 gu0 h hGσ hS H locs ls hH hl hc
  unfold w_X16_misplaced_14 at h
  refine c_V B hH hl hc hR (C := RX16) (T := TX16) (N := 123) (ci := 16) (As := [.int (i32 u0)]) (ok_X16_fail hT σ u0 gu0 hGσ hS h) wc_X16_65 1 (by decide +kernel) ⟨Nat.le_trans (Nat.le_of_ble_eq_true rfl) hFr, Nat.le_trans (Nat.le_of_ble_eq_true rfl) hLw⟩ hS.1.1 hS.1.2 (by decide) rfl rfl (rest := []) rfl (Nat.le_of_ble_eq_true rfl) dX16_misplaced_14 (fun σ5 w hq => ?_) (fun σ9 E9 hx9 => hX σ9 E9 _ _ _ hx9.1 hx9.2.1 hx9.2.2)
  obtain ⟨r6, rfl, h, hGσ5, hS⟩ := hq
  intro H locs ls hH hl hc
  refine W.eq (g2 := F0 m 17 ls [va_rf r6]) rfl ?_
  try dsimp only at h
  exact hQ _ _ _ _ _ _ dX16_misplaced_17 hH hc h hGσ5 hS
set_option maxRecDepth 20000 in
theorem a_X16_misplaced_13 {p : Program} {l : Launch} {e : Env} {R : Room} {s : State} {m : MethodId} {args : Array Value} {below : List Frame} {meth : Method} {c : Code} {D : va_G} {cA : Nat → ClassId} {tys : List (ClassId × FieldType)} {A : Nat → Prop} {n0 s0 : Nat} {QM : State → Prop} {ra : Nat → Nat} {jx : Nat → Nat → Nat} {rm : Nat} {Q : Sg → Option Nat → Prop} {X : Sg → String → Prop} (B : Cx p s m args c cX16_misplaced 1 RX16 D cA tys A) (hT : Tys cA tys) (hR : Rm R n0 s0) (hFr : 1 ≤ R.frames) (hLw : 21 ≤ R.locals) (hQ : ∀ (pc : Nat) (ls : Array Slot) (σ : Sg) (H : Heap) (locs : List Loc) (r : Option Nat), decode cX16_misplaced pc = .ok (.areturn, 1) → Hd D cA A s σ H locs → CB n0 s0 σ → Q σ r → RG σ → Shp ra jx rm σ → W p l e R s m args below meth c H locs (gc σ - n0) (gs σ - s0) QM (F0 m pc ls [va_rf r])) (hX : ∀ (σ : Sg) (E : String) (pc : Nat) (lo : List (Nat × Value)) (st : List Value), X σ E → RG σ → Shp ra jx rm σ → JX p l e R s m args below meth c 1 D cA A n0 s0 QM σ E pc lo st) : ∀ (σ : Sg), w_X16_misplaced_13 ra jx rm Q X σ → RG σ → Shp ra jx rm σ → JJ p l e R s m args below meth c 1 D cA A n0 s0 QM σ 13 [(0, .ref rm)] [.ref rm] := by
  intro σ h hGσ hS H locs ls hH hl hc
  unfold w_X16_misplaced_13 at h
  refine lv_iconst (v := i32 4) B.1 B.2.1 dX16_misplaced_13 (by decide) ?_
  exact a_X16_misplaced_14 B hT hR hFr hLw hQ hX _ _ (by unfold rng; omega) h hGσ hS _ _ _ hH (lv_sub (l' := [(0, .ref rm)]) hl [0] rfl) hc
set_option maxRecDepth 20000 in
theorem a_X16_misplaced_9 {p : Program} {l : Launch} {e : Env} {R : Room} {s : State} {m : MethodId} {args : Array Value} {below : List Frame} {meth : Method} {c : Code} {D : va_G} {cA : Nat → ClassId} {tys : List (ClassId × FieldType)} {A : Nat → Prop} {n0 s0 : Nat} {QM : State → Prop} {ra : Nat → Nat} {jx : Nat → Nat → Nat} {rm : Nat} {Q : Sg → Option Nat → Prop} {X : Sg → String → Prop} (B : Cx p s m args c cX16_misplaced 1 RX16 D cA tys A) (hT : Tys cA tys) (hR : Rm R n0 s0) (hFr : 1 ≤ R.frames) (hLw : 21 ≤ R.locals) (hQ : ∀ (pc : Nat) (ls : Array Slot) (σ : Sg) (H : Heap) (locs : List Loc) (r : Option Nat), decode cX16_misplaced pc = .ok (.areturn, 1) → Hd D cA A s σ H locs → CB n0 s0 σ → Q σ r → RG σ → Shp ra jx rm σ → W p l e R s m args below meth c H locs (gc σ - n0) (gs σ - s0) QM (F0 m pc ls [va_rf r])) (hX : ∀ (σ : Sg) (E : String) (pc : Nat) (lo : List (Nat × Value)) (st : List Value), X σ E → RG σ → Shp ra jx rm σ → JX p l e R s m args below meth c 1 D cA A n0 s0 QM σ E pc lo st) : ∀ (σ : Sg), w_X16_misplaced_9 ra jx rm Q X σ → RG σ → Shp ra jx rm σ → JJ p l e R s m args below meth c 1 D cA A n0 s0 QM σ 9 [(0, .ref rm)] [.ref rm] := by
  intro σ h hGσ hS H locs ls hH hl hc
  unfold w_X16_misplaced_9 at h
  refine lv_iconst (v := i32 3) B.1 B.2.1 dX16_misplaced_9 (by decide) ?_
  refine lv_goto (tgt := 14) B.1 B.2.1 dX16_misplaced_10 (by decide) ?_
  exact a_X16_misplaced_14 B hT hR hFr hLw hQ hX _ _ (by unfold rng; omega) h hGσ hS _ _ _ hH (lv_sub (l' := [(0, .ref rm)]) hl [0] rfl) hc
set_option maxRecDepth 20000 in
theorem a_X16_misplaced_0 {p : Program} {l : Launch} {e : Env} {R : Room} {s : State} {m : MethodId} {args : Array Value} {below : List Frame} {meth : Method} {c : Code} {D : va_G} {cA : Nat → ClassId} {tys : List (ClassId × FieldType)} {A : Nat → Prop} {n0 s0 : Nat} {QM : State → Prop} {ra : Nat → Nat} {jx : Nat → Nat → Nat} {rm : Nat} {Q : Sg → Option Nat → Prop} {X : Sg → String → Prop} (B : Cx p s m args c cX16_misplaced 1 RX16 D cA tys A) (hT : Tys cA tys) (hR : Rm R n0 s0) (hFr : 1 ≤ R.frames) (hLw : 21 ≤ R.locals) (hQ : ∀ (pc : Nat) (ls : Array Slot) (σ : Sg) (H : Heap) (locs : List Loc) (r : Option Nat), decode cX16_misplaced pc = .ok (.areturn, 1) → Hd D cA A s σ H locs → CB n0 s0 σ → Q σ r → RG σ → Shp ra jx rm σ → W p l e R s m args below meth c H locs (gc σ - n0) (gs σ - s0) QM (F0 m pc ls [va_rf r])) (hX : ∀ (σ : Sg) (E : String) (pc : Nat) (lo : List (Nat × Value)) (st : List Value), X σ E → RG σ → Shp ra jx rm σ → JX p l e R s m args below meth c 1 D cA A n0 s0 QM σ E pc lo st) : ∀ (σ : Sg), w_X16_misplaced_0 ra jx rm Q X σ → RG σ → Shp ra jx rm σ → JJ p l e R s m args below meth c 1 D cA A n0 s0 QM σ 0 [(0, .ref rm)] [] := by
  intro σ h hGσ hS H locs ls hH hl hc
  unfold w_X16_misplaced_0 at h
  refine lv_aload_n B.1 B.2.1 dX16_misplaced_0 rfl (lv_at hl 0 rfl) ?_
  refine lv_aload_n B.1 B.2.1 dX16_misplaced_1 rfl (lv_at hl 0 rfl) ?_
  refine r_geti B hH hS 9 (by decide) wf_X16_38 rfl (by decide) dX16_misplaced_2 ?_
  refine lv_iconst (v := i32 3) B.1 B.2.1 dX16_misplaced_5 (by decide) ?_
  refine lv_icmp_ne (tgt := 13) B.1 B.2.1 dX16_misplaced_6 (by decide) (fun h9 => ?_) (fun h9 => ?_)
  · rw [if_pos (fun q => h9 ((i32_eq (hGσ _ _) (by unfold rng; omega)).mpr q))] at h
    exact a_X16_misplaced_13 B hT hR hFr hLw hQ hX _ h hGσ hS _ _ _ hH (lv_sub (l' := [(0, .ref rm)]) hl [0] rfl) hc
  · rw [if_neg (fun q => q ((i32_eq (hGσ _ _) (by unfold rng; omega)).mp h9))] at h
    exact a_X16_misplaced_9 B hT hR hFr hLw hQ hX _ h hGσ hS _ _ _ hH (lv_sub (l' := [(0, .ref rm)]) hl [0] rfl) hc
theorem ok_X16_misplaced {l : Launch} {D : va_G} {cA : Nat → ClassId} {tys : List (ClassId × FieldType)} {A : Nat → Prop} {ra : Nat → Nat} {jx : Nat → Nat → Nat} {rm : Nat} (hT : Tys cA tys) {Q : Sg → Option Nat → Prop} {X : Sg → String → Prop} (σ : Sg) (hG : RG σ) (hS : Shp ra jx rm σ) (h : wp_X16_misplaced ra jx rm σ Q X) : Ok l D cA tys A yX16_misplaced (.code yX16_misplaced cX16_misplaced 1 (some (.object "StreamHouseModel$Fault"))) 1 21 [.ref rm] σ (fun σ' w => ∃ r, w = some (va_rf r) ∧ Q σ' r ∧ RG σ' ∧ Shp ra jx rm σ') (fun σ' E => X σ' E ∧ RG σ' ∧ Shp ra jx rm σ') := by
  refine ok_of (ret := (some (.object "StreamHouseModel$Fault"))) (by decide) (Nat.le_of_ble_eq_true rfl) ?_
  intro p e R s m args below meth c hRR B hr hlocks hex _
  have B : Cx p s m args c cX16_misplaced 1 RX16 D cA tys A := B
  have hR : Rm R (gc σ) (gs σ) := by rw [hRR]; exact ⟨rfl, rfl⟩
  unfold wp_X16_misplaced at h
  intro H locs ls hH hl hc
  have hX : ∀ (σ9 : Sg) (E : String) (pc : Nat) (lo : List (Nat × Value)) (st : List Value), X σ9 E → RG σ9 → Shp ra jx rm σ9 → JX p l e R s m args below meth c 1 D cA A (gc σ) (gs σ) (vx_MQ below (Qw D cA A σ (fun σ' w => ∃ r, w = some (va_rf r) ∧ Q σ' r ∧ RG σ' ∧ Shp ra jx rm σ')) (Xw D cA A σ (fun σ' E => X σ' E ∧ RG σ' ∧ Shp ra jx rm σ')) args s (BC - gc σ) (BS - gs σ) A) σ9 E pc lo st := fun σ9 E pc lo st hx hG9 hS9 H locs ls ce q hH hl hc hce hcv hcl => e_out hH hc (fun x hx9 => (hex x hx9).elim) hlocks hce hcv hcl ⟨hx, hG9, hS9⟩
  exact a_X16_misplaced_0 B hT hR (by rw [hRR]; exact Nat.le_refl _) (by rw [hRR]; exact Nat.le_refl _) (fun pc ls σ9 H locs r hd hH hc hq hG9 hS9 => e_aret B hH hc hr (Or.inl ⟨_, rfl⟩) (by cases r with | none => exact Or.inl rfl | some a => exact Or.inr ⟨a, rfl⟩) hlocks ⟨r, rfl, hq, hG9, hS9⟩ hd) hX σ h hG hS H locs ls hH (lv_sub (l' := [(0, .ref rm)]) hl [0] rfl) hc
theorem dX16_noHeld_0 : decode cX16_noHeld 0 = .ok (.iconst 0, 1) := by decide +kernel
theorem dX16_noHeld_1 : decode cX16_noHeld 1 = .ok (.istore_n 1, 1) := by decide +kernel
theorem dX16_noHeld_2 : decode cX16_noHeld 2 = .ok (.iload_n 1, 1) := by decide +kernel
theorem dX16_noHeld_3 : decode cX16_noHeld 3 = .ok (.sipush 2000, 3) := by decide +kernel
theorem dX16_noHeld_6 : decode cX16_noHeld 6 = .ok (.if_icmp .ge 31, 3) := by decide +kernel
theorem dX16_noHeld_9 : decode cX16_noHeld 9 = .ok (.aload_n 0, 1) := by decide +kernel
theorem dX16_noHeld_10 : decode cX16_noHeld 10 = .ok (.getfield 652, 3) := by decide +kernel
theorem dX16_noHeld_13 : decode cX16_noHeld 13 = .ok (.iload_n 1, 1) := by decide +kernel
theorem dX16_noHeld_14 : decode cX16_noHeld 14 = .ok (.iload_n 1, 1) := by decide +kernel
theorem dX16_noHeld_15 : decode cX16_noHeld 15 = .ok (.iconst 1, 1) := by decide +kernel
theorem dX16_noHeld_16 : decode cX16_noHeld 16 = .ok (.iadd, 1) := by decide +kernel
theorem dX16_noHeld_17 : decode cX16_noHeld 17 = .ok (.sipush 2000, 3) := by decide +kernel
theorem dX16_noHeld_20 : decode cX16_noHeld 20 = .ok (.if_icmp .ge 9, 3) := by decide +kernel
theorem dX16_noHeld_23 : decode cX16_noHeld 23 = .ok (.iload_n 1, 1) := by decide +kernel
theorem dX16_noHeld_24 : decode cX16_noHeld 24 = .ok (.iconst 1, 1) := by decide +kernel
theorem dX16_noHeld_25 : decode cX16_noHeld 25 = .ok (.iadd, 1) := by decide +kernel
theorem dX16_noHeld_26 : decode cX16_noHeld 26 = .ok (.goto 4, 3) := by decide +kernel
theorem dX16_noHeld_29 : decode cX16_noHeld 29 = .ok (.iconst (-1), 1) := by decide +kernel
theorem dX16_noHeld_30 : decode cX16_noHeld 30 = .ok (.iastore, 1) := by decide +kernel
theorem dX16_noHeld_31 : decode cX16_noHeld 31 = .ok (.iinc 1 1, 3) := by decide +kernel
theorem dX16_noHeld_34 : decode cX16_noHeld 34 = .ok (.goto (-32), 3) := by decide +kernel
theorem dX16_noHeld_37 : decode cX16_noHeld 37 = .ok (.aload_n 0, 1) := by decide +kernel
theorem dX16_noHeld_38 : decode cX16_noHeld 38 = .ok (.iconst 0, 1) := by decide +kernel
theorem dX16_noHeld_39 : decode cX16_noHeld 39 = .ok (.putfield 655, 3) := by decide +kernel
theorem dX16_noHeld_42 : decode cX16_noHeld 42 = .ok (.aload_n 0, 1) := by decide +kernel
theorem dX16_noHeld_43 : decode cX16_noHeld 43 = .ok (.iconst 0, 1) := by decide +kernel
theorem dX16_noHeld_44 : decode cX16_noHeld 44 = .ok (.putfield 658, 3) := by decide +kernel
theorem dX16_noHeld_47 : decode cX16_noHeld 47 = .ok (.iconst 0, 1) := by decide +kernel
theorem dX16_noHeld_48 : decode cX16_noHeld 48 = .ok (.istore_n 1, 1) := by decide +kernel
theorem dX16_noHeld_49 : decode cX16_noHeld 49 = .ok (.iload_n 1, 1) := by decide +kernel
theorem dX16_noHeld_50 : decode cX16_noHeld 50 = .ok (.bipush 12, 2) := by decide +kernel
theorem dX16_noHeld_52 : decode cX16_noHeld 52 = .ok (.if_icmp .ge 30, 3) := by decide +kernel
theorem dX16_noHeld_55 : decode cX16_noHeld 55 = .ok (.aload_n 0, 1) := by decide +kernel
theorem dX16_noHeld_56 : decode cX16_noHeld 56 = .ok (.getfield 661, 3) := by decide +kernel
theorem dX16_noHeld_59 : decode cX16_noHeld 59 = .ok (.iload_n 1, 1) := by decide +kernel
theorem dX16_noHeld_60 : decode cX16_noHeld 60 = .ok (.iconst (-1), 1) := by decide +kernel
theorem dX16_noHeld_61 : decode cX16_noHeld 61 = .ok (.iastore, 1) := by decide +kernel
theorem dX16_noHeld_62 : decode cX16_noHeld 62 = .ok (.aload_n 0, 1) := by decide +kernel
theorem dX16_noHeld_63 : decode cX16_noHeld 63 = .ok (.getfield 664, 3) := by decide +kernel
theorem dX16_noHeld_66 : decode cX16_noHeld 66 = .ok (.iload_n 1, 1) := by decide +kernel
theorem dX16_noHeld_67 : decode cX16_noHeld 67 = .ok (.iconst (-1), 1) := by decide +kernel
theorem dX16_noHeld_68 : decode cX16_noHeld 68 = .ok (.iastore, 1) := by decide +kernel
theorem dX16_noHeld_69 : decode cX16_noHeld 69 = .ok (.aload_n 0, 1) := by decide +kernel
theorem dX16_noHeld_70 : decode cX16_noHeld 70 = .ok (.getfield 667, 3) := by decide +kernel
theorem dX16_noHeld_73 : decode cX16_noHeld 73 = .ok (.iload_n 1, 1) := by decide +kernel
theorem dX16_noHeld_74 : decode cX16_noHeld 74 = .ok (.iconst 0, 1) := by decide +kernel
theorem dX16_noHeld_75 : decode cX16_noHeld 75 = .ok (.iastore, 1) := by decide +kernel
theorem dX16_noHeld_76 : decode cX16_noHeld 76 = .ok (.iinc 1 1, 3) := by decide +kernel
theorem dX16_noHeld_79 : decode cX16_noHeld 79 = .ok (.goto (-30), 3) := by decide +kernel
theorem dX16_noHeld_82 : decode cX16_noHeld 82 = .ok (.return_, 1) := by decide +kernel
set_option maxRecDepth 20000 in
theorem a_X16_noHeld_82 {p : Program} {l : Launch} {e : Env} {R : Room} {s : State} {m : MethodId} {args : Array Value} {below : List Frame} {meth : Method} {c : Code} {D : va_G} {cA : Nat → ClassId} {tys : List (ClassId × FieldType)} {A : Nat → Prop} {n0 s0 : Nat} {QM : State → Prop} {ra : Nat → Nat} {jx : Nat → Nat → Nat} {rm : Nat} {Q : Sg → Unit → Prop} {X : Sg → String → Prop} (B : Cx p s m args c cX16_noHeld 2 RX16 D cA tys A) (hT : Tys cA tys) (hR : Rm R n0 s0) (hFr : 0 ≤ R.frames) (hLw : 0 ≤ R.locals) (hQ : ∀ (pc : Nat) (ls : Array Slot) (σ : Sg) (H : Heap) (locs : List Loc), decode cX16_noHeld pc = .ok (.return_, 1) → Hd D cA A s σ H locs → CB n0 s0 σ → Q σ () → RG σ → Shp ra jx rm σ → W p l e R s m args below meth c H locs (gc σ - n0) (gs σ - s0) QM (F0 m pc ls [])) (hX : ∀ (σ : Sg) (E : String) (pc : Nat) (lo : List (Nat × Value)) (st : List Value), X σ E → RG σ → Shp ra jx rm σ → JX p l e R s m args below meth c 2 D cA A n0 s0 QM σ E pc lo st) : ∀ (σ : Sg), w_X16_noHeld_82 ra jx rm Q X σ → RG σ → Shp ra jx rm σ → JJ p l e R s m args below meth c 2 D cA A n0 s0 QM σ 82 [(0, .ref rm)] [] := by
  intro σ h hGσ hS H locs ls hH hl hc
  unfold w_X16_noHeld_82 at h
  exact hQ _ _ _ _ _ dX16_noHeld_82 hH hc h hGσ hS
set_option maxRecDepth 20000 in
theorem a_X16_noHeld_55 {p : Program} {l : Launch} {e : Env} {R : Room} {s : State} {m : MethodId} {args : Array Value} {below : List Frame} {meth : Method} {c : Code} {D : va_G} {cA : Nat → ClassId} {tys : List (ClassId × FieldType)} {A : Nat → Prop} {n0 s0 : Nat} {QM : State → Prop} {ra : Nat → Nat} {jx : Nat → Nat → Nat} {rm : Nat} {Q : Sg → Unit → Prop} {X : Sg → String → Prop} (B : Cx p s m args c cX16_noHeld 2 RX16 D cA tys A) (hT : Tys cA tys) (hR : Rm R n0 s0) (hFr : 0 ≤ R.frames) (hLw : 0 ≤ R.locals) (hQ : ∀ (pc : Nat) (ls : Array Slot) (σ : Sg) (H : Heap) (locs : List Loc), decode cX16_noHeld pc = .ok (.return_, 1) → Hd D cA A s σ H locs → CB n0 s0 σ → Q σ () → RG σ → Shp ra jx rm σ → W p l e R s m args below meth c H locs (gc σ - n0) (gs σ - s0) QM (F0 m pc ls [])) (hX : ∀ (σ : Sg) (E : String) (pc : Nat) (lo : List (Nat × Value)) (st : List Value), X σ E → RG σ → Shp ra jx rm σ → JX p l e R s m args below meth c 2 D cA A n0 s0 QM σ E pc lo st) {K49 : Sg → Int → Prop} (hK49 : ∀ (σ : Sg) (v1 : Int) (g1 : rng v1), K49 σ v1 → RG σ → Shp ra jx rm σ → JJ p l e R s m args below meth c 2 D cA A n0 s0 QM σ 49 [(0, .ref rm), (1, .int (i32 v1))] []) : ∀ (σ : Sg) (v1 : Int) (g1 : rng v1), w_X16_noHeld_55 ra jx rm K49 Q X σ v1 → RG σ → Shp ra jx rm σ → JJ p l e R s m args below meth c 2 D cA A n0 s0 QM σ 55 [(0, .ref rm), (1, .int (i32 v1))] [] := by
  intro σ v1 g1 h hGσ hS H locs ls hH hl hc
  unfold w_X16_noHeld_55 at h
  refine lv_aload_n B.1 B.2.1 dX16_noHeld_55 rfl (lv_at hl 0 rfl) ?_
  refine r_arr B hH hS 87 (kd := 100) (n := 12) (by decide) (by decide) wf_X16_661 rfl (by decide) dX16_noHeld_56 ?_
  refine lv_iload_n B.1 B.2.1 dX16_noHeld_59 rfl (lv_at hl 1 rfl) ?_
  refine lv_iconst (v := i32 (-1)) B.1 B.2.1 dX16_noHeld_60 (by decide) ?_
  obtain ⟨q1, h⟩ := h
  obtain ⟨σ13, eσ13⟩ : ∃ z, z = pI σ (ra 87) v1.toNat (-1) := ⟨_, rfl⟩
  have h := h σ13 eσ13
  refine r_iast B hT hH hS 87 (n := 12) (by decide) (by decide) q1 dX16_noHeld_61 (fun H locs hH => ?_)
  have hH : Hd D cA A s (pI σ (ra 87) v1.toNat (-1)) H locs := hH
  rw [← eσ13] at hH
  have hGσ13 : RG σ13 := by rw [eσ13]; exact hGσ.pI (by unfold rng; omega)
  have hS : Shp ra jx rm σ13 := by rw [eσ13]; exact hS
  have hc : CB n0 s0 σ13 := by rw [eσ13]; exact hc
  rw [show gc σ = gc σ13 by rw [eσ13], show gs σ = gs σ13 by rw [eσ13]]
  refine lv_aload_n B.1 B.2.1 dX16_noHeld_62 rfl (lv_at hl 0 rfl) ?_
  refine r_arr B hH hS 88 (kd := 100) (n := 12) (by decide) (by decide) wf_X16_664 rfl (by decide) dX16_noHeld_63 ?_
  refine lv_iload_n B.1 B.2.1 dX16_noHeld_66 rfl (lv_at hl 1 rfl) ?_
  refine lv_iconst (v := i32 (-1)) B.1 B.2.1 dX16_noHeld_67 (by decide) ?_
  obtain ⟨q2, h⟩ := h
  obtain ⟨σ14, eσ14⟩ : ∃ z, z = pI σ13 (ra 88) v1.toNat (-1) := ⟨_, rfl⟩
  have h := h σ14 eσ14
  refine r_iast B hT hH hS 88 (n := 12) (by decide) (by decide) q2 dX16_noHeld_68 (fun H locs hH => ?_)
  have hH : Hd D cA A s (pI σ13 (ra 88) v1.toNat (-1)) H locs := hH
  rw [← eσ14] at hH
  have hGσ14 : RG σ14 := by rw [eσ14]; exact hGσ13.pI (by unfold rng; omega)
  have hS : Shp ra jx rm σ14 := by rw [eσ14]; exact hS
  have hc : CB n0 s0 σ14 := by rw [eσ14]; exact hc
  rw [show gc σ13 = gc σ14 by rw [eσ14], show gs σ13 = gs σ14 by rw [eσ14]]
  refine lv_aload_n B.1 B.2.1 dX16_noHeld_69 rfl (lv_at hl 0 rfl) ?_
  refine r_arr B hH hS 89 (kd := 100) (n := 12) (by decide) (by decide) wf_X16_667 rfl (by decide) dX16_noHeld_70 ?_
  refine lv_iload_n B.1 B.2.1 dX16_noHeld_73 rfl (lv_at hl 1 rfl) ?_
  refine lv_iconst (v := i32 0) B.1 B.2.1 dX16_noHeld_74 (by decide) ?_
  obtain ⟨q3, h⟩ := h
  obtain ⟨σ15, eσ15⟩ : ∃ z, z = pI σ14 (ra 89) v1.toNat 0 := ⟨_, rfl⟩
  have h := h σ15 eσ15
  refine r_iast B hT hH hS 89 (n := 12) (by decide) (by decide) q3 dX16_noHeld_75 (fun H locs hH => ?_)
  have hH : Hd D cA A s (pI σ14 (ra 89) v1.toNat 0) H locs := hH
  rw [← eσ15] at hH
  have hGσ15 : RG σ15 := by rw [eσ15]; exact hGσ14.pI (by unfold rng; omega)
  have hS : Shp ra jx rm σ15 := by rw [eσ15]; exact hS
  have hc : CB n0 s0 σ15 := by rw [eσ15]; exact hc
  rw [show gc σ14 = gc σ15 by rw [eσ15], show gs σ14 = gs σ15 by rw [eσ15]]
  obtain ⟨q4, h⟩ := h
  refine lv_iinc (k := 1) (v := i32 (v1 + 1)) (lv' := [(1, .int (i32 (v1 + 1))), (0, .ref rm)]) B.1 B.2.1 dX16_noHeld_76 hl rfl (i32_add _ _) (by decide) rfl (fun ls hl => ?_)
  refine lv_goto (tgt := 49) B.1 B.2.1 dX16_noHeld_79 (by decide) ?_
  exact hK49 _ _ q4 h hGσ15 hS _ _ _ hH (lv_sub (l' := [(0, .ref rm), (1, .int (i32 (v1 + 1)))]) hl [1, 0] rfl) hc
set_option maxRecDepth 20000 in
theorem a_X16_noHeld_49 {p : Program} {l : Launch} {e : Env} {R : Room} {s : State} {m : MethodId} {args : Array Value} {below : List Frame} {meth : Method} {c : Code} {D : va_G} {cA : Nat → ClassId} {tys : List (ClassId × FieldType)} {A : Nat → Prop} {n0 s0 : Nat} {QM : State → Prop} {ra : Nat → Nat} {jx : Nat → Nat → Nat} {rm : Nat} {Q : Sg → Unit → Prop} {X : Sg → String → Prop} (B : Cx p s m args c cX16_noHeld 2 RX16 D cA tys A) (hT : Tys cA tys) (hR : Rm R n0 s0) (hFr : 0 ≤ R.frames) (hLw : 0 ≤ R.locals) (hQ : ∀ (pc : Nat) (ls : Array Slot) (σ : Sg) (H : Heap) (locs : List Loc), decode cX16_noHeld pc = .ok (.return_, 1) → Hd D cA A s σ H locs → CB n0 s0 σ → Q σ () → RG σ → Shp ra jx rm σ → W p l e R s m args below meth c H locs (gc σ - n0) (gs σ - s0) QM (F0 m pc ls [])) (hX : ∀ (σ : Sg) (E : String) (pc : Nat) (lo : List (Nat × Value)) (st : List Value), X σ E → RG σ → Shp ra jx rm σ → JX p l e R s m args below meth c 2 D cA A n0 s0 QM σ E pc lo st) {K49 : Sg → Int → Prop} (hK49 : ∀ (σ : Sg) (v1 : Int) (g1 : rng v1), K49 σ v1 → RG σ → Shp ra jx rm σ → JJ p l e R s m args below meth c 2 D cA A n0 s0 QM σ 49 [(0, .ref rm), (1, .int (i32 v1))] []) : ∀ (σ : Sg) (v1 : Int) (g1 : rng v1), w_X16_noHeld_49 ra jx rm K49 Q X σ v1 → RG σ → Shp ra jx rm σ → JJ p l e R s m args below meth c 2 D cA A n0 s0 QM σ 49 [(0, .ref rm), (1, .int (i32 v1))] [] := by
  intro σ v1 g1 h hGσ hS H locs ls hH hl hc
  unfold w_X16_noHeld_49 at h
  refine lv_iload_n B.1 B.2.1 dX16_noHeld_49 rfl (lv_at hl 1 rfl) ?_
  refine lv_bipush (v := i32 12) B.1 B.2.1 dX16_noHeld_50 (by decide) ?_
  refine lv_icmp_ge (tgt := 82) B.1 B.2.1 dX16_noHeld_52 (by decide) (fun h9 => ?_) (fun h9 => ?_)
  · rw [if_pos ((i32_le (by unfold rng; omega) g1).mp h9)] at h
    exact a_X16_noHeld_82 B hT hR hFr hLw hQ hX _ h hGσ hS _ _ _ hH (lv_sub (l' := [(0, .ref rm)]) hl [0] rfl) hc
  · rw [if_neg (fun q => h9 ((i32_le (by unfold rng; omega) g1).mpr q))] at h
    exact a_X16_noHeld_55 B hT hR hFr hLw hQ hX hK49 _ _ g1 h hGσ hS _ _ _ hH (lv_sub (l' := [(0, .ref rm), (1, .int (i32 v1))]) hl [0, 1] rfl) hc
theorem al_X16_noHeld_49 {p : Program} {l : Launch} {e : Env} {R : Room} {s : State} {m : MethodId} {args : Array Value} {below : List Frame} {meth : Method} {c : Code} {D : va_G} {cA : Nat → ClassId} {tys : List (ClassId × FieldType)} {A : Nat → Prop} {n0 s0 : Nat} {QM : State → Prop} {ra : Nat → Nat} {jx : Nat → Nat → Nat} {rm : Nat} {Q : Sg → Unit → Prop} {X : Sg → String → Prop} (B : Cx p s m args c cX16_noHeld 2 RX16 D cA tys A) (hT : Tys cA tys) (hR : Rm R n0 s0) (hFr : 0 ≤ R.frames) (hLw : 0 ≤ R.locals) (hQ : ∀ (pc : Nat) (ls : Array Slot) (σ : Sg) (H : Heap) (locs : List Loc), decode cX16_noHeld pc = .ok (.return_, 1) → Hd D cA A s σ H locs → CB n0 s0 σ → Q σ () → RG σ → Shp ra jx rm σ → W p l e R s m args below meth c H locs (gc σ - n0) (gs σ - s0) QM (F0 m pc ls [])) (hX : ∀ (σ : Sg) (E : String) (pc : Nat) (lo : List (Nat × Value)) (st : List Value), X σ E → RG σ → Shp ra jx rm σ → JX p l e R s m args below meth c 2 D cA A n0 s0 QM σ E pc lo st) : ∀ (n : Nat), ∀ (σ : Sg) (v1 : Int) (g1 : rng v1), wl_X16_noHeld_49 ra jx rm Q X n σ v1 → RG σ → Shp ra jx rm σ → JJ p l e R s m args below meth c 2 D cA A n0 s0 QM σ 49 [(0, .ref rm), (1, .int (i32 v1))] [] := by
  intro n
  induction n with
  | zero => intro σ v1 g1 h; exact h.elim
  | succ n ih => exact fun σ v1 g1 h => a_X16_noHeld_49 B hT hR hFr hLw hQ hX ih σ v1 g1 h
set_option maxRecDepth 20000 in
theorem a_X16_noHeld_37 {p : Program} {l : Launch} {e : Env} {R : Room} {s : State} {m : MethodId} {args : Array Value} {below : List Frame} {meth : Method} {c : Code} {D : va_G} {cA : Nat → ClassId} {tys : List (ClassId × FieldType)} {A : Nat → Prop} {n0 s0 : Nat} {QM : State → Prop} {ra : Nat → Nat} {jx : Nat → Nat → Nat} {rm : Nat} {Q : Sg → Unit → Prop} {X : Sg → String → Prop} (B : Cx p s m args c cX16_noHeld 2 RX16 D cA tys A) (hT : Tys cA tys) (hR : Rm R n0 s0) (hFr : 0 ≤ R.frames) (hLw : 0 ≤ R.locals) (hQ : ∀ (pc : Nat) (ls : Array Slot) (σ : Sg) (H : Heap) (locs : List Loc), decode cX16_noHeld pc = .ok (.return_, 1) → Hd D cA A s σ H locs → CB n0 s0 σ → Q σ () → RG σ → Shp ra jx rm σ → W p l e R s m args below meth c H locs (gc σ - n0) (gs σ - s0) QM (F0 m pc ls [])) (hX : ∀ (σ : Sg) (E : String) (pc : Nat) (lo : List (Nat × Value)) (st : List Value), X σ E → RG σ → Shp ra jx rm σ → JX p l e R s m args below meth c 2 D cA A n0 s0 QM σ E pc lo st) : ∀ (σ : Sg), w_X16_noHeld_37 ra jx rm Q X σ → RG σ → Shp ra jx rm σ → JJ p l e R s m args below meth c 2 D cA A n0 s0 QM σ 37 [(0, .ref rm)] [] := by
  intro σ h hGσ hS H locs ls hH hl hc
  unfold w_X16_noHeld_37 at h
  refine lv_aload_n B.1 B.2.1 dX16_noHeld_37 rfl (lv_at hl 0 rfl) ?_
  refine lv_iconst (v := i32 0) B.1 B.2.1 dX16_noHeld_38 (by decide) ?_
  obtain ⟨σ16, eσ16⟩ : ∃ z, z = pI σ rm 90 0 := ⟨_, rfl⟩
  have h := h σ16 eσ16
  refine r_puti B hH hS 90 (ty := .int) (by decide) wf_X16_655 rfl rfl (by decide) rfl rfl rfl dX16_noHeld_39 (fun H locs hH => ?_)
  have hH : Hd D cA A s (pI σ rm 90 0) H locs := hH
  rw [← eσ16] at hH
  have hGσ16 : RG σ16 := by rw [eσ16]; exact hGσ.pI (by unfold rng; omega)
  have hS : Shp ra jx rm σ16 := by rw [eσ16]; exact hS
  have hc : CB n0 s0 σ16 := by rw [eσ16]; exact hc
  rw [show gc σ = gc σ16 by rw [eσ16], show gs σ = gs σ16 by rw [eσ16]]
  refine lv_aload_n B.1 B.2.1 dX16_noHeld_42 rfl (lv_at hl 0 rfl) ?_
  refine lv_iconst (v := i32 0) B.1 B.2.1 dX16_noHeld_43 (by decide) ?_
  obtain ⟨σ17, eσ17⟩ : ∃ z, z = pI σ16 rm 91 0 := ⟨_, rfl⟩
  have h := h σ17 eσ17
  refine r_puti B hH hS 91 (ty := .int) (by decide) wf_X16_658 rfl rfl (by decide) rfl rfl rfl dX16_noHeld_44 (fun H locs hH => ?_)
  have hH : Hd D cA A s (pI σ16 rm 91 0) H locs := hH
  rw [← eσ17] at hH
  have hGσ17 : RG σ17 := by rw [eσ17]; exact hGσ16.pI (by unfold rng; omega)
  have hS : Shp ra jx rm σ17 := by rw [eσ17]; exact hS
  have hc : CB n0 s0 σ17 := by rw [eσ17]; exact hc
  rw [show gc σ16 = gc σ17 by rw [eσ17], show gs σ16 = gs σ17 by rw [eσ17]]
  refine lv_iconst (v := i32 0) B.1 B.2.1 dX16_noHeld_47 (by decide) ?_
  refine lv_istore_n (lv' := [(1, .int (i32 0)), (0, .ref rm)]) B.1 B.2.1 dX16_noHeld_48 rfl hl (by decide) rfl (fun ls hl => ?_)
  obtain ⟨n9, h⟩ := h
  exact al_X16_noHeld_49 B hT hR hFr hLw hQ hX n9 _ _ (by unfold rng; omega) h hGσ17 hS _ _ _ hH (lv_sub (l' := [(0, .ref rm), (1, .int (i32 0))]) hl [1, 0] rfl) hc
set_option maxRecDepth 20000 in
theorem a_X16_noHeld_30 {p : Program} {l : Launch} {e : Env} {R : Room} {s : State} {m : MethodId} {args : Array Value} {below : List Frame} {meth : Method} {c : Code} {D : va_G} {cA : Nat → ClassId} {tys : List (ClassId × FieldType)} {A : Nat → Prop} {n0 s0 : Nat} {QM : State → Prop} {ra : Nat → Nat} {jx : Nat → Nat → Nat} {rm : Nat} {Q : Sg → Unit → Prop} {X : Sg → String → Prop} (B : Cx p s m args c cX16_noHeld 2 RX16 D cA tys A) (hT : Tys cA tys) (hR : Rm R n0 s0) (hFr : 0 ≤ R.frames) (hLw : 0 ≤ R.locals) (hQ : ∀ (pc : Nat) (ls : Array Slot) (σ : Sg) (H : Heap) (locs : List Loc), decode cX16_noHeld pc = .ok (.return_, 1) → Hd D cA A s σ H locs → CB n0 s0 σ → Q σ () → RG σ → Shp ra jx rm σ → W p l e R s m args below meth c H locs (gc σ - n0) (gs σ - s0) QM (F0 m pc ls [])) (hX : ∀ (σ : Sg) (E : String) (pc : Nat) (lo : List (Nat × Value)) (st : List Value), X σ E → RG σ → Shp ra jx rm σ → JX p l e R s m args below meth c 2 D cA A n0 s0 QM σ E pc lo st) {K2 : Sg → Int → Prop} (hK2 : ∀ (σ : Sg) (v1 : Int) (g1 : rng v1), K2 σ v1 → RG σ → Shp ra jx rm σ → JJ p l e R s m args below meth c 2 D cA A n0 s0 QM σ 2 [(0, .ref rm), (1, .int (i32 v1))] []) : ∀ (σ : Sg) (v1 : Int) (u0 : Int) (u1 : Int) (g1 : rng v1) (gu0 : rng u0) (gu1 : rng u1), w_X16_noHeld_30 ra jx rm K2 Q X σ v1 u0 u1 → RG σ → Shp ra jx rm σ → JJ p l e R s m args below meth c 2 D cA A n0 s0 QM σ 30 [(0, .ref rm), (1, .int (i32 v1))] [.int (i32 u0), .int (i32 u1), .ref (ra 86)] := by
  intro σ v1 u0 u1 g1 gu0 gu1 h hGσ hS H locs ls hH hl hc
  unfold w_X16_noHeld_30 at h
  obtain ⟨q1, h⟩ := h
  obtain ⟨σ18, eσ18⟩ : ∃ z, z = pI σ (ra 86) u1.toNat u0 := ⟨_, rfl⟩
  have h := h σ18 eσ18
  refine r_iast B hT hH hS 86 (n := 2000) (by decide) (by decide) q1 dX16_noHeld_30 (fun H locs hH => ?_)
  have hH : Hd D cA A s (pI σ (ra 86) u1.toNat u0) H locs := hH
  rw [← eσ18] at hH
  have hGσ18 : RG σ18 := by rw [eσ18]; exact hGσ.pI gu0
  have hS : Shp ra jx rm σ18 := by rw [eσ18]; exact hS
  have hc : CB n0 s0 σ18 := by rw [eσ18]; exact hc
  rw [show gc σ = gc σ18 by rw [eσ18], show gs σ = gs σ18 by rw [eσ18]]
  obtain ⟨q2, h⟩ := h
  refine lv_iinc (k := 1) (v := i32 (v1 + 1)) (lv' := [(1, .int (i32 (v1 + 1))), (0, .ref rm)]) B.1 B.2.1 dX16_noHeld_31 hl rfl (i32_add _ _) (by decide) rfl (fun ls hl => ?_)
  refine lv_goto (tgt := 2) B.1 B.2.1 dX16_noHeld_34 (by decide) ?_
  exact hK2 _ _ q2 h hGσ18 hS _ _ _ hH (lv_sub (l' := [(0, .ref rm), (1, .int (i32 (v1 + 1)))]) hl [1, 0] rfl) hc
set_option maxRecDepth 20000 in
theorem a_X16_noHeld_29 {p : Program} {l : Launch} {e : Env} {R : Room} {s : State} {m : MethodId} {args : Array Value} {below : List Frame} {meth : Method} {c : Code} {D : va_G} {cA : Nat → ClassId} {tys : List (ClassId × FieldType)} {A : Nat → Prop} {n0 s0 : Nat} {QM : State → Prop} {ra : Nat → Nat} {jx : Nat → Nat → Nat} {rm : Nat} {Q : Sg → Unit → Prop} {X : Sg → String → Prop} (B : Cx p s m args c cX16_noHeld 2 RX16 D cA tys A) (hT : Tys cA tys) (hR : Rm R n0 s0) (hFr : 0 ≤ R.frames) (hLw : 0 ≤ R.locals) (hQ : ∀ (pc : Nat) (ls : Array Slot) (σ : Sg) (H : Heap) (locs : List Loc), decode cX16_noHeld pc = .ok (.return_, 1) → Hd D cA A s σ H locs → CB n0 s0 σ → Q σ () → RG σ → Shp ra jx rm σ → W p l e R s m args below meth c H locs (gc σ - n0) (gs σ - s0) QM (F0 m pc ls [])) (hX : ∀ (σ : Sg) (E : String) (pc : Nat) (lo : List (Nat × Value)) (st : List Value), X σ E → RG σ → Shp ra jx rm σ → JX p l e R s m args below meth c 2 D cA A n0 s0 QM σ E pc lo st) {K2 : Sg → Int → Prop} (hK2 : ∀ (σ : Sg) (v1 : Int) (g1 : rng v1), K2 σ v1 → RG σ → Shp ra jx rm σ → JJ p l e R s m args below meth c 2 D cA A n0 s0 QM σ 2 [(0, .ref rm), (1, .int (i32 v1))] []) : ∀ (σ : Sg) (v1 : Int) (u0 : Int) (g1 : rng v1) (gu0 : rng u0), w_X16_noHeld_29 ra jx rm K2 Q X σ v1 u0 → RG σ → Shp ra jx rm σ → JJ p l e R s m args below meth c 2 D cA A n0 s0 QM σ 29 [(0, .ref rm), (1, .int (i32 v1))] [.int (i32 u0), .ref (ra 86)] := by
  intro σ v1 u0 g1 gu0 h hGσ hS H locs ls hH hl hc
  unfold w_X16_noHeld_29 at h
  refine lv_iconst (v := i32 (-1)) B.1 B.2.1 dX16_noHeld_29 (by decide) ?_
  exact a_X16_noHeld_30 B hT hR hFr hLw hQ hX hK2 _ _ _ _ g1 (by unfold rng; omega) gu0 h hGσ hS _ _ _ hH (lv_sub (l' := [(0, .ref rm), (1, .int (i32 v1))]) hl [0, 1] rfl) hc
set_option maxRecDepth 20000 in
theorem a_X16_noHeld_23 {p : Program} {l : Launch} {e : Env} {R : Room} {s : State} {m : MethodId} {args : Array Value} {below : List Frame} {meth : Method} {c : Code} {D : va_G} {cA : Nat → ClassId} {tys : List (ClassId × FieldType)} {A : Nat → Prop} {n0 s0 : Nat} {QM : State → Prop} {ra : Nat → Nat} {jx : Nat → Nat → Nat} {rm : Nat} {Q : Sg → Unit → Prop} {X : Sg → String → Prop} (B : Cx p s m args c cX16_noHeld 2 RX16 D cA tys A) (hT : Tys cA tys) (hR : Rm R n0 s0) (hFr : 0 ≤ R.frames) (hLw : 0 ≤ R.locals) (hQ : ∀ (pc : Nat) (ls : Array Slot) (σ : Sg) (H : Heap) (locs : List Loc), decode cX16_noHeld pc = .ok (.return_, 1) → Hd D cA A s σ H locs → CB n0 s0 σ → Q σ () → RG σ → Shp ra jx rm σ → W p l e R s m args below meth c H locs (gc σ - n0) (gs σ - s0) QM (F0 m pc ls [])) (hX : ∀ (σ : Sg) (E : String) (pc : Nat) (lo : List (Nat × Value)) (st : List Value), X σ E → RG σ → Shp ra jx rm σ → JX p l e R s m args below meth c 2 D cA A n0 s0 QM σ E pc lo st) {K2 : Sg → Int → Prop} (hK2 : ∀ (σ : Sg) (v1 : Int) (g1 : rng v1), K2 σ v1 → RG σ → Shp ra jx rm σ → JJ p l e R s m args below meth c 2 D cA A n0 s0 QM σ 2 [(0, .ref rm), (1, .int (i32 v1))] []) : ∀ (σ : Sg) (v1 : Int) (u0 : Int) (g1 : rng v1) (gu0 : rng u0), w_X16_noHeld_23 ra jx rm K2 Q X σ v1 u0 → RG σ → Shp ra jx rm σ → JJ p l e R s m args below meth c 2 D cA A n0 s0 QM σ 23 [(0, .ref rm), (1, .int (i32 v1))] [.int (i32 u0), .ref (ra 86)] := by
  intro σ v1 u0 g1 gu0 h hGσ hS H locs ls hH hl hc
  unfold w_X16_noHeld_23 at h
  refine lv_iload_n B.1 B.2.1 dX16_noHeld_23 rfl (lv_at hl 1 rfl) ?_
  refine lv_iconst (v := i32 1) B.1 B.2.1 dX16_noHeld_24 (by decide) ?_
  obtain ⟨q1, h⟩ := h
  refine lv_iadd B.1 B.2.1 dX16_noHeld_25 ?_
  rw [i32_add]
  refine lv_goto (tgt := 30) B.1 B.2.1 dX16_noHeld_26 (by decide) ?_
  exact a_X16_noHeld_30 B hT hR hFr hLw hQ hX hK2 _ _ _ _ g1 q1 gu0 h hGσ hS _ _ _ hH (lv_sub (l' := [(0, .ref rm), (1, .int (i32 v1))]) hl [0, 1] rfl) hc
set_option maxRecDepth 20000 in
theorem a_X16_noHeld_9 {p : Program} {l : Launch} {e : Env} {R : Room} {s : State} {m : MethodId} {args : Array Value} {below : List Frame} {meth : Method} {c : Code} {D : va_G} {cA : Nat → ClassId} {tys : List (ClassId × FieldType)} {A : Nat → Prop} {n0 s0 : Nat} {QM : State → Prop} {ra : Nat → Nat} {jx : Nat → Nat → Nat} {rm : Nat} {Q : Sg → Unit → Prop} {X : Sg → String → Prop} (B : Cx p s m args c cX16_noHeld 2 RX16 D cA tys A) (hT : Tys cA tys) (hR : Rm R n0 s0) (hFr : 0 ≤ R.frames) (hLw : 0 ≤ R.locals) (hQ : ∀ (pc : Nat) (ls : Array Slot) (σ : Sg) (H : Heap) (locs : List Loc), decode cX16_noHeld pc = .ok (.return_, 1) → Hd D cA A s σ H locs → CB n0 s0 σ → Q σ () → RG σ → Shp ra jx rm σ → W p l e R s m args below meth c H locs (gc σ - n0) (gs σ - s0) QM (F0 m pc ls [])) (hX : ∀ (σ : Sg) (E : String) (pc : Nat) (lo : List (Nat × Value)) (st : List Value), X σ E → RG σ → Shp ra jx rm σ → JX p l e R s m args below meth c 2 D cA A n0 s0 QM σ E pc lo st) {K2 : Sg → Int → Prop} (hK2 : ∀ (σ : Sg) (v1 : Int) (g1 : rng v1), K2 σ v1 → RG σ → Shp ra jx rm σ → JJ p l e R s m args below meth c 2 D cA A n0 s0 QM σ 2 [(0, .ref rm), (1, .int (i32 v1))] []) : ∀ (σ : Sg) (v1 : Int) (g1 : rng v1), w_X16_noHeld_9 ra jx rm K2 Q X σ v1 → RG σ → Shp ra jx rm σ → JJ p l e R s m args below meth c 2 D cA A n0 s0 QM σ 9 [(0, .ref rm), (1, .int (i32 v1))] [] := by
  intro σ v1 g1 h hGσ hS H locs ls hH hl hc
  unfold w_X16_noHeld_9 at h
  refine lv_aload_n B.1 B.2.1 dX16_noHeld_9 rfl (lv_at hl 0 rfl) ?_
  refine r_arr B hH hS 86 (kd := 100) (n := 2000) (by decide) (by decide) wf_X16_652 rfl (by decide) dX16_noHeld_10 ?_
  refine lv_iload_n B.1 B.2.1 dX16_noHeld_13 rfl (lv_at hl 1 rfl) ?_
  refine lv_iload_n B.1 B.2.1 dX16_noHeld_14 rfl (lv_at hl 1 rfl) ?_
  refine lv_iconst (v := i32 1) B.1 B.2.1 dX16_noHeld_15 (by decide) ?_
  obtain ⟨q1, h⟩ := h
  refine lv_iadd B.1 B.2.1 dX16_noHeld_16 ?_
  rw [i32_add]
  refine lv_sipush (v := i32 2000) B.1 B.2.1 dX16_noHeld_17 (by decide) ?_
  refine lv_icmp_ge (tgt := 29) B.1 B.2.1 dX16_noHeld_20 (by decide) (fun h9 => ?_) (fun h9 => ?_)
  · rw [if_pos ((i32_le (by unfold rng; omega) q1).mp h9)] at h
    exact a_X16_noHeld_29 B hT hR hFr hLw hQ hX hK2 _ _ _ g1 g1 h hGσ hS _ _ _ hH (lv_sub (l' := [(0, .ref rm), (1, .int (i32 v1))]) hl [0, 1] rfl) hc
  · rw [if_neg (fun q => h9 ((i32_le (by unfold rng; omega) q1).mpr q))] at h
    exact a_X16_noHeld_23 B hT hR hFr hLw hQ hX hK2 _ _ _ g1 g1 h hGσ hS _ _ _ hH (lv_sub (l' := [(0, .ref rm), (1, .int (i32 v1))]) hl [0, 1] rfl) hc
set_option maxRecDepth 20000 in
theorem a_X16_noHeld_2 {p : Program} {l : Launch} {e : Env} {R : Room} {s : State} {m : MethodId} {args : Array Value} {below : List Frame} {meth : Method} {c : Code} {D : va_G} {cA : Nat → ClassId} {tys : List (ClassId × FieldType)} {A : Nat → Prop} {n0 s0 : Nat} {QM : State → Prop} {ra : Nat → Nat} {jx : Nat → Nat → Nat} {rm : Nat} {Q : Sg → Unit → Prop} {X : Sg → String → Prop} (B : Cx p s m args c cX16_noHeld 2 RX16 D cA tys A) (hT : Tys cA tys) (hR : Rm R n0 s0) (hFr : 0 ≤ R.frames) (hLw : 0 ≤ R.locals) (hQ : ∀ (pc : Nat) (ls : Array Slot) (σ : Sg) (H : Heap) (locs : List Loc), decode cX16_noHeld pc = .ok (.return_, 1) → Hd D cA A s σ H locs → CB n0 s0 σ → Q σ () → RG σ → Shp ra jx rm σ → W p l e R s m args below meth c H locs (gc σ - n0) (gs σ - s0) QM (F0 m pc ls [])) (hX : ∀ (σ : Sg) (E : String) (pc : Nat) (lo : List (Nat × Value)) (st : List Value), X σ E → RG σ → Shp ra jx rm σ → JX p l e R s m args below meth c 2 D cA A n0 s0 QM σ E pc lo st) {K2 : Sg → Int → Prop} (hK2 : ∀ (σ : Sg) (v1 : Int) (g1 : rng v1), K2 σ v1 → RG σ → Shp ra jx rm σ → JJ p l e R s m args below meth c 2 D cA A n0 s0 QM σ 2 [(0, .ref rm), (1, .int (i32 v1))] []) : ∀ (σ : Sg) (v1 : Int) (g1 : rng v1), w_X16_noHeld_2 ra jx rm K2 Q X σ v1 → RG σ → Shp ra jx rm σ → JJ p l e R s m args below meth c 2 D cA A n0 s0 QM σ 2 [(0, .ref rm), (1, .int (i32 v1))] [] := by
  intro σ v1 g1 h hGσ hS H locs ls hH hl hc
  unfold w_X16_noHeld_2 at h
  refine lv_iload_n B.1 B.2.1 dX16_noHeld_2 rfl (lv_at hl 1 rfl) ?_
  refine lv_sipush (v := i32 2000) B.1 B.2.1 dX16_noHeld_3 (by decide) ?_
  refine lv_icmp_ge (tgt := 37) B.1 B.2.1 dX16_noHeld_6 (by decide) (fun h9 => ?_) (fun h9 => ?_)
  · rw [if_pos ((i32_le (by unfold rng; omega) g1).mp h9)] at h
    exact a_X16_noHeld_37 B hT hR hFr hLw hQ hX _ h hGσ hS _ _ _ hH (lv_sub (l' := [(0, .ref rm)]) hl [0] rfl) hc
  · rw [if_neg (fun q => h9 ((i32_le (by unfold rng; omega) g1).mpr q))] at h
    exact a_X16_noHeld_9 B hT hR hFr hLw hQ hX hK2 _ _ g1 h hGσ hS _ _ _ hH (lv_sub (l' := [(0, .ref rm), (1, .int (i32 v1))]) hl [0, 1] rfl) hc
theorem al_X16_noHeld_2 {p : Program} {l : Launch} {e : Env} {R : Room} {s : State} {m : MethodId} {args : Array Value} {below : List Frame} {meth : Method} {c : Code} {D : va_G} {cA : Nat → ClassId} {tys : List (ClassId × FieldType)} {A : Nat → Prop} {n0 s0 : Nat} {QM : State → Prop} {ra : Nat → Nat} {jx : Nat → Nat → Nat} {rm : Nat} {Q : Sg → Unit → Prop} {X : Sg → String → Prop} (B : Cx p s m args c cX16_noHeld 2 RX16 D cA tys A) (hT : Tys cA tys) (hR : Rm R n0 s0) (hFr : 0 ≤ R.frames) (hLw : 0 ≤ R.locals) (hQ : ∀ (pc : Nat) (ls : Array Slot) (σ : Sg) (H : Heap) (locs : List Loc), decode cX16_noHeld pc = .ok (.return_, 1) → Hd D cA A s σ H locs → CB n0 s0 σ → Q σ () → RG σ → Shp ra jx rm σ → W p l e R s m args below meth c H locs (gc σ - n0) (gs σ - s0) QM (F0 m pc ls [])) (hX : ∀ (σ : Sg) (E : String) (pc : Nat) (lo : List (Nat × Value)) (st : List Value), X σ E → RG σ → Shp ra jx rm σ → JX p l e R s m args below meth c 2 D cA A n0 s0 QM σ E pc lo st) : ∀ (n : Nat), ∀ (σ : Sg) (v1 : Int) (g1 : rng v1), wl_X16_noHeld_2 ra jx rm Q X n σ v1 → RG σ → Shp ra jx rm σ → JJ p l e R s m args below meth c 2 D cA A n0 s0 QM σ 2 [(0, .ref rm), (1, .int (i32 v1))] [] := by
  intro n
  induction n with
  | zero => intro σ v1 g1 h; exact h.elim
  | succ n ih => exact fun σ v1 g1 h => a_X16_noHeld_2 B hT hR hFr hLw hQ hX ih σ v1 g1 h
set_option maxRecDepth 20000 in
theorem a_X16_noHeld_0 {p : Program} {l : Launch} {e : Env} {R : Room} {s : State} {m : MethodId} {args : Array Value} {below : List Frame} {meth : Method} {c : Code} {D : va_G} {cA : Nat → ClassId} {tys : List (ClassId × FieldType)} {A : Nat → Prop} {n0 s0 : Nat} {QM : State → Prop} {ra : Nat → Nat} {jx : Nat → Nat → Nat} {rm : Nat} {Q : Sg → Unit → Prop} {X : Sg → String → Prop} (B : Cx p s m args c cX16_noHeld 2 RX16 D cA tys A) (hT : Tys cA tys) (hR : Rm R n0 s0) (hFr : 0 ≤ R.frames) (hLw : 0 ≤ R.locals) (hQ : ∀ (pc : Nat) (ls : Array Slot) (σ : Sg) (H : Heap) (locs : List Loc), decode cX16_noHeld pc = .ok (.return_, 1) → Hd D cA A s σ H locs → CB n0 s0 σ → Q σ () → RG σ → Shp ra jx rm σ → W p l e R s m args below meth c H locs (gc σ - n0) (gs σ - s0) QM (F0 m pc ls [])) (hX : ∀ (σ : Sg) (E : String) (pc : Nat) (lo : List (Nat × Value)) (st : List Value), X σ E → RG σ → Shp ra jx rm σ → JX p l e R s m args below meth c 2 D cA A n0 s0 QM σ E pc lo st) : ∀ (σ : Sg), w_X16_noHeld_0 ra jx rm Q X σ → RG σ → Shp ra jx rm σ → JJ p l e R s m args below meth c 2 D cA A n0 s0 QM σ 0 [(0, .ref rm)] [] := by
  intro σ h hGσ hS H locs ls hH hl hc
  unfold w_X16_noHeld_0 at h
  refine lv_iconst (v := i32 0) B.1 B.2.1 dX16_noHeld_0 (by decide) ?_
  refine lv_istore_n (lv' := [(1, .int (i32 0)), (0, .ref rm)]) B.1 B.2.1 dX16_noHeld_1 rfl hl (by decide) rfl (fun ls hl => ?_)
  obtain ⟨n9, h⟩ := h
  exact al_X16_noHeld_2 B hT hR hFr hLw hQ hX n9 _ _ (by unfold rng; omega) h hGσ hS _ _ _ hH (lv_sub (l' := [(0, .ref rm), (1, .int (i32 0))]) hl [1, 0] rfl) hc
theorem ok_X16_noHeld {l : Launch} {D : va_G} {cA : Nat → ClassId} {tys : List (ClassId × FieldType)} {A : Nat → Prop} {ra : Nat → Nat} {jx : Nat → Nat → Nat} {rm : Nat} (hT : Tys cA tys) {Q : Sg → Unit → Prop} {X : Sg → String → Prop} (σ : Sg) (hG : RG σ) (hS : Shp ra jx rm σ) (h : wp_X16_noHeld ra jx rm σ Q X) : Ok l D cA tys A yX16_noHeld (.code yX16_noHeld cX16_noHeld 2 none) 0 0 [.ref rm] σ (fun σ' w => w = none ∧ Q σ' () ∧ RG σ' ∧ Shp ra jx rm σ') (fun σ' E => X σ' E ∧ RG σ' ∧ Shp ra jx rm σ') := by
  refine ok_of (ret := none) (by decide) (Nat.le_of_ble_eq_true rfl) ?_
  intro p e R s m args below meth c hRR B hr hlocks hex _
  have B : Cx p s m args c cX16_noHeld 2 RX16 D cA tys A := B
  have hR : Rm R (gc σ) (gs σ) := by rw [hRR]; exact ⟨rfl, rfl⟩
  unfold wp_X16_noHeld at h
  intro H locs ls hH hl hc
  have hX : ∀ (σ9 : Sg) (E : String) (pc : Nat) (lo : List (Nat × Value)) (st : List Value), X σ9 E → RG σ9 → Shp ra jx rm σ9 → JX p l e R s m args below meth c 2 D cA A (gc σ) (gs σ) (vx_MQ below (Qw D cA A σ (fun σ' w => w = none ∧ Q σ' () ∧ RG σ' ∧ Shp ra jx rm σ')) (Xw D cA A σ (fun σ' E => X σ' E ∧ RG σ' ∧ Shp ra jx rm σ')) args s (BC - gc σ) (BS - gs σ) A) σ9 E pc lo st := fun σ9 E pc lo st hx hG9 hS9 H locs ls ce q hH hl hc hce hcv hcl => e_out hH hc (fun x hx9 => (hex x hx9).elim) hlocks hce hcv hcl ⟨hx, hG9, hS9⟩
  exact a_X16_noHeld_0 B hT hR (by rw [hRR]; exact Nat.le_refl _) (by rw [hRR]; exact Nat.le_refl _) (fun pc ls σ9 H locs hd hH hc hq hG9 hS9 => e_vret B hH hc hr hlocks ⟨rfl, hq, hG9, hS9⟩ hd) hX σ h hG hS H locs ls hH (lv_sub (l' := [(0, .ref rm)]) hl [0] rfl) hc
theorem dX16_noRecords_0 : decode cX16_noRecords 0 = .ok (.iconst 0, 1) := by decide +kernel
theorem dX16_noRecords_1 : decode cX16_noRecords 1 = .ok (.istore_n 1, 1) := by decide +kernel
theorem dX16_noRecords_2 : decode cX16_noRecords 2 = .ok (.iload_n 1, 1) := by decide +kernel
theorem dX16_noRecords_3 : decode cX16_noRecords 3 = .ok (.sipush 4000, 3) := by decide +kernel
theorem dX16_noRecords_6 : decode cX16_noRecords 6 = .ok (.if_icmp .ge 31, 3) := by decide +kernel
theorem dX16_noRecords_9 : decode cX16_noRecords 9 = .ok (.aload_n 0, 1) := by decide +kernel
theorem dX16_noRecords_10 : decode cX16_noRecords 10 = .ok (.getfield 495, 3) := by decide +kernel
theorem dX16_noRecords_13 : decode cX16_noRecords 13 = .ok (.iload_n 1, 1) := by decide +kernel
theorem dX16_noRecords_14 : decode cX16_noRecords 14 = .ok (.iload_n 1, 1) := by decide +kernel
theorem dX16_noRecords_15 : decode cX16_noRecords 15 = .ok (.iconst 1, 1) := by decide +kernel
theorem dX16_noRecords_16 : decode cX16_noRecords 16 = .ok (.iadd, 1) := by decide +kernel
theorem dX16_noRecords_17 : decode cX16_noRecords 17 = .ok (.sipush 4000, 3) := by decide +kernel
theorem dX16_noRecords_20 : decode cX16_noRecords 20 = .ok (.if_icmp .ge 9, 3) := by decide +kernel
theorem dX16_noRecords_23 : decode cX16_noRecords 23 = .ok (.iload_n 1, 1) := by decide +kernel
theorem dX16_noRecords_24 : decode cX16_noRecords 24 = .ok (.iconst 1, 1) := by decide +kernel
theorem dX16_noRecords_25 : decode cX16_noRecords 25 = .ok (.iadd, 1) := by decide +kernel
theorem dX16_noRecords_26 : decode cX16_noRecords 26 = .ok (.goto 4, 3) := by decide +kernel
theorem dX16_noRecords_29 : decode cX16_noRecords 29 = .ok (.iconst (-1), 1) := by decide +kernel
theorem dX16_noRecords_30 : decode cX16_noRecords 30 = .ok (.iastore, 1) := by decide +kernel
theorem dX16_noRecords_31 : decode cX16_noRecords 31 = .ok (.iinc 1 1, 3) := by decide +kernel
theorem dX16_noRecords_34 : decode cX16_noRecords 34 = .ok (.goto (-32), 3) := by decide +kernel
theorem dX16_noRecords_37 : decode cX16_noRecords 37 = .ok (.aload_n 0, 1) := by decide +kernel
theorem dX16_noRecords_38 : decode cX16_noRecords 38 = .ok (.iconst 0, 1) := by decide +kernel
theorem dX16_noRecords_39 : decode cX16_noRecords 39 = .ok (.putfield 498, 3) := by decide +kernel
theorem dX16_noRecords_42 : decode cX16_noRecords 42 = .ok (.aload_n 0, 1) := by decide +kernel
theorem dX16_noRecords_43 : decode cX16_noRecords 43 = .ok (.iconst 0, 1) := by decide +kernel
theorem dX16_noRecords_44 : decode cX16_noRecords 44 = .ok (.putfield 501, 3) := by decide +kernel
theorem dX16_noRecords_47 : decode cX16_noRecords 47 = .ok (.iconst 0, 1) := by decide +kernel
theorem dX16_noRecords_48 : decode cX16_noRecords 48 = .ok (.istore_n 1, 1) := by decide +kernel
theorem dX16_noRecords_49 : decode cX16_noRecords 49 = .ok (.iload_n 1, 1) := by decide +kernel
theorem dX16_noRecords_50 : decode cX16_noRecords 50 = .ok (.bipush 64, 2) := by decide +kernel
theorem dX16_noRecords_52 : decode cX16_noRecords 52 = .ok (.if_icmp .ge 30, 3) := by decide +kernel
theorem dX16_noRecords_55 : decode cX16_noRecords 55 = .ok (.aload_n 0, 1) := by decide +kernel
theorem dX16_noRecords_56 : decode cX16_noRecords 56 = .ok (.getfield 504, 3) := by decide +kernel
theorem dX16_noRecords_59 : decode cX16_noRecords 59 = .ok (.iload_n 1, 1) := by decide +kernel
theorem dX16_noRecords_60 : decode cX16_noRecords 60 = .ok (.iconst (-1), 1) := by decide +kernel
theorem dX16_noRecords_61 : decode cX16_noRecords 61 = .ok (.iastore, 1) := by decide +kernel
theorem dX16_noRecords_62 : decode cX16_noRecords 62 = .ok (.aload_n 0, 1) := by decide +kernel
theorem dX16_noRecords_63 : decode cX16_noRecords 63 = .ok (.getfield 507, 3) := by decide +kernel
theorem dX16_noRecords_66 : decode cX16_noRecords 66 = .ok (.iload_n 1, 1) := by decide +kernel
theorem dX16_noRecords_67 : decode cX16_noRecords 67 = .ok (.iconst (-1), 1) := by decide +kernel
theorem dX16_noRecords_68 : decode cX16_noRecords 68 = .ok (.iastore, 1) := by decide +kernel
theorem dX16_noRecords_69 : decode cX16_noRecords 69 = .ok (.aload_n 0, 1) := by decide +kernel
theorem dX16_noRecords_70 : decode cX16_noRecords 70 = .ok (.getfield 510, 3) := by decide +kernel
theorem dX16_noRecords_73 : decode cX16_noRecords 73 = .ok (.iload_n 1, 1) := by decide +kernel
theorem dX16_noRecords_74 : decode cX16_noRecords 74 = .ok (.iconst 0, 1) := by decide +kernel
theorem dX16_noRecords_75 : decode cX16_noRecords 75 = .ok (.iastore, 1) := by decide +kernel
theorem dX16_noRecords_76 : decode cX16_noRecords 76 = .ok (.iinc 1 1, 3) := by decide +kernel
theorem dX16_noRecords_79 : decode cX16_noRecords 79 = .ok (.goto (-30), 3) := by decide +kernel
theorem dX16_noRecords_82 : decode cX16_noRecords 82 = .ok (.return_, 1) := by decide +kernel
set_option maxRecDepth 20000 in
theorem a_X16_noRecords_82 {p : Program} {l : Launch} {e : Env} {R : Room} {s : State} {m : MethodId} {args : Array Value} {below : List Frame} {meth : Method} {c : Code} {D : va_G} {cA : Nat → ClassId} {tys : List (ClassId × FieldType)} {A : Nat → Prop} {n0 s0 : Nat} {QM : State → Prop} {ra : Nat → Nat} {jx : Nat → Nat → Nat} {rm : Nat} {Q : Sg → Unit → Prop} {X : Sg → String → Prop} (B : Cx p s m args c cX16_noRecords 2 RX16 D cA tys A) (hT : Tys cA tys) (hR : Rm R n0 s0) (hFr : 0 ≤ R.frames) (hLw : 0 ≤ R.locals) (hQ : ∀ (pc : Nat) (ls : Array Slot) (σ : Sg) (H : Heap) (locs : List Loc), decode cX16_noRecords pc = .ok (.return_, 1) → Hd D cA A s σ H locs → CB n0 s0 σ → Q σ () → RG σ → Shp ra jx rm σ → W p l e R s m args below meth c H locs (gc σ - n0) (gs σ - s0) QM (F0 m pc ls [])) (hX : ∀ (σ : Sg) (E : String) (pc : Nat) (lo : List (Nat × Value)) (st : List Value), X σ E → RG σ → Shp ra jx rm σ → JX p l e R s m args below meth c 2 D cA A n0 s0 QM σ E pc lo st) : ∀ (σ : Sg), w_X16_noRecords_82 ra jx rm Q X σ → RG σ → Shp ra jx rm σ → JJ p l e R s m args below meth c 2 D cA A n0 s0 QM σ 82 [(0, .ref rm)] [] := by
  intro σ h hGσ hS H locs ls hH hl hc
  unfold w_X16_noRecords_82 at h
  exact hQ _ _ _ _ _ dX16_noRecords_82 hH hc h hGσ hS
set_option maxRecDepth 20000 in
theorem a_X16_noRecords_55 {p : Program} {l : Launch} {e : Env} {R : Room} {s : State} {m : MethodId} {args : Array Value} {below : List Frame} {meth : Method} {c : Code} {D : va_G} {cA : Nat → ClassId} {tys : List (ClassId × FieldType)} {A : Nat → Prop} {n0 s0 : Nat} {QM : State → Prop} {ra : Nat → Nat} {jx : Nat → Nat → Nat} {rm : Nat} {Q : Sg → Unit → Prop} {X : Sg → String → Prop} (B : Cx p s m args c cX16_noRecords 2 RX16 D cA tys A) (hT : Tys cA tys) (hR : Rm R n0 s0) (hFr : 0 ≤ R.frames) (hLw : 0 ≤ R.locals) (hQ : ∀ (pc : Nat) (ls : Array Slot) (σ : Sg) (H : Heap) (locs : List Loc), decode cX16_noRecords pc = .ok (.return_, 1) → Hd D cA A s σ H locs → CB n0 s0 σ → Q σ () → RG σ → Shp ra jx rm σ → W p l e R s m args below meth c H locs (gc σ - n0) (gs σ - s0) QM (F0 m pc ls [])) (hX : ∀ (σ : Sg) (E : String) (pc : Nat) (lo : List (Nat × Value)) (st : List Value), X σ E → RG σ → Shp ra jx rm σ → JX p l e R s m args below meth c 2 D cA A n0 s0 QM σ E pc lo st) {K49 : Sg → Int → Prop} (hK49 : ∀ (σ : Sg) (v1 : Int) (g1 : rng v1), K49 σ v1 → RG σ → Shp ra jx rm σ → JJ p l e R s m args below meth c 2 D cA A n0 s0 QM σ 49 [(0, .ref rm), (1, .int (i32 v1))] []) : ∀ (σ : Sg) (v1 : Int) (g1 : rng v1), w_X16_noRecords_55 ra jx rm K49 Q X σ v1 → RG σ → Shp ra jx rm σ → JJ p l e R s m args below meth c 2 D cA A n0 s0 QM σ 55 [(0, .ref rm), (1, .int (i32 v1))] [] := by
  intro σ v1 g1 h hGσ hS H locs ls hH hl hc
  unfold w_X16_noRecords_55 at h
  refine lv_aload_n B.1 B.2.1 dX16_noRecords_55 rfl (lv_at hl 0 rfl) ?_
  refine r_arr B hH hS 76 (kd := 100) (n := 64) (by decide) (by decide) wf_X16_504 rfl (by decide) dX16_noRecords_56 ?_
  refine lv_iload_n B.1 B.2.1 dX16_noRecords_59 rfl (lv_at hl 1 rfl) ?_
  refine lv_iconst (v := i32 (-1)) B.1 B.2.1 dX16_noRecords_60 (by decide) ?_
  obtain ⟨q1, h⟩ := h
  obtain ⟨σ13, eσ13⟩ : ∃ z, z = pI σ (ra 76) v1.toNat (-1) := ⟨_, rfl⟩
  have h := h σ13 eσ13
  refine r_iast B hT hH hS 76 (n := 64) (by decide) (by decide) q1 dX16_noRecords_61 (fun H locs hH => ?_)
  have hH : Hd D cA A s (pI σ (ra 76) v1.toNat (-1)) H locs := hH
  rw [← eσ13] at hH
  have hGσ13 : RG σ13 := by rw [eσ13]; exact hGσ.pI (by unfold rng; omega)
  have hS : Shp ra jx rm σ13 := by rw [eσ13]; exact hS
  have hc : CB n0 s0 σ13 := by rw [eσ13]; exact hc
  rw [show gc σ = gc σ13 by rw [eσ13], show gs σ = gs σ13 by rw [eσ13]]
  refine lv_aload_n B.1 B.2.1 dX16_noRecords_62 rfl (lv_at hl 0 rfl) ?_
  refine r_arr B hH hS 77 (kd := 100) (n := 64) (by decide) (by decide) wf_X16_507 rfl (by decide) dX16_noRecords_63 ?_
  refine lv_iload_n B.1 B.2.1 dX16_noRecords_66 rfl (lv_at hl 1 rfl) ?_
  refine lv_iconst (v := i32 (-1)) B.1 B.2.1 dX16_noRecords_67 (by decide) ?_
  obtain ⟨q2, h⟩ := h
  obtain ⟨σ14, eσ14⟩ : ∃ z, z = pI σ13 (ra 77) v1.toNat (-1) := ⟨_, rfl⟩
  have h := h σ14 eσ14
  refine r_iast B hT hH hS 77 (n := 64) (by decide) (by decide) q2 dX16_noRecords_68 (fun H locs hH => ?_)
  have hH : Hd D cA A s (pI σ13 (ra 77) v1.toNat (-1)) H locs := hH
  rw [← eσ14] at hH
  have hGσ14 : RG σ14 := by rw [eσ14]; exact hGσ13.pI (by unfold rng; omega)
  have hS : Shp ra jx rm σ14 := by rw [eσ14]; exact hS
  have hc : CB n0 s0 σ14 := by rw [eσ14]; exact hc
  rw [show gc σ13 = gc σ14 by rw [eσ14], show gs σ13 = gs σ14 by rw [eσ14]]
  refine lv_aload_n B.1 B.2.1 dX16_noRecords_69 rfl (lv_at hl 0 rfl) ?_
  refine r_arr B hH hS 78 (kd := 100) (n := 64) (by decide) (by decide) wf_X16_510 rfl (by decide) dX16_noRecords_70 ?_
  refine lv_iload_n B.1 B.2.1 dX16_noRecords_73 rfl (lv_at hl 1 rfl) ?_
  refine lv_iconst (v := i32 0) B.1 B.2.1 dX16_noRecords_74 (by decide) ?_
  obtain ⟨q3, h⟩ := h
  obtain ⟨σ15, eσ15⟩ : ∃ z, z = pI σ14 (ra 78) v1.toNat 0 := ⟨_, rfl⟩
  have h := h σ15 eσ15
  refine r_iast B hT hH hS 78 (n := 64) (by decide) (by decide) q3 dX16_noRecords_75 (fun H locs hH => ?_)
  have hH : Hd D cA A s (pI σ14 (ra 78) v1.toNat 0) H locs := hH
  rw [← eσ15] at hH
  have hGσ15 : RG σ15 := by rw [eσ15]; exact hGσ14.pI (by unfold rng; omega)
  have hS : Shp ra jx rm σ15 := by rw [eσ15]; exact hS
  have hc : CB n0 s0 σ15 := by rw [eσ15]; exact hc
  rw [show gc σ14 = gc σ15 by rw [eσ15], show gs σ14 = gs σ15 by rw [eσ15]]
  obtain ⟨q4, h⟩ := h
  refine lv_iinc (k := 1) (v := i32 (v1 + 1)) (lv' := [(1, .int (i32 (v1 + 1))), (0, .ref rm)]) B.1 B.2.1 dX16_noRecords_76 hl rfl (i32_add _ _) (by decide) rfl (fun ls hl => ?_)
  refine lv_goto (tgt := 49) B.1 B.2.1 dX16_noRecords_79 (by decide) ?_
  exact hK49 _ _ q4 h hGσ15 hS _ _ _ hH (lv_sub (l' := [(0, .ref rm), (1, .int (i32 (v1 + 1)))]) hl [1, 0] rfl) hc
set_option maxRecDepth 20000 in
theorem a_X16_noRecords_49 {p : Program} {l : Launch} {e : Env} {R : Room} {s : State} {m : MethodId} {args : Array Value} {below : List Frame} {meth : Method} {c : Code} {D : va_G} {cA : Nat → ClassId} {tys : List (ClassId × FieldType)} {A : Nat → Prop} {n0 s0 : Nat} {QM : State → Prop} {ra : Nat → Nat} {jx : Nat → Nat → Nat} {rm : Nat} {Q : Sg → Unit → Prop} {X : Sg → String → Prop} (B : Cx p s m args c cX16_noRecords 2 RX16 D cA tys A) (hT : Tys cA tys) (hR : Rm R n0 s0) (hFr : 0 ≤ R.frames) (hLw : 0 ≤ R.locals) (hQ : ∀ (pc : Nat) (ls : Array Slot) (σ : Sg) (H : Heap) (locs : List Loc), decode cX16_noRecords pc = .ok (.return_, 1) → Hd D cA A s σ H locs → CB n0 s0 σ → Q σ () → RG σ → Shp ra jx rm σ → W p l e R s m args below meth c H locs (gc σ - n0) (gs σ - s0) QM (F0 m pc ls [])) (hX : ∀ (σ : Sg) (E : String) (pc : Nat) (lo : List (Nat × Value)) (st : List Value), X σ E → RG σ → Shp ra jx rm σ → JX p l e R s m args below meth c 2 D cA A n0 s0 QM σ E pc lo st) {K49 : Sg → Int → Prop} (hK49 : ∀ (σ : Sg) (v1 : Int) (g1 : rng v1), K49 σ v1 → RG σ → Shp ra jx rm σ → JJ p l e R s m args below meth c 2 D cA A n0 s0 QM σ 49 [(0, .ref rm), (1, .int (i32 v1))] []) : ∀ (σ : Sg) (v1 : Int) (g1 : rng v1), w_X16_noRecords_49 ra jx rm K49 Q X σ v1 → RG σ → Shp ra jx rm σ → JJ p l e R s m args below meth c 2 D cA A n0 s0 QM σ 49 [(0, .ref rm), (1, .int (i32 v1))] [] := by
  intro σ v1 g1 h hGσ hS H locs ls hH hl hc
  unfold w_X16_noRecords_49 at h
  refine lv_iload_n B.1 B.2.1 dX16_noRecords_49 rfl (lv_at hl 1 rfl) ?_
  refine lv_bipush (v := i32 64) B.1 B.2.1 dX16_noRecords_50 (by decide) ?_
  refine lv_icmp_ge (tgt := 82) B.1 B.2.1 dX16_noRecords_52 (by decide) (fun h9 => ?_) (fun h9 => ?_)
  · rw [if_pos ((i32_le (by unfold rng; omega) g1).mp h9)] at h
    exact a_X16_noRecords_82 B hT hR hFr hLw hQ hX _ h hGσ hS _ _ _ hH (lv_sub (l' := [(0, .ref rm)]) hl [0] rfl) hc
  · rw [if_neg (fun q => h9 ((i32_le (by unfold rng; omega) g1).mpr q))] at h
    exact a_X16_noRecords_55 B hT hR hFr hLw hQ hX hK49 _ _ g1 h hGσ hS _ _ _ hH (lv_sub (l' := [(0, .ref rm), (1, .int (i32 v1))]) hl [0, 1] rfl) hc
theorem al_X16_noRecords_49 {p : Program} {l : Launch} {e : Env} {R : Room} {s : State} {m : MethodId} {args : Array Value} {below : List Frame} {meth : Method} {c : Code} {D : va_G} {cA : Nat → ClassId} {tys : List (ClassId × FieldType)} {A : Nat → Prop} {n0 s0 : Nat} {QM : State → Prop} {ra : Nat → Nat} {jx : Nat → Nat → Nat} {rm : Nat} {Q : Sg → Unit → Prop} {X : Sg → String → Prop} (B : Cx p s m args c cX16_noRecords 2 RX16 D cA tys A) (hT : Tys cA tys) (hR : Rm R n0 s0) (hFr : 0 ≤ R.frames) (hLw : 0 ≤ R.locals) (hQ : ∀ (pc : Nat) (ls : Array Slot) (σ : Sg) (H : Heap) (locs : List Loc), decode cX16_noRecords pc = .ok (.return_, 1) → Hd D cA A s σ H locs → CB n0 s0 σ → Q σ () → RG σ → Shp ra jx rm σ → W p l e R s m args below meth c H locs (gc σ - n0) (gs σ - s0) QM (F0 m pc ls [])) (hX : ∀ (σ : Sg) (E : String) (pc : Nat) (lo : List (Nat × Value)) (st : List Value), X σ E → RG σ → Shp ra jx rm σ → JX p l e R s m args below meth c 2 D cA A n0 s0 QM σ E pc lo st) : ∀ (n : Nat), ∀ (σ : Sg) (v1 : Int) (g1 : rng v1), wl_X16_noRecords_49 ra jx rm Q X n σ v1 → RG σ → Shp ra jx rm σ → JJ p l e R s m args below meth c 2 D cA A n0 s0 QM σ 49 [(0, .ref rm), (1, .int (i32 v1))] [] := by
  intro n
  induction n with
  | zero => intro σ v1 g1 h; exact h.elim
  | succ n ih => exact fun σ v1 g1 h => a_X16_noRecords_49 B hT hR hFr hLw hQ hX ih σ v1 g1 h
set_option maxRecDepth 20000 in
theorem a_X16_noRecords_37 {p : Program} {l : Launch} {e : Env} {R : Room} {s : State} {m : MethodId} {args : Array Value} {below : List Frame} {meth : Method} {c : Code} {D : va_G} {cA : Nat → ClassId} {tys : List (ClassId × FieldType)} {A : Nat → Prop} {n0 s0 : Nat} {QM : State → Prop} {ra : Nat → Nat} {jx : Nat → Nat → Nat} {rm : Nat} {Q : Sg → Unit → Prop} {X : Sg → String → Prop} (B : Cx p s m args c cX16_noRecords 2 RX16 D cA tys A) (hT : Tys cA tys) (hR : Rm R n0 s0) (hFr : 0 ≤ R.frames) (hLw : 0 ≤ R.locals) (hQ : ∀ (pc : Nat) (ls : Array Slot) (σ : Sg) (H : Heap) (locs : List Loc), decode cX16_noRecords pc = .ok (.return_, 1) → Hd D cA A s σ H locs → CB n0 s0 σ → Q σ () → RG σ → Shp ra jx rm σ → W p l e R s m args below meth c H locs (gc σ - n0) (gs σ - s0) QM (F0 m pc ls [])) (hX : ∀ (σ : Sg) (E : String) (pc : Nat) (lo : List (Nat × Value)) (st : List Value), X σ E → RG σ → Shp ra jx rm σ → JX p l e R s m args below meth c 2 D cA A n0 s0 QM σ E pc lo st) : ∀ (σ : Sg), w_X16_noRecords_37 ra jx rm Q X σ → RG σ → Shp ra jx rm σ → JJ p l e R s m args below meth c 2 D cA A n0 s0 QM σ 37 [(0, .ref rm)] [] := by
  intro σ h hGσ hS H locs ls hH hl hc
  unfold w_X16_noRecords_37 at h
  refine lv_aload_n B.1 B.2.1 dX16_noRecords_37 rfl (lv_at hl 0 rfl) ?_
  refine lv_iconst (v := i32 0) B.1 B.2.1 dX16_noRecords_38 (by decide) ?_
  obtain ⟨σ16, eσ16⟩ : ∃ z, z = pI σ rm 79 0 := ⟨_, rfl⟩
  have h := h σ16 eσ16
  refine r_puti B hH hS 79 (ty := .int) (by decide) wf_X16_498 rfl rfl (by decide) rfl rfl rfl dX16_noRecords_39 (fun H locs hH => ?_)
  have hH : Hd D cA A s (pI σ rm 79 0) H locs := hH
  rw [← eσ16] at hH
  have hGσ16 : RG σ16 := by rw [eσ16]; exact hGσ.pI (by unfold rng; omega)
  have hS : Shp ra jx rm σ16 := by rw [eσ16]; exact hS
  have hc : CB n0 s0 σ16 := by rw [eσ16]; exact hc
  rw [show gc σ = gc σ16 by rw [eσ16], show gs σ = gs σ16 by rw [eσ16]]
  refine lv_aload_n B.1 B.2.1 dX16_noRecords_42 rfl (lv_at hl 0 rfl) ?_
  refine lv_iconst (v := i32 0) B.1 B.2.1 dX16_noRecords_43 (by decide) ?_
  obtain ⟨σ17, eσ17⟩ : ∃ z, z = pI σ16 rm 80 0 := ⟨_, rfl⟩
  have h := h σ17 eσ17
  refine r_puti B hH hS 80 (ty := .int) (by decide) wf_X16_501 rfl rfl (by decide) rfl rfl rfl dX16_noRecords_44 (fun H locs hH => ?_)
  have hH : Hd D cA A s (pI σ16 rm 80 0) H locs := hH
  rw [← eσ17] at hH
  have hGσ17 : RG σ17 := by rw [eσ17]; exact hGσ16.pI (by unfold rng; omega)
  have hS : Shp ra jx rm σ17 := by rw [eσ17]; exact hS
  have hc : CB n0 s0 σ17 := by rw [eσ17]; exact hc
  rw [show gc σ16 = gc σ17 by rw [eσ17], show gs σ16 = gs σ17 by rw [eσ17]]
  refine lv_iconst (v := i32 0) B.1 B.2.1 dX16_noRecords_47 (by decide) ?_
  refine lv_istore_n (lv' := [(1, .int (i32 0)), (0, .ref rm)]) B.1 B.2.1 dX16_noRecords_48 rfl hl (by decide) rfl (fun ls hl => ?_)
  obtain ⟨n9, h⟩ := h
  exact al_X16_noRecords_49 B hT hR hFr hLw hQ hX n9 _ _ (by unfold rng; omega) h hGσ17 hS _ _ _ hH (lv_sub (l' := [(0, .ref rm), (1, .int (i32 0))]) hl [1, 0] rfl) hc
set_option maxRecDepth 20000 in
theorem a_X16_noRecords_30 {p : Program} {l : Launch} {e : Env} {R : Room} {s : State} {m : MethodId} {args : Array Value} {below : List Frame} {meth : Method} {c : Code} {D : va_G} {cA : Nat → ClassId} {tys : List (ClassId × FieldType)} {A : Nat → Prop} {n0 s0 : Nat} {QM : State → Prop} {ra : Nat → Nat} {jx : Nat → Nat → Nat} {rm : Nat} {Q : Sg → Unit → Prop} {X : Sg → String → Prop} (B : Cx p s m args c cX16_noRecords 2 RX16 D cA tys A) (hT : Tys cA tys) (hR : Rm R n0 s0) (hFr : 0 ≤ R.frames) (hLw : 0 ≤ R.locals) (hQ : ∀ (pc : Nat) (ls : Array Slot) (σ : Sg) (H : Heap) (locs : List Loc), decode cX16_noRecords pc = .ok (.return_, 1) → Hd D cA A s σ H locs → CB n0 s0 σ → Q σ () → RG σ → Shp ra jx rm σ → W p l e R s m args below meth c H locs (gc σ - n0) (gs σ - s0) QM (F0 m pc ls [])) (hX : ∀ (σ : Sg) (E : String) (pc : Nat) (lo : List (Nat × Value)) (st : List Value), X σ E → RG σ → Shp ra jx rm σ → JX p l e R s m args below meth c 2 D cA A n0 s0 QM σ E pc lo st) {K2 : Sg → Int → Prop} (hK2 : ∀ (σ : Sg) (v1 : Int) (g1 : rng v1), K2 σ v1 → RG σ → Shp ra jx rm σ → JJ p l e R s m args below meth c 2 D cA A n0 s0 QM σ 2 [(0, .ref rm), (1, .int (i32 v1))] []) : ∀ (σ : Sg) (v1 : Int) (u0 : Int) (u1 : Int) (g1 : rng v1) (gu0 : rng u0) (gu1 : rng u1), w_X16_noRecords_30 ra jx rm K2 Q X σ v1 u0 u1 → RG σ → Shp ra jx rm σ → JJ p l e R s m args below meth c 2 D cA A n0 s0 QM σ 30 [(0, .ref rm), (1, .int (i32 v1))] [.int (i32 u0), .int (i32 u1), .ref (ra 75)] := by
  intro σ v1 u0 u1 g1 gu0 gu1 h hGσ hS H locs ls hH hl hc
  unfold w_X16_noRecords_30 at h
  obtain ⟨q1, h⟩ := h
  obtain ⟨σ18, eσ18⟩ : ∃ z, z = pI σ (ra 75) u1.toNat u0 := ⟨_, rfl⟩
  have h := h σ18 eσ18
  refine r_iast B hT hH hS 75 (n := 4000) (by decide) (by decide) q1 dX16_noRecords_30 (fun H locs hH => ?_)
  have hH : Hd D cA A s (pI σ (ra 75) u1.toNat u0) H locs := hH
  rw [← eσ18] at hH
  have hGσ18 : RG σ18 := by rw [eσ18]; exact hGσ.pI gu0
  have hS : Shp ra jx rm σ18 := by rw [eσ18]; exact hS
  have hc : CB n0 s0 σ18 := by rw [eσ18]; exact hc
  rw [show gc σ = gc σ18 by rw [eσ18], show gs σ = gs σ18 by rw [eσ18]]
  obtain ⟨q2, h⟩ := h
  refine lv_iinc (k := 1) (v := i32 (v1 + 1)) (lv' := [(1, .int (i32 (v1 + 1))), (0, .ref rm)]) B.1 B.2.1 dX16_noRecords_31 hl rfl (i32_add _ _) (by decide) rfl (fun ls hl => ?_)
  refine lv_goto (tgt := 2) B.1 B.2.1 dX16_noRecords_34 (by decide) ?_
  exact hK2 _ _ q2 h hGσ18 hS _ _ _ hH (lv_sub (l' := [(0, .ref rm), (1, .int (i32 (v1 + 1)))]) hl [1, 0] rfl) hc
set_option maxRecDepth 20000 in
theorem a_X16_noRecords_29 {p : Program} {l : Launch} {e : Env} {R : Room} {s : State} {m : MethodId} {args : Array Value} {below : List Frame} {meth : Method} {c : Code} {D : va_G} {cA : Nat → ClassId} {tys : List (ClassId × FieldType)} {A : Nat → Prop} {n0 s0 : Nat} {QM : State → Prop} {ra : Nat → Nat} {jx : Nat → Nat → Nat} {rm : Nat} {Q : Sg → Unit → Prop} {X : Sg → String → Prop} (B : Cx p s m args c cX16_noRecords 2 RX16 D cA tys A) (hT : Tys cA tys) (hR : Rm R n0 s0) (hFr : 0 ≤ R.frames) (hLw : 0 ≤ R.locals) (hQ : ∀ (pc : Nat) (ls : Array Slot) (σ : Sg) (H : Heap) (locs : List Loc), decode cX16_noRecords pc = .ok (.return_, 1) → Hd D cA A s σ H locs → CB n0 s0 σ → Q σ () → RG σ → Shp ra jx rm σ → W p l e R s m args below meth c H locs (gc σ - n0) (gs σ - s0) QM (F0 m pc ls [])) (hX : ∀ (σ : Sg) (E : String) (pc : Nat) (lo : List (Nat × Value)) (st : List Value), X σ E → RG σ → Shp ra jx rm σ → JX p l e R s m args below meth c 2 D cA A n0 s0 QM σ E pc lo st) {K2 : Sg → Int → Prop} (hK2 : ∀ (σ : Sg) (v1 : Int) (g1 : rng v1), K2 σ v1 → RG σ → Shp ra jx rm σ → JJ p l e R s m args below meth c 2 D cA A n0 s0 QM σ 2 [(0, .ref rm), (1, .int (i32 v1))] []) : ∀ (σ : Sg) (v1 : Int) (u0 : Int) (g1 : rng v1) (gu0 : rng u0), w_X16_noRecords_29 ra jx rm K2 Q X σ v1 u0 → RG σ → Shp ra jx rm σ → JJ p l e R s m args below meth c 2 D cA A n0 s0 QM σ 29 [(0, .ref rm), (1, .int (i32 v1))] [.int (i32 u0), .ref (ra 75)] := by
  intro σ v1 u0 g1 gu0 h hGσ hS H locs ls hH hl hc
  unfold w_X16_noRecords_29 at h
  refine lv_iconst (v := i32 (-1)) B.1 B.2.1 dX16_noRecords_29 (by decide) ?_
  exact a_X16_noRecords_30 B hT hR hFr hLw hQ hX hK2 _ _ _ _ g1 (by unfold rng; omega) gu0 h hGσ hS _ _ _ hH (lv_sub (l' := [(0, .ref rm), (1, .int (i32 v1))]) hl [0, 1] rfl) hc
set_option maxRecDepth 20000 in
theorem a_X16_noRecords_23 {p : Program} {l : Launch} {e : Env} {R : Room} {s : State} {m : MethodId} {args : Array Value} {below : List Frame} {meth : Method} {c : Code} {D : va_G} {cA : Nat → ClassId} {tys : List (ClassId × FieldType)} {A : Nat → Prop} {n0 s0 : Nat} {QM : State → Prop} {ra : Nat → Nat} {jx : Nat → Nat → Nat} {rm : Nat} {Q : Sg → Unit → Prop} {X : Sg → String → Prop} (B : Cx p s m args c cX16_noRecords 2 RX16 D cA tys A) (hT : Tys cA tys) (hR : Rm R n0 s0) (hFr : 0 ≤ R.frames) (hLw : 0 ≤ R.locals) (hQ : ∀ (pc : Nat) (ls : Array Slot) (σ : Sg) (H : Heap) (locs : List Loc), decode cX16_noRecords pc = .ok (.return_, 1) → Hd D cA A s σ H locs → CB n0 s0 σ → Q σ () → RG σ → Shp ra jx rm σ → W p l e R s m args below meth c H locs (gc σ - n0) (gs σ - s0) QM (F0 m pc ls [])) (hX : ∀ (σ : Sg) (E : String) (pc : Nat) (lo : List (Nat × Value)) (st : List Value), X σ E → RG σ → Shp ra jx rm σ → JX p l e R s m args below meth c 2 D cA A n0 s0 QM σ E pc lo st) {K2 : Sg → Int → Prop} (hK2 : ∀ (σ : Sg) (v1 : Int) (g1 : rng v1), K2 σ v1 → RG σ → Shp ra jx rm σ → JJ p l e R s m args below meth c 2 D cA A n0 s0 QM σ 2 [(0, .ref rm), (1, .int (i32 v1))] []) : ∀ (σ : Sg) (v1 : Int) (u0 : Int) (g1 : rng v1) (gu0 : rng u0), w_X16_noRecords_23 ra jx rm K2 Q X σ v1 u0 → RG σ → Shp ra jx rm σ → JJ p l e R s m args below meth c 2 D cA A n0 s0 QM σ 23 [(0, .ref rm), (1, .int (i32 v1))] [.int (i32 u0), .ref (ra 75)] := by
  intro σ v1 u0 g1 gu0 h hGσ hS H locs ls hH hl hc
  unfold w_X16_noRecords_23 at h
  refine lv_iload_n B.1 B.2.1 dX16_noRecords_23 rfl (lv_at hl 1 rfl) ?_
  refine lv_iconst (v := i32 1) B.1 B.2.1 dX16_noRecords_24 (by decide) ?_
  obtain ⟨q1, h⟩ := h
  refine lv_iadd B.1 B.2.1 dX16_noRecords_25 ?_
  rw [i32_add]
  refine lv_goto (tgt := 30) B.1 B.2.1 dX16_noRecords_26 (by decide) ?_
  exact a_X16_noRecords_30 B hT hR hFr hLw hQ hX hK2 _ _ _ _ g1 q1 gu0 h hGσ hS _ _ _ hH (lv_sub (l' := [(0, .ref rm), (1, .int (i32 v1))]) hl [0, 1] rfl) hc
set_option maxRecDepth 20000 in
theorem a_X16_noRecords_9 {p : Program} {l : Launch} {e : Env} {R : Room} {s : State} {m : MethodId} {args : Array Value} {below : List Frame} {meth : Method} {c : Code} {D : va_G} {cA : Nat → ClassId} {tys : List (ClassId × FieldType)} {A : Nat → Prop} {n0 s0 : Nat} {QM : State → Prop} {ra : Nat → Nat} {jx : Nat → Nat → Nat} {rm : Nat} {Q : Sg → Unit → Prop} {X : Sg → String → Prop} (B : Cx p s m args c cX16_noRecords 2 RX16 D cA tys A) (hT : Tys cA tys) (hR : Rm R n0 s0) (hFr : 0 ≤ R.frames) (hLw : 0 ≤ R.locals) (hQ : ∀ (pc : Nat) (ls : Array Slot) (σ : Sg) (H : Heap) (locs : List Loc), decode cX16_noRecords pc = .ok (.return_, 1) → Hd D cA A s σ H locs → CB n0 s0 σ → Q σ () → RG σ → Shp ra jx rm σ → W p l e R s m args below meth c H locs (gc σ - n0) (gs σ - s0) QM (F0 m pc ls [])) (hX : ∀ (σ : Sg) (E : String) (pc : Nat) (lo : List (Nat × Value)) (st : List Value), X σ E → RG σ → Shp ra jx rm σ → JX p l e R s m args below meth c 2 D cA A n0 s0 QM σ E pc lo st) {K2 : Sg → Int → Prop} (hK2 : ∀ (σ : Sg) (v1 : Int) (g1 : rng v1), K2 σ v1 → RG σ → Shp ra jx rm σ → JJ p l e R s m args below meth c 2 D cA A n0 s0 QM σ 2 [(0, .ref rm), (1, .int (i32 v1))] []) : ∀ (σ : Sg) (v1 : Int) (g1 : rng v1), w_X16_noRecords_9 ra jx rm K2 Q X σ v1 → RG σ → Shp ra jx rm σ → JJ p l e R s m args below meth c 2 D cA A n0 s0 QM σ 9 [(0, .ref rm), (1, .int (i32 v1))] [] := by
  intro σ v1 g1 h hGσ hS H locs ls hH hl hc
  unfold w_X16_noRecords_9 at h
  refine lv_aload_n B.1 B.2.1 dX16_noRecords_9 rfl (lv_at hl 0 rfl) ?_
  refine r_arr B hH hS 75 (kd := 100) (n := 4000) (by decide) (by decide) wf_X16_495 rfl (by decide) dX16_noRecords_10 ?_
  refine lv_iload_n B.1 B.2.1 dX16_noRecords_13 rfl (lv_at hl 1 rfl) ?_
  refine lv_iload_n B.1 B.2.1 dX16_noRecords_14 rfl (lv_at hl 1 rfl) ?_
  refine lv_iconst (v := i32 1) B.1 B.2.1 dX16_noRecords_15 (by decide) ?_
  obtain ⟨q1, h⟩ := h
  refine lv_iadd B.1 B.2.1 dX16_noRecords_16 ?_
  rw [i32_add]
  refine lv_sipush (v := i32 4000) B.1 B.2.1 dX16_noRecords_17 (by decide) ?_
  refine lv_icmp_ge (tgt := 29) B.1 B.2.1 dX16_noRecords_20 (by decide) (fun h9 => ?_) (fun h9 => ?_)
  · rw [if_pos ((i32_le (by unfold rng; omega) q1).mp h9)] at h
    exact a_X16_noRecords_29 B hT hR hFr hLw hQ hX hK2 _ _ _ g1 g1 h hGσ hS _ _ _ hH (lv_sub (l' := [(0, .ref rm), (1, .int (i32 v1))]) hl [0, 1] rfl) hc
  · rw [if_neg (fun q => h9 ((i32_le (by unfold rng; omega) q1).mpr q))] at h
    exact a_X16_noRecords_23 B hT hR hFr hLw hQ hX hK2 _ _ _ g1 g1 h hGσ hS _ _ _ hH (lv_sub (l' := [(0, .ref rm), (1, .int (i32 v1))]) hl [0, 1] rfl) hc
set_option maxRecDepth 20000 in
theorem a_X16_noRecords_2 {p : Program} {l : Launch} {e : Env} {R : Room} {s : State} {m : MethodId} {args : Array Value} {below : List Frame} {meth : Method} {c : Code} {D : va_G} {cA : Nat → ClassId} {tys : List (ClassId × FieldType)} {A : Nat → Prop} {n0 s0 : Nat} {QM : State → Prop} {ra : Nat → Nat} {jx : Nat → Nat → Nat} {rm : Nat} {Q : Sg → Unit → Prop} {X : Sg → String → Prop} (B : Cx p s m args c cX16_noRecords 2 RX16 D cA tys A) (hT : Tys cA tys) (hR : Rm R n0 s0) (hFr : 0 ≤ R.frames) (hLw : 0 ≤ R.locals) (hQ : ∀ (pc : Nat) (ls : Array Slot) (σ : Sg) (H : Heap) (locs : List Loc), decode cX16_noRecords pc = .ok (.return_, 1) → Hd D cA A s σ H locs → CB n0 s0 σ → Q σ () → RG σ → Shp ra jx rm σ → W p l e R s m args below meth c H locs (gc σ - n0) (gs σ - s0) QM (F0 m pc ls [])) (hX : ∀ (σ : Sg) (E : String) (pc : Nat) (lo : List (Nat × Value)) (st : List Value), X σ E → RG σ → Shp ra jx rm σ → JX p l e R s m args below meth c 2 D cA A n0 s0 QM σ E pc lo st) {K2 : Sg → Int → Prop} (hK2 : ∀ (σ : Sg) (v1 : Int) (g1 : rng v1), K2 σ v1 → RG σ → Shp ra jx rm σ → JJ p l e R s m args below meth c 2 D cA A n0 s0 QM σ 2 [(0, .ref rm), (1, .int (i32 v1))] []) : ∀ (σ : Sg) (v1 : Int) (g1 : rng v1), w_X16_noRecords_2 ra jx rm K2 Q X σ v1 → RG σ → Shp ra jx rm σ → JJ p l e R s m args below meth c 2 D cA A n0 s0 QM σ 2 [(0, .ref rm), (1, .int (i32 v1))] [] := by
  intro σ v1 g1 h hGσ hS H locs ls hH hl hc
  unfold w_X16_noRecords_2 at h
  refine lv_iload_n B.1 B.2.1 dX16_noRecords_2 rfl (lv_at hl 1 rfl) ?_
  refine lv_sipush (v := i32 4000) B.1 B.2.1 dX16_noRecords_3 (by decide) ?_
  refine lv_icmp_ge (tgt := 37) B.1 B.2.1 dX16_noRecords_6 (by decide) (fun h9 => ?_) (fun h9 => ?_)
  · rw [if_pos ((i32_le (by unfold rng; omega) g1).mp h9)] at h
    exact a_X16_noRecords_37 B hT hR hFr hLw hQ hX _ h hGσ hS _ _ _ hH (lv_sub (l' := [(0, .ref rm)]) hl [0] rfl) hc
  · rw [if_neg (fun q => h9 ((i32_le (by unfold rng; omega) g1).mpr q))] at h
    exact a_X16_noRecords_9 B hT hR hFr hLw hQ hX hK2 _ _ g1 h hGσ hS _ _ _ hH (lv_sub (l' := [(0, .ref rm), (1, .int (i32 v1))]) hl [0, 1] rfl) hc
theorem al_X16_noRecords_2 {p : Program} {l : Launch} {e : Env} {R : Room} {s : State} {m : MethodId} {args : Array Value} {below : List Frame} {meth : Method} {c : Code} {D : va_G} {cA : Nat → ClassId} {tys : List (ClassId × FieldType)} {A : Nat → Prop} {n0 s0 : Nat} {QM : State → Prop} {ra : Nat → Nat} {jx : Nat → Nat → Nat} {rm : Nat} {Q : Sg → Unit → Prop} {X : Sg → String → Prop} (B : Cx p s m args c cX16_noRecords 2 RX16 D cA tys A) (hT : Tys cA tys) (hR : Rm R n0 s0) (hFr : 0 ≤ R.frames) (hLw : 0 ≤ R.locals) (hQ : ∀ (pc : Nat) (ls : Array Slot) (σ : Sg) (H : Heap) (locs : List Loc), decode cX16_noRecords pc = .ok (.return_, 1) → Hd D cA A s σ H locs → CB n0 s0 σ → Q σ () → RG σ → Shp ra jx rm σ → W p l e R s m args below meth c H locs (gc σ - n0) (gs σ - s0) QM (F0 m pc ls [])) (hX : ∀ (σ : Sg) (E : String) (pc : Nat) (lo : List (Nat × Value)) (st : List Value), X σ E → RG σ → Shp ra jx rm σ → JX p l e R s m args below meth c 2 D cA A n0 s0 QM σ E pc lo st) : ∀ (n : Nat), ∀ (σ : Sg) (v1 : Int) (g1 : rng v1), wl_X16_noRecords_2 ra jx rm Q X n σ v1 → RG σ → Shp ra jx rm σ → JJ p l e R s m args below meth c 2 D cA A n0 s0 QM σ 2 [(0, .ref rm), (1, .int (i32 v1))] [] := by
  intro n
  induction n with
  | zero => intro σ v1 g1 h; exact h.elim
  | succ n ih => exact fun σ v1 g1 h => a_X16_noRecords_2 B hT hR hFr hLw hQ hX ih σ v1 g1 h
set_option maxRecDepth 20000 in
theorem a_X16_noRecords_0 {p : Program} {l : Launch} {e : Env} {R : Room} {s : State} {m : MethodId} {args : Array Value} {below : List Frame} {meth : Method} {c : Code} {D : va_G} {cA : Nat → ClassId} {tys : List (ClassId × FieldType)} {A : Nat → Prop} {n0 s0 : Nat} {QM : State → Prop} {ra : Nat → Nat} {jx : Nat → Nat → Nat} {rm : Nat} {Q : Sg → Unit → Prop} {X : Sg → String → Prop} (B : Cx p s m args c cX16_noRecords 2 RX16 D cA tys A) (hT : Tys cA tys) (hR : Rm R n0 s0) (hFr : 0 ≤ R.frames) (hLw : 0 ≤ R.locals) (hQ : ∀ (pc : Nat) (ls : Array Slot) (σ : Sg) (H : Heap) (locs : List Loc), decode cX16_noRecords pc = .ok (.return_, 1) → Hd D cA A s σ H locs → CB n0 s0 σ → Q σ () → RG σ → Shp ra jx rm σ → W p l e R s m args below meth c H locs (gc σ - n0) (gs σ - s0) QM (F0 m pc ls [])) (hX : ∀ (σ : Sg) (E : String) (pc : Nat) (lo : List (Nat × Value)) (st : List Value), X σ E → RG σ → Shp ra jx rm σ → JX p l e R s m args below meth c 2 D cA A n0 s0 QM σ E pc lo st) : ∀ (σ : Sg), w_X16_noRecords_0 ra jx rm Q X σ → RG σ → Shp ra jx rm σ → JJ p l e R s m args below meth c 2 D cA A n0 s0 QM σ 0 [(0, .ref rm)] [] := by
  intro σ h hGσ hS H locs ls hH hl hc
  unfold w_X16_noRecords_0 at h
  refine lv_iconst (v := i32 0) B.1 B.2.1 dX16_noRecords_0 (by decide) ?_
  refine lv_istore_n (lv' := [(1, .int (i32 0)), (0, .ref rm)]) B.1 B.2.1 dX16_noRecords_1 rfl hl (by decide) rfl (fun ls hl => ?_)
  obtain ⟨n9, h⟩ := h
  exact al_X16_noRecords_2 B hT hR hFr hLw hQ hX n9 _ _ (by unfold rng; omega) h hGσ hS _ _ _ hH (lv_sub (l' := [(0, .ref rm), (1, .int (i32 0))]) hl [1, 0] rfl) hc
theorem ok_X16_noRecords {l : Launch} {D : va_G} {cA : Nat → ClassId} {tys : List (ClassId × FieldType)} {A : Nat → Prop} {ra : Nat → Nat} {jx : Nat → Nat → Nat} {rm : Nat} (hT : Tys cA tys) {Q : Sg → Unit → Prop} {X : Sg → String → Prop} (σ : Sg) (hG : RG σ) (hS : Shp ra jx rm σ) (h : wp_X16_noRecords ra jx rm σ Q X) : Ok l D cA tys A yX16_noRecords (.code yX16_noRecords cX16_noRecords 2 none) 0 0 [.ref rm] σ (fun σ' w => w = none ∧ Q σ' () ∧ RG σ' ∧ Shp ra jx rm σ') (fun σ' E => X σ' E ∧ RG σ' ∧ Shp ra jx rm σ') := by
  refine ok_of (ret := none) (by decide) (Nat.le_of_ble_eq_true rfl) ?_
  intro p e R s m args below meth c hRR B hr hlocks hex _
  have B : Cx p s m args c cX16_noRecords 2 RX16 D cA tys A := B
  have hR : Rm R (gc σ) (gs σ) := by rw [hRR]; exact ⟨rfl, rfl⟩
  unfold wp_X16_noRecords at h
  intro H locs ls hH hl hc
  have hX : ∀ (σ9 : Sg) (E : String) (pc : Nat) (lo : List (Nat × Value)) (st : List Value), X σ9 E → RG σ9 → Shp ra jx rm σ9 → JX p l e R s m args below meth c 2 D cA A (gc σ) (gs σ) (vx_MQ below (Qw D cA A σ (fun σ' w => w = none ∧ Q σ' () ∧ RG σ' ∧ Shp ra jx rm σ')) (Xw D cA A σ (fun σ' E => X σ' E ∧ RG σ' ∧ Shp ra jx rm σ')) args s (BC - gc σ) (BS - gs σ) A) σ9 E pc lo st := fun σ9 E pc lo st hx hG9 hS9 H locs ls ce q hH hl hc hce hcv hcl => e_out hH hc (fun x hx9 => (hex x hx9).elim) hlocks hce hcv hcl ⟨hx, hG9, hS9⟩
  exact a_X16_noRecords_0 B hT hR (by rw [hRR]; exact Nat.le_refl _) (by rw [hRR]; exact Nat.le_refl _) (fun pc ls σ9 H locs hd hH hc hq hG9 hS9 => e_vret B hH hc hr hlocks ⟨rfl, hq, hG9, hS9⟩ hd) hX σ h hG hS H locs ls hH (lv_sub (l' := [(0, .ref rm)]) hl [0] rfl) hc
theorem dX16_noRun_0 : decode cX16_noRun 0 = .ok (.aload_n 0, 1) := by decide +kernel
theorem dX16_noRun_1 : decode cX16_noRun 1 = .ok (.iconst 0, 1) := by decide +kernel
theorem dX16_noRun_2 : decode cX16_noRun 2 = .ok (.putfield 852, 3) := by decide +kernel
theorem dX16_noRun_5 : decode cX16_noRun 5 = .ok (.aload_n 0, 1) := by decide +kernel
theorem dX16_noRun_6 : decode cX16_noRun 6 = .ok (.iconst 0, 1) := by decide +kernel
theorem dX16_noRun_7 : decode cX16_noRun 7 = .ok (.putfield 831, 3) := by decide +kernel
theorem dX16_noRun_10 : decode cX16_noRun 10 = .ok (.aload_n 0, 1) := by decide +kernel
theorem dX16_noRun_11 : decode cX16_noRun 11 = .ok (.iconst 0, 1) := by decide +kernel
theorem dX16_noRun_12 : decode cX16_noRun 12 = .ok (.putfield 399, 3) := by decide +kernel
theorem dX16_noRun_15 : decode cX16_noRun 15 = .ok (.aload_n 0, 1) := by decide +kernel
theorem dX16_noRun_16 : decode cX16_noRun 16 = .ok (.iconst 0, 1) := by decide +kernel
theorem dX16_noRun_17 : decode cX16_noRun 17 = .ok (.putfield 371, 3) := by decide +kernel
theorem dX16_noRun_20 : decode cX16_noRun 20 = .ok (.aload_n 0, 1) := by decide +kernel
theorem dX16_noRun_21 : decode cX16_noRun 21 = .ok (.iconst 0, 1) := by decide +kernel
theorem dX16_noRun_22 : decode cX16_noRun 22 = .ok (.putfield 745, 3) := by decide +kernel
theorem dX16_noRun_25 : decode cX16_noRun 25 = .ok (.aload_n 0, 1) := by decide +kernel
theorem dX16_noRun_26 : decode cX16_noRun 26 = .ok (.iconst 0, 1) := by decide +kernel
theorem dX16_noRun_27 : decode cX16_noRun 27 = .ok (.putfield 742, 3) := by decide +kernel
theorem dX16_noRun_30 : decode cX16_noRun 30 = .ok (.aload_n 0, 1) := by decide +kernel
theorem dX16_noRun_31 : decode cX16_noRun 31 = .ok (.iconst 0, 1) := by decide +kernel
theorem dX16_noRun_32 : decode cX16_noRun 32 = .ok (.putfield 855, 3) := by decide +kernel
theorem dX16_noRun_35 : decode cX16_noRun 35 = .ok (.aload_n 0, 1) := by decide +kernel
theorem dX16_noRun_36 : decode cX16_noRun 36 = .ok (.lconst 0, 1) := by decide +kernel
theorem dX16_noRun_37 : decode cX16_noRun 37 = .ok (.putfield 807, 3) := by decide +kernel
theorem dX16_noRun_40 : decode cX16_noRun 40 = .ok (.aload_n 0, 1) := by decide +kernel
theorem dX16_noRun_41 : decode cX16_noRun 41 = .ok (.lconst 0, 1) := by decide +kernel
theorem dX16_noRun_42 : decode cX16_noRun 42 = .ok (.putfield 826, 3) := by decide +kernel
theorem dX16_noRun_45 : decode cX16_noRun 45 = .ok (.aload_n 0, 1) := by decide +kernel
theorem dX16_noRun_46 : decode cX16_noRun 46 = .ok (.iconst 0, 1) := by decide +kernel
theorem dX16_noRun_47 : decode cX16_noRun 47 = .ok (.putfield 837, 3) := by decide +kernel
theorem dX16_noRun_50 : decode cX16_noRun 50 = .ok (.aload_n 0, 1) := by decide +kernel
theorem dX16_noRun_51 : decode cX16_noRun 51 = .ok (.iconst 0, 1) := by decide +kernel
theorem dX16_noRun_52 : decode cX16_noRun 52 = .ok (.putfield 343, 3) := by decide +kernel
theorem dX16_noRun_55 : decode cX16_noRun 55 = .ok (.aload_n 0, 1) := by decide +kernel
theorem dX16_noRun_56 : decode cX16_noRun 56 = .ok (.getfield 703, 3) := by decide +kernel
theorem dX16_noRun_59 : decode cX16_noRun 59 = .ok (.iconst 0, 1) := by decide +kernel
theorem dX16_noRun_60 : decode cX16_noRun 60 = .ok (.iconst 0, 1) := by decide +kernel
theorem dX16_noRun_61 : decode cX16_noRun 61 = .ok (.iastore, 1) := by decide +kernel
theorem dX16_noRun_62 : decode cX16_noRun 62 = .ok (.aload_n 0, 1) := by decide +kernel
theorem dX16_noRun_63 : decode cX16_noRun 63 = .ok (.getfield 703, 3) := by decide +kernel
theorem dX16_noRun_66 : decode cX16_noRun 66 = .ok (.iconst 1, 1) := by decide +kernel
theorem dX16_noRun_67 : decode cX16_noRun 67 = .ok (.iconst 0, 1) := by decide +kernel
theorem dX16_noRun_68 : decode cX16_noRun 68 = .ok (.iastore, 1) := by decide +kernel
theorem dX16_noRun_69 : decode cX16_noRun 69 = .ok (.aload_n 0, 1) := by decide +kernel
theorem dX16_noRun_70 : decode cX16_noRun 70 = .ok (.invokevirtual 858, 3) := by decide +kernel
theorem dX16_noRun_73 : decode cX16_noRun 73 = .ok (.aload_n 0, 1) := by decide +kernel
theorem dX16_noRun_74 : decode cX16_noRun 74 = .ok (.invokevirtual 834, 3) := by decide +kernel
theorem dX16_noRun_77 : decode cX16_noRun 77 = .ok (.aload_n 0, 1) := by decide +kernel
theorem dX16_noRun_78 : decode cX16_noRun 78 = .ok (.invokevirtual 843, 3) := by decide +kernel
theorem dX16_noRun_81 : decode cX16_noRun 81 = .ok (.return_, 1) := by decide +kernel
set_option maxRecDepth 20000 in
theorem a_X16_noRun_0 {p : Program} {l : Launch} {e : Env} {R : Room} {s : State} {m : MethodId} {args : Array Value} {below : List Frame} {meth : Method} {c : Code} {D : va_G} {cA : Nat → ClassId} {tys : List (ClassId × FieldType)} {A : Nat → Prop} {n0 s0 : Nat} {QM : State → Prop} {ra : Nat → Nat} {jx : Nat → Nat → Nat} {rm : Nat} {Q : Sg → Unit → Prop} {X : Sg → String → Prop} (B : Cx p s m args c cX16_noRun 1 RX16 D cA tys A) (hT : Tys cA tys) (hR : Rm R n0 s0) (hFr : 1 ≤ R.frames) (hLw : 21 ≤ R.locals) (hQ : ∀ (pc : Nat) (ls : Array Slot) (σ : Sg) (H : Heap) (locs : List Loc), decode cX16_noRun pc = .ok (.return_, 1) → Hd D cA A s σ H locs → CB n0 s0 σ → Q σ () → RG σ → Shp ra jx rm σ → W p l e R s m args below meth c H locs (gc σ - n0) (gs σ - s0) QM (F0 m pc ls [])) (hX : ∀ (σ : Sg) (E : String) (pc : Nat) (lo : List (Nat × Value)) (st : List Value), X σ E → RG σ → Shp ra jx rm σ → JX p l e R s m args below meth c 1 D cA A n0 s0 QM σ E pc lo st) : ∀ (σ : Sg), w_X16_noRun_0 ra jx rm Q X σ → RG σ → Shp ra jx rm σ → JJ p l e R s m args below meth c 1 D cA A n0 s0 QM σ 0 [(0, .ref rm)] [] := by
  intro σ h hGσ hS H locs ls hH hl hc
  unfold w_X16_noRun_0 at h
  refine lv_aload_n B.1 B.2.1 dX16_noRun_0 rfl (lv_at hl 0 rfl) ?_
  refine lv_iconst (v := i32 0) B.1 B.2.1 dX16_noRun_1 (by decide) ?_
  obtain ⟨σ33, eσ33⟩ : ∃ z, z = pI σ rm 30 0 := ⟨_, rfl⟩
  have h := h σ33 eσ33
  refine r_puti B hH hS 30 (ty := .boolean) (by decide) wf_X16_852 rfl rfl (by decide) rfl rfl rfl dX16_noRun_2 (fun H locs hH => ?_)
  have hH : Hd D cA A s (pI σ rm 30 0) H locs := hH
  rw [← eσ33] at hH
  have hGσ33 : RG σ33 := by rw [eσ33]; exact hGσ.pI (by unfold rng; omega)
  have hS : Shp ra jx rm σ33 := by rw [eσ33]; exact hS
  have hc : CB n0 s0 σ33 := by rw [eσ33]; exact hc
  rw [show gc σ = gc σ33 by rw [eσ33], show gs σ = gs σ33 by rw [eσ33]]
  refine lv_aload_n B.1 B.2.1 dX16_noRun_5 rfl (lv_at hl 0 rfl) ?_
  refine lv_iconst (v := i32 0) B.1 B.2.1 dX16_noRun_6 (by decide) ?_
  obtain ⟨σ34, eσ34⟩ : ∃ z, z = pI σ33 rm 31 0 := ⟨_, rfl⟩
  have h := h σ34 eσ34
  refine r_puti B hH hS 31 (ty := .boolean) (by decide) wf_X16_831 rfl rfl (by decide) rfl rfl rfl dX16_noRun_7 (fun H locs hH => ?_)
  have hH : Hd D cA A s (pI σ33 rm 31 0) H locs := hH
  rw [← eσ34] at hH
  have hGσ34 : RG σ34 := by rw [eσ34]; exact hGσ33.pI (by unfold rng; omega)
  have hS : Shp ra jx rm σ34 := by rw [eσ34]; exact hS
  have hc : CB n0 s0 σ34 := by rw [eσ34]; exact hc
  rw [show gc σ33 = gc σ34 by rw [eσ34], show gs σ33 = gs σ34 by rw [eσ34]]
  refine lv_aload_n B.1 B.2.1 dX16_noRun_10 rfl (lv_at hl 0 rfl) ?_
  refine lv_iconst (v := i32 0) B.1 B.2.1 dX16_noRun_11 (by decide) ?_
  obtain ⟨σ35, eσ35⟩ : ∃ z, z = pI σ34 rm 36 0 := ⟨_, rfl⟩
  have h := h σ35 eσ35
  refine r_puti B hH hS 36 (ty := .int) (by decide) wf_X16_399 rfl rfl (by decide) rfl rfl rfl dX16_noRun_12 (fun H locs hH => ?_)
  have hH : Hd D cA A s (pI σ34 rm 36 0) H locs := hH
  rw [← eσ35] at hH
  have hGσ35 : RG σ35 := by rw [eσ35]; exact hGσ34.pI (by unfold rng; omega)
  have hS : Shp ra jx rm σ35 := by rw [eσ35]; exact hS
  have hc : CB n0 s0 σ35 := by rw [eσ35]; exact hc
  rw [show gc σ34 = gc σ35 by rw [eσ35], show gs σ34 = gs σ35 by rw [eσ35]]
  refine lv_aload_n B.1 B.2.1 dX16_noRun_15 rfl (lv_at hl 0 rfl) ?_
  refine lv_iconst (v := i32 0) B.1 B.2.1 dX16_noRun_16 (by decide) ?_
  obtain ⟨σ36, eσ36⟩ : ∃ z, z = pI σ35 rm 50 0 := ⟨_, rfl⟩
  have h := h σ36 eσ36
  refine r_puti B hH hS 50 (ty := .int) (by decide) wf_X16_371 rfl rfl (by decide) rfl rfl rfl dX16_noRun_17 (fun H locs hH => ?_)
  have hH : Hd D cA A s (pI σ35 rm 50 0) H locs := hH
  rw [← eσ36] at hH
  have hGσ36 : RG σ36 := by rw [eσ36]; exact hGσ35.pI (by unfold rng; omega)
  have hS : Shp ra jx rm σ36 := by rw [eσ36]; exact hS
  have hc : CB n0 s0 σ36 := by rw [eσ36]; exact hc
  rw [show gc σ35 = gc σ36 by rw [eσ36], show gs σ35 = gs σ36 by rw [eσ36]]
  refine lv_aload_n B.1 B.2.1 dX16_noRun_20 rfl (lv_at hl 0 rfl) ?_
  refine lv_iconst (v := i32 0) B.1 B.2.1 dX16_noRun_21 (by decide) ?_
  obtain ⟨σ37, eσ37⟩ : ∃ z, z = pI σ36 rm 92 0 := ⟨_, rfl⟩
  have h := h σ37 eσ37
  refine r_puti B hH hS 92 (ty := .int) (by decide) wf_X16_745 rfl rfl (by decide) rfl rfl rfl dX16_noRun_22 (fun H locs hH => ?_)
  have hH : Hd D cA A s (pI σ36 rm 92 0) H locs := hH
  rw [← eσ37] at hH
  have hGσ37 : RG σ37 := by rw [eσ37]; exact hGσ36.pI (by unfold rng; omega)
  have hS : Shp ra jx rm σ37 := by rw [eσ37]; exact hS
  have hc : CB n0 s0 σ37 := by rw [eσ37]; exact hc
  rw [show gc σ36 = gc σ37 by rw [eσ37], show gs σ36 = gs σ37 by rw [eσ37]]
  refine lv_aload_n B.1 B.2.1 dX16_noRun_25 rfl (lv_at hl 0 rfl) ?_
  refine lv_iconst (v := i32 0) B.1 B.2.1 dX16_noRun_26 (by decide) ?_
  obtain ⟨σ38, eσ38⟩ : ∃ z, z = pI σ37 rm 93 0 := ⟨_, rfl⟩
  have h := h σ38 eσ38
  refine r_puti B hH hS 93 (ty := .int) (by decide) wf_X16_742 rfl rfl (by decide) rfl rfl rfl dX16_noRun_27 (fun H locs hH => ?_)
  have hH : Hd D cA A s (pI σ37 rm 93 0) H locs := hH
  rw [← eσ38] at hH
  have hGσ38 : RG σ38 := by rw [eσ38]; exact hGσ37.pI (by unfold rng; omega)
  have hS : Shp ra jx rm σ38 := by rw [eσ38]; exact hS
  have hc : CB n0 s0 σ38 := by rw [eσ38]; exact hc
  rw [show gc σ37 = gc σ38 by rw [eσ38], show gs σ37 = gs σ38 by rw [eσ38]]
  refine lv_aload_n B.1 B.2.1 dX16_noRun_30 rfl (lv_at hl 0 rfl) ?_
  refine lv_iconst (v := i32 0) B.1 B.2.1 dX16_noRun_31 (by decide) ?_
  obtain ⟨σ39, eσ39⟩ : ∃ z, z = pI σ38 rm 94 0 := ⟨_, rfl⟩
  have h := h σ39 eσ39
  refine r_puti B hH hS 94 (ty := .int) (by decide) wf_X16_855 rfl rfl (by decide) rfl rfl rfl dX16_noRun_32 (fun H locs hH => ?_)
  have hH : Hd D cA A s (pI σ38 rm 94 0) H locs := hH
  rw [← eσ39] at hH
  have hGσ39 : RG σ39 := by rw [eσ39]; exact hGσ38.pI (by unfold rng; omega)
  have hS : Shp ra jx rm σ39 := by rw [eσ39]; exact hS
  have hc : CB n0 s0 σ39 := by rw [eσ39]; exact hc
  rw [show gc σ38 = gc σ39 by rw [eσ39], show gs σ38 = gs σ39 by rw [eσ39]]
  refine lv_aload_n B.1 B.2.1 dX16_noRun_35 rfl (lv_at hl 0 rfl) ?_
  refine lv_lconst (v := 0) B.1 B.2.1 dX16_noRun_36 (by decide) ?_
  obtain ⟨σ40, eσ40⟩ : ∃ z, z = pJ σ39 rm 110 0 := ⟨_, rfl⟩
  have h := h σ40 eσ40
  refine r_putl B hH hS 110 (by decide) wf_X16_807 rfl rfl (by decide) rfl dX16_noRun_37 (fun H locs hH => ?_)
  have hH : Hd D cA A s (pJ σ39 rm 110 0) H locs := hH
  rw [← eσ40] at hH
  have hGσ40 : RG σ40 := by rw [eσ40]; exact hGσ39.pJ
  have hS : Shp ra jx rm σ40 := by rw [eσ40]; exact hS
  have hc : CB n0 s0 σ40 := by rw [eσ40]; exact hc
  rw [show gc σ39 = gc σ40 by rw [eσ40], show gs σ39 = gs σ40 by rw [eσ40]]
  refine lv_aload_n B.1 B.2.1 dX16_noRun_40 rfl (lv_at hl 0 rfl) ?_
  refine lv_lconst (v := 0) B.1 B.2.1 dX16_noRun_41 (by decide) ?_
  obtain ⟨σ41, eσ41⟩ : ∃ z, z = pJ σ40 rm 111 0 := ⟨_, rfl⟩
  have h := h σ41 eσ41
  refine r_putl B hH hS 111 (by decide) wf_X16_826 rfl rfl (by decide) rfl dX16_noRun_42 (fun H locs hH => ?_)
  have hH : Hd D cA A s (pJ σ40 rm 111 0) H locs := hH
  rw [← eσ41] at hH
  have hGσ41 : RG σ41 := by rw [eσ41]; exact hGσ40.pJ
  have hS : Shp ra jx rm σ41 := by rw [eσ41]; exact hS
  have hc : CB n0 s0 σ41 := by rw [eσ41]; exact hc
  rw [show gc σ40 = gc σ41 by rw [eσ41], show gs σ40 = gs σ41 by rw [eσ41]]
  refine lv_aload_n B.1 B.2.1 dX16_noRun_45 rfl (lv_at hl 0 rfl) ?_
  refine lv_iconst (v := i32 0) B.1 B.2.1 dX16_noRun_46 (by decide) ?_
  obtain ⟨σ42, eσ42⟩ : ∃ z, z = pI σ41 rm 112 0 := ⟨_, rfl⟩
  have h := h σ42 eσ42
  refine r_puti B hH hS 112 (ty := .int) (by decide) wf_X16_837 rfl rfl (by decide) rfl rfl rfl dX16_noRun_47 (fun H locs hH => ?_)
  have hH : Hd D cA A s (pI σ41 rm 112 0) H locs := hH
  rw [← eσ42] at hH
  have hGσ42 : RG σ42 := by rw [eσ42]; exact hGσ41.pI (by unfold rng; omega)
  have hS : Shp ra jx rm σ42 := by rw [eσ42]; exact hS
  have hc : CB n0 s0 σ42 := by rw [eσ42]; exact hc
  rw [show gc σ41 = gc σ42 by rw [eσ42], show gs σ41 = gs σ42 by rw [eσ42]]
  refine lv_aload_n B.1 B.2.1 dX16_noRun_50 rfl (lv_at hl 0 rfl) ?_
  refine lv_iconst (v := i32 0) B.1 B.2.1 dX16_noRun_51 (by decide) ?_
  obtain ⟨σ43, eσ43⟩ : ∃ z, z = pI σ42 rm 27 0 := ⟨_, rfl⟩
  have h := h σ43 eσ43
  refine r_puti B hH hS 27 (ty := .int) (by decide) wf_X16_343 rfl rfl (by decide) rfl rfl rfl dX16_noRun_52 (fun H locs hH => ?_)
  have hH : Hd D cA A s (pI σ42 rm 27 0) H locs := hH
  rw [← eσ43] at hH
  have hGσ43 : RG σ43 := by rw [eσ43]; exact hGσ42.pI (by unfold rng; omega)
  have hS : Shp ra jx rm σ43 := by rw [eσ43]; exact hS
  have hc : CB n0 s0 σ43 := by rw [eσ43]; exact hc
  rw [show gc σ42 = gc σ43 by rw [eσ43], show gs σ42 = gs σ43 by rw [eσ43]]
  refine lv_aload_n B.1 B.2.1 dX16_noRun_55 rfl (lv_at hl 0 rfl) ?_
  refine r_arr B hH hS 98 (kd := 100) (n := 2) (by decide) (by decide) wf_X16_703 rfl (by decide) dX16_noRun_56 ?_
  refine lv_iconst (v := i32 0) B.1 B.2.1 dX16_noRun_59 (by decide) ?_
  refine lv_iconst (v := i32 0) B.1 B.2.1 dX16_noRun_60 (by decide) ?_
  obtain ⟨σ44, eσ44⟩ : ∃ z, z = pI σ43 (ra 98) 0 0 := ⟨_, rfl⟩
  have h := h σ44 eσ44
  refine r_iast B hT hH hS 98 (n := 2) (by decide) (by decide) (by decide) dX16_noRun_61 (fun H locs hH => ?_)
  have hH : Hd D cA A s (pI σ43 (ra 98) 0 0) H locs := hH
  rw [← eσ44] at hH
  have hGσ44 : RG σ44 := by rw [eσ44]; exact hGσ43.pI (by unfold rng; omega)
  have hS : Shp ra jx rm σ44 := by rw [eσ44]; exact hS
  have hc : CB n0 s0 σ44 := by rw [eσ44]; exact hc
  rw [show gc σ43 = gc σ44 by rw [eσ44], show gs σ43 = gs σ44 by rw [eσ44]]
  refine lv_aload_n B.1 B.2.1 dX16_noRun_62 rfl (lv_at hl 0 rfl) ?_
  refine r_arr B hH hS 98 (kd := 100) (n := 2) (by decide) (by decide) wf_X16_703 rfl (by decide) dX16_noRun_63 ?_
  refine lv_iconst (v := i32 1) B.1 B.2.1 dX16_noRun_66 (by decide) ?_
  refine lv_iconst (v := i32 0) B.1 B.2.1 dX16_noRun_67 (by decide) ?_
  obtain ⟨σ45, eσ45⟩ : ∃ z, z = pI σ44 (ra 98) 1 0 := ⟨_, rfl⟩
  have h := h σ45 eσ45
  refine r_iast B hT hH hS 98 (n := 2) (by decide) (by decide) (by decide) dX16_noRun_68 (fun H locs hH => ?_)
  have hH : Hd D cA A s (pI σ44 (ra 98) 1 0) H locs := hH
  rw [← eσ45] at hH
  have hGσ45 : RG σ45 := by rw [eσ45]; exact hGσ44.pI (by unfold rng; omega)
  have hS : Shp ra jx rm σ45 := by rw [eσ45]; exact hS
  have hc : CB n0 s0 σ45 := by rw [eσ45]; exact hc
  rw [show gc σ44 = gc σ45 by rw [eσ45], show gs σ44 = gs σ45 by rw [eσ45]]
  refine lv_aload_n B.1 B.2.1 dX16_noRun_69 rfl (lv_at hl 0 rfl) ?_
  refine c_V B hH hl hc hR (C := RX16) (T := TX16) (N := 123) (ci := 16) (As := []) (ok_X16_noHeld hT σ45 hGσ45 hS h) wc_X16_858 0 (by decide +kernel) ⟨Nat.le_trans (Nat.le_of_ble_eq_true rfl) hFr, Nat.le_trans (Nat.le_of_ble_eq_true rfl) hLw⟩ hS.1.1 hS.1.2 (by decide) rfl rfl (rest := []) rfl (Nat.le_of_ble_eq_true rfl) dX16_noRun_70 (fun σ46 w hq => ?_) (fun σ9 E9 hx9 => hX σ9 E9 _ _ _ hx9.1 hx9.2.1 hx9.2.2)
  obtain ⟨rfl, h, hGσ46, hS⟩ := hq
  intro H locs ls hH hl hc
  refine W.eq (g2 := F0 m 73 ls []) rfl ?_
  try dsimp only at h
  refine lv_aload_n B.1 B.2.1 dX16_noRun_73 rfl (lv_at hl 0 rfl) ?_
  refine c_V B hH hl hc hR (C := RX16) (T := TX16) (N := 123) (ci := 16) (As := []) (ok_X16_noRecords hT σ46 hGσ46 hS h) wc_X16_834 0 (by decide +kernel) ⟨Nat.le_trans (Nat.le_of_ble_eq_true rfl) hFr, Nat.le_trans (Nat.le_of_ble_eq_true rfl) hLw⟩ hS.1.1 hS.1.2 (by decide) rfl rfl (rest := []) rfl (Nat.le_of_ble_eq_true rfl) dX16_noRun_74 (fun σ47 w hq => ?_) (fun σ9 E9 hx9 => hX σ9 E9 _ _ _ hx9.1 hx9.2.1 hx9.2.2)
  obtain ⟨rfl, h, hGσ47, hS⟩ := hq
  intro H locs ls hH hl hc
  refine W.eq (g2 := F0 m 77 ls []) rfl ?_
  try dsimp only at h
  refine lv_aload_n B.1 B.2.1 dX16_noRun_77 rfl (lv_at hl 0 rfl) ?_
  refine c_V B hH hl hc hR (C := RX16) (T := TX16) (N := 123) (ci := 16) (As := []) (ok_X16_empty hT σ47 hGσ47 hS h) wc_X16_843 0 (by decide +kernel) ⟨Nat.le_trans (Nat.le_of_ble_eq_true rfl) hFr, Nat.le_trans (Nat.le_of_ble_eq_true rfl) hLw⟩ hS.1.1 hS.1.2 (by decide) rfl rfl (rest := []) rfl (Nat.le_of_ble_eq_true rfl) dX16_noRun_78 (fun σ48 w hq => ?_) (fun σ9 E9 hx9 => hX σ9 E9 _ _ _ hx9.1 hx9.2.1 hx9.2.2)
  obtain ⟨rfl, h, hGσ48, hS⟩ := hq
  intro H locs ls hH hl hc
  refine W.eq (g2 := F0 m 81 ls []) rfl ?_
  try dsimp only at h
  exact hQ _ _ _ _ _ dX16_noRun_81 hH hc h hGσ48 hS
theorem ok_X16_noRun {l : Launch} {D : va_G} {cA : Nat → ClassId} {tys : List (ClassId × FieldType)} {A : Nat → Prop} {ra : Nat → Nat} {jx : Nat → Nat → Nat} {rm : Nat} (hT : Tys cA tys) {Q : Sg → Unit → Prop} {X : Sg → String → Prop} (σ : Sg) (hG : RG σ) (hS : Shp ra jx rm σ) (h : wp_X16_noRun ra jx rm σ Q X) : Ok l D cA tys A yX16_noRun (.code yX16_noRun cX16_noRun 1 none) 1 21 [.ref rm] σ (fun σ' w => w = none ∧ Q σ' () ∧ RG σ' ∧ Shp ra jx rm σ') (fun σ' E => X σ' E ∧ RG σ' ∧ Shp ra jx rm σ') := by
  refine ok_of (ret := none) (by decide) (Nat.le_of_ble_eq_true rfl) ?_
  intro p e R s m args below meth c hRR B hr hlocks hex _
  have B : Cx p s m args c cX16_noRun 1 RX16 D cA tys A := B
  have hR : Rm R (gc σ) (gs σ) := by rw [hRR]; exact ⟨rfl, rfl⟩
  unfold wp_X16_noRun at h
  intro H locs ls hH hl hc
  have hX : ∀ (σ9 : Sg) (E : String) (pc : Nat) (lo : List (Nat × Value)) (st : List Value), X σ9 E → RG σ9 → Shp ra jx rm σ9 → JX p l e R s m args below meth c 1 D cA A (gc σ) (gs σ) (vx_MQ below (Qw D cA A σ (fun σ' w => w = none ∧ Q σ' () ∧ RG σ' ∧ Shp ra jx rm σ')) (Xw D cA A σ (fun σ' E => X σ' E ∧ RG σ' ∧ Shp ra jx rm σ')) args s (BC - gc σ) (BS - gs σ) A) σ9 E pc lo st := fun σ9 E pc lo st hx hG9 hS9 H locs ls ce q hH hl hc hce hcv hcl => e_out hH hc (fun x hx9 => (hex x hx9).elim) hlocks hce hcv hcl ⟨hx, hG9, hS9⟩
  exact a_X16_noRun_0 B hT hR (by rw [hRR]; exact Nat.le_refl _) (by rw [hRR]; exact Nat.le_refl _) (fun pc ls σ9 H locs hd hH hc hq hG9 hS9 => e_vret B hH hc hr hlocks ⟨rfl, hq, hG9, hS9⟩ hd) hX σ h hG hS H locs ls hH (lv_sub (l' := [(0, .ref rm)]) hl [0] rfl) hc
theorem dX16_partOf_0 : decode cX16_partOf 0 = .ok (.lload_n 1, 1) := by decide +kernel
theorem dX16_partOf_1 : decode cX16_partOf 1 = .ok (.invokestatic 464, 3) := by decide +kernel
theorem dX16_partOf_4 : decode cX16_partOf 4 = .ok (.aload_n 0, 1) := by decide +kernel
theorem dX16_partOf_5 : decode cX16_partOf 5 = .ok (.getfield 365, 3) := by decide +kernel
theorem dX16_partOf_8 : decode cX16_partOf 8 = .ok (.imul, 1) := by decide +kernel
theorem dX16_partOf_9 : decode cX16_partOf 9 = .ok (.bipush 16, 2) := by decide +kernel
theorem dX16_partOf_11 : decode cX16_partOf 11 = .ok (.idiv, 1) := by decide +kernel
theorem dX16_partOf_12 : decode cX16_partOf 12 = .ok (.ireturn, 1) := by decide +kernel
set_option maxRecDepth 20000 in
theorem a_X16_partOf_0 {p : Program} {l : Launch} {e : Env} {R : Room} {s : State} {m : MethodId} {args : Array Value} {below : List Frame} {meth : Method} {c : Code} {D : va_G} {cA : Nat → ClassId} {tys : List (ClassId × FieldType)} {A : Nat → Prop} {n0 s0 : Nat} {QM : State → Prop} {ra : Nat → Nat} {jx : Nat → Nat → Nat} {rm : Nat} {Q : Sg → Int → Prop} {X : Sg → String → Prop} (B : Cx p s m args c cX16_partOf 3 RX16 D cA tys A) (hT : Tys cA tys) (hR : Rm R n0 s0) (hFr : 1 ≤ R.frames) (hLw : 21 ≤ R.locals) (hQ : ∀ (pc : Nat) (ls : Array Slot) (σ : Sg) (H : Heap) (locs : List Loc) (r : Int) (gr : rng r), decode cX16_partOf pc = .ok (.ireturn, 1) → Hd D cA A s σ H locs → CB n0 s0 σ → Q σ r → RG σ → Shp ra jx rm σ → W p l e R s m args below meth c H locs (gc σ - n0) (gs σ - s0) QM (F0 m pc ls [.int (i32 r)])) (hX : ∀ (σ : Sg) (E : String) (pc : Nat) (lo : List (Nat × Value)) (st : List Value), X σ E → RG σ → Shp ra jx rm σ → JX p l e R s m args below meth c 3 D cA A n0 s0 QM σ E pc lo st) : ∀ (σ : Sg) (v1 : Int64), w_X16_partOf_0 ra jx rm Q X σ v1 → RG σ → Shp ra jx rm σ → JJ p l e R s m args below meth c 3 D cA A n0 s0 QM σ 0 [(0, .ref rm), (1, .long v1)] [] := by
  intro σ v1 h hGσ hS H locs ls hH hl hc
  unfold w_X16_partOf_0 at h
  refine lv_lload_n B.1 B.2.1 dX16_partOf_0 rfl (lv_at hl 1 rfl) ?_
  refine c_S B hH hl hc hR (As := [.long v1]) (ok_X16_groupOf hT σ v1 hGσ hS h) wc_X16_464 1 (by decide +kernel) ⟨Nat.le_trans (Nat.le_of_ble_eq_true rfl) hFr, Nat.le_trans (Nat.le_of_ble_eq_true rfl) hLw⟩ rfl (rest := []) rfl (Nat.le_of_ble_eq_true rfl) dX16_partOf_1 (fun σ5 w hq => ?_) (fun σ9 E9 hx9 => hX σ9 E9 _ _ _ hx9.1 hx9.2.1 hx9.2.2)
  obtain ⟨r6, rfl, gr6, h, hGσ5, hS⟩ := hq
  intro H locs ls hH hl hc
  refine W.eq (g2 := F0 m 4 ls [.int (i32 r6)]) rfl ?_
  try dsimp only at h
  refine lv_aload_n B.1 B.2.1 dX16_partOf_4 rfl (lv_at hl 0 rfl) ?_
  refine r_geti B hH hS 33 (by decide) wf_X16_365 rfl (by decide) dX16_partOf_5 ?_
  obtain ⟨q1, h⟩ := h
  refine lv_imul B.1 B.2.1 dX16_partOf_8 ?_
  rw [i32_mul]
  refine lv_bipush (v := i32 16) B.1 B.2.1 dX16_partOf_9 (by decide) ?_
  refine lv_idiv B.1 B.2.1 dX16_partOf_11 (i32_ne0 (by unfold rng; omega) (by decide)) ?_
  refine W.eq (g2 := F0 m 12 ls [.int (i32 ((i32 (r6 * gI σ5 rm 33) / i32 16).toInt))]) (by rw [i32_self]) ?_
  exact hQ _ _ _ _ _ _ (rng_toInt _) dX16_partOf_12 hH hc h hGσ5 hS
theorem ok_X16_partOf {l : Launch} {D : va_G} {cA : Nat → ClassId} {tys : List (ClassId × FieldType)} {A : Nat → Prop} {ra : Nat → Nat} {jx : Nat → Nat → Nat} {rm : Nat} (hT : Tys cA tys) {Q : Sg → Int → Prop} {X : Sg → String → Prop} (σ : Sg) (v1 : Int64) (hG : RG σ) (hS : Shp ra jx rm σ) (h : wp_X16_partOf ra jx rm v1 σ Q X) : Ok l D cA tys A yX16_partOf (.code yX16_partOf cX16_partOf 3 (some .int)) 1 21 [.ref rm, .long v1] σ (fun σ' w => ∃ r, w = some (.int (i32 r)) ∧ rng r ∧ Q σ' r ∧ RG σ' ∧ Shp ra jx rm σ') (fun σ' E => X σ' E ∧ RG σ' ∧ Shp ra jx rm σ') := by
  refine ok_of (ret := (some .int)) (by decide) (Nat.le_of_ble_eq_true rfl) ?_
  intro p e R s m args below meth c hRR B hr hlocks hex _
  have B : Cx p s m args c cX16_partOf 3 RX16 D cA tys A := B
  have hR : Rm R (gc σ) (gs σ) := by rw [hRR]; exact ⟨rfl, rfl⟩
  unfold wp_X16_partOf at h
  intro H locs ls hH hl hc
  have hX : ∀ (σ9 : Sg) (E : String) (pc : Nat) (lo : List (Nat × Value)) (st : List Value), X σ9 E → RG σ9 → Shp ra jx rm σ9 → JX p l e R s m args below meth c 3 D cA A (gc σ) (gs σ) (vx_MQ below (Qw D cA A σ (fun σ' w => ∃ r, w = some (.int (i32 r)) ∧ rng r ∧ Q σ' r ∧ RG σ' ∧ Shp ra jx rm σ')) (Xw D cA A σ (fun σ' E => X σ' E ∧ RG σ' ∧ Shp ra jx rm σ')) args s (BC - gc σ) (BS - gs σ) A) σ9 E pc lo st := fun σ9 E pc lo st hx hG9 hS9 H locs ls ce q hH hl hc hce hcv hcl => e_out hH hc (fun x hx9 => (hex x hx9).elim) hlocks hce hcv hcl ⟨hx, hG9, hS9⟩
  exact a_X16_partOf_0 B hT hR (by rw [hRR]; exact Nat.le_refl _) (by rw [hRR]; exact Nat.le_refl _) (fun pc ls σ9 H locs r gr hd hH hc hq hG9 hS9 => e_iret B hH hc hr rfl hlocks ⟨r, rfl, gr, hq, hG9, hS9⟩ hd) hX σ v1 h hG hS H locs ls hH (lv_sub (l' := [(0, .ref rm), (1, .long v1)]) hl [0, 1] rfl) hc
theorem dX16_passOn_0 : decode cX16_passOn 0 = .ok (.aload_n 0, 1) := by decide +kernel
theorem dX16_passOn_1 : decode cX16_passOn 1 = .ok (.getfield 661, 3) := by decide +kernel
theorem dX16_passOn_4 : decode cX16_passOn 4 = .ok (.iload_n 1, 1) := by decide +kernel
theorem dX16_passOn_5 : decode cX16_passOn 5 = .ok (.iaload, 1) := by decide +kernel
theorem dX16_passOn_6 : decode cX16_passOn 6 = .ok (.iconst (-1), 1) := by decide +kernel
theorem dX16_passOn_7 : decode cX16_passOn 7 = .ok (.if_icmp .eq 31, 3) := by decide +kernel
theorem dX16_passOn_10 : decode cX16_passOn 10 = .ok (.aload_n 0, 1) := by decide +kernel
theorem dX16_passOn_11 : decode cX16_passOn 11 = .ok (.getfield 661, 3) := by decide +kernel
theorem dX16_passOn_14 : decode cX16_passOn 14 = .ok (.iload_n 1, 1) := by decide +kernel
theorem dX16_passOn_15 : decode cX16_passOn 15 = .ok (.iaload, 1) := by decide +kernel
theorem dX16_passOn_16 : decode cX16_passOn 16 = .ok (.istore_n 3, 1) := by decide +kernel
theorem dX16_passOn_17 : decode cX16_passOn 17 = .ok (.aload_n 0, 1) := by decide +kernel
theorem dX16_passOn_18 : decode cX16_passOn 18 = .ok (.getfield 661, 3) := by decide +kernel
theorem dX16_passOn_21 : decode cX16_passOn 21 = .ok (.iload_n 1, 1) := by decide +kernel
theorem dX16_passOn_22 : decode cX16_passOn 22 = .ok (.aload_n 0, 1) := by decide +kernel
theorem dX16_passOn_23 : decode cX16_passOn 23 = .ok (.getfield 652, 3) := by decide +kernel
theorem dX16_passOn_26 : decode cX16_passOn 26 = .ok (.iload_n 3, 1) := by decide +kernel
theorem dX16_passOn_27 : decode cX16_passOn 27 = .ok (.iaload, 1) := by decide +kernel
theorem dX16_passOn_28 : decode cX16_passOn 28 = .ok (.iastore, 1) := by decide +kernel
theorem dX16_passOn_29 : decode cX16_passOn 29 = .ok (.aload_n 0, 1) := by decide +kernel
theorem dX16_passOn_30 : decode cX16_passOn 30 = .ok (.iload_n 2, 1) := by decide +kernel
theorem dX16_passOn_31 : decode cX16_passOn 31 = .ok (.iload_n 3, 1) := by decide +kernel
theorem dX16_passOn_32 : decode cX16_passOn 32 = .ok (.invokevirtual 679, 3) := by decide +kernel
theorem dX16_passOn_35 : decode cX16_passOn 35 = .ok (.goto (-35), 3) := by decide +kernel
theorem dX16_passOn_38 : decode cX16_passOn 38 = .ok (.aload_n 0, 1) := by decide +kernel
theorem dX16_passOn_39 : decode cX16_passOn 39 = .ok (.getfield 664, 3) := by decide +kernel
theorem dX16_passOn_42 : decode cX16_passOn 42 = .ok (.iload_n 1, 1) := by decide +kernel
theorem dX16_passOn_43 : decode cX16_passOn 43 = .ok (.iconst (-1), 1) := by decide +kernel
theorem dX16_passOn_44 : decode cX16_passOn 44 = .ok (.iastore, 1) := by decide +kernel
theorem dX16_passOn_45 : decode cX16_passOn 45 = .ok (.aload_n 0, 1) := by decide +kernel
theorem dX16_passOn_46 : decode cX16_passOn 46 = .ok (.getfield 667, 3) := by decide +kernel
theorem dX16_passOn_49 : decode cX16_passOn 49 = .ok (.iload_n 1, 1) := by decide +kernel
theorem dX16_passOn_50 : decode cX16_passOn 50 = .ok (.iconst 0, 1) := by decide +kernel
theorem dX16_passOn_51 : decode cX16_passOn 51 = .ok (.iastore, 1) := by decide +kernel
theorem dX16_passOn_52 : decode cX16_passOn 52 = .ok (.return_, 1) := by decide +kernel
set_option maxRecDepth 20000 in
theorem a_X16_passOn_38 {p : Program} {l : Launch} {e : Env} {R : Room} {s : State} {m : MethodId} {args : Array Value} {below : List Frame} {meth : Method} {c : Code} {D : va_G} {cA : Nat → ClassId} {tys : List (ClassId × FieldType)} {A : Nat → Prop} {n0 s0 : Nat} {QM : State → Prop} {ra : Nat → Nat} {jx : Nat → Nat → Nat} {rm : Nat} {Q : Sg → Unit → Prop} {X : Sg → String → Prop} (B : Cx p s m args c cX16_passOn 4 RX16 D cA tys A) (hT : Tys cA tys) (hR : Rm R n0 s0) (hFr : 1 ≤ R.frames) (hLw : 22 ≤ R.locals) (hQ : ∀ (pc : Nat) (ls : Array Slot) (σ : Sg) (H : Heap) (locs : List Loc), decode cX16_passOn pc = .ok (.return_, 1) → Hd D cA A s σ H locs → CB n0 s0 σ → Q σ () → RG σ → Shp ra jx rm σ → W p l e R s m args below meth c H locs (gc σ - n0) (gs σ - s0) QM (F0 m pc ls [])) (hX : ∀ (σ : Sg) (E : String) (pc : Nat) (lo : List (Nat × Value)) (st : List Value), X σ E → RG σ → Shp ra jx rm σ → JX p l e R s m args below meth c 4 D cA A n0 s0 QM σ E pc lo st) : ∀ (σ : Sg) (v1 : Int) (g1 : rng v1), w_X16_passOn_38 ra jx rm Q X σ v1 → RG σ → Shp ra jx rm σ → JJ p l e R s m args below meth c 4 D cA A n0 s0 QM σ 38 [(0, .ref rm), (1, .int (i32 v1))] [] := by
  intro σ v1 g1 h hGσ hS H locs ls hH hl hc
  unfold w_X16_passOn_38 at h
  refine lv_aload_n B.1 B.2.1 dX16_passOn_38 rfl (lv_at hl 0 rfl) ?_
  refine r_arr B hH hS 88 (kd := 100) (n := 12) (by decide) (by decide) wf_X16_664 rfl (by decide) dX16_passOn_39 ?_
  refine lv_iload_n B.1 B.2.1 dX16_passOn_42 rfl (lv_at hl 1 rfl) ?_
  refine lv_iconst (v := i32 (-1)) B.1 B.2.1 dX16_passOn_43 (by decide) ?_
  obtain ⟨q1, h⟩ := h
  obtain ⟨σ9, eσ9⟩ : ∃ z, z = pI σ (ra 88) v1.toNat (-1) := ⟨_, rfl⟩
  have h := h σ9 eσ9
  refine r_iast B hT hH hS 88 (n := 12) (by decide) (by decide) q1 dX16_passOn_44 (fun H locs hH => ?_)
  have hH : Hd D cA A s (pI σ (ra 88) v1.toNat (-1)) H locs := hH
  rw [← eσ9] at hH
  have hGσ9 : RG σ9 := by rw [eσ9]; exact hGσ.pI (by unfold rng; omega)
  have hS : Shp ra jx rm σ9 := by rw [eσ9]; exact hS
  have hc : CB n0 s0 σ9 := by rw [eσ9]; exact hc
  rw [show gc σ = gc σ9 by rw [eσ9], show gs σ = gs σ9 by rw [eσ9]]
  refine lv_aload_n B.1 B.2.1 dX16_passOn_45 rfl (lv_at hl 0 rfl) ?_
  refine r_arr B hH hS 89 (kd := 100) (n := 12) (by decide) (by decide) wf_X16_667 rfl (by decide) dX16_passOn_46 ?_
  refine lv_iload_n B.1 B.2.1 dX16_passOn_49 rfl (lv_at hl 1 rfl) ?_
  refine lv_iconst (v := i32 0) B.1 B.2.1 dX16_passOn_50 (by decide) ?_
  obtain ⟨q2, h⟩ := h
  obtain ⟨σ10, eσ10⟩ : ∃ z, z = pI σ9 (ra 89) v1.toNat 0 := ⟨_, rfl⟩
  have h := h σ10 eσ10
  refine r_iast B hT hH hS 89 (n := 12) (by decide) (by decide) q2 dX16_passOn_51 (fun H locs hH => ?_)
  have hH : Hd D cA A s (pI σ9 (ra 89) v1.toNat 0) H locs := hH
  rw [← eσ10] at hH
  have hGσ10 : RG σ10 := by rw [eσ10]; exact hGσ9.pI (by unfold rng; omega)
  have hS : Shp ra jx rm σ10 := by rw [eσ10]; exact hS
  have hc : CB n0 s0 σ10 := by rw [eσ10]; exact hc
  rw [show gc σ9 = gc σ10 by rw [eσ10], show gs σ9 = gs σ10 by rw [eσ10]]
  exact hQ _ _ _ _ _ dX16_passOn_52 hH hc h hGσ10 hS
set_option maxRecDepth 20000 in
theorem a_X16_passOn_10 {p : Program} {l : Launch} {e : Env} {R : Room} {s : State} {m : MethodId} {args : Array Value} {below : List Frame} {meth : Method} {c : Code} {D : va_G} {cA : Nat → ClassId} {tys : List (ClassId × FieldType)} {A : Nat → Prop} {n0 s0 : Nat} {QM : State → Prop} {ra : Nat → Nat} {jx : Nat → Nat → Nat} {rm : Nat} {Q : Sg → Unit → Prop} {X : Sg → String → Prop} (B : Cx p s m args c cX16_passOn 4 RX16 D cA tys A) (hT : Tys cA tys) (hR : Rm R n0 s0) (hFr : 1 ≤ R.frames) (hLw : 22 ≤ R.locals) (hQ : ∀ (pc : Nat) (ls : Array Slot) (σ : Sg) (H : Heap) (locs : List Loc), decode cX16_passOn pc = .ok (.return_, 1) → Hd D cA A s σ H locs → CB n0 s0 σ → Q σ () → RG σ → Shp ra jx rm σ → W p l e R s m args below meth c H locs (gc σ - n0) (gs σ - s0) QM (F0 m pc ls [])) (hX : ∀ (σ : Sg) (E : String) (pc : Nat) (lo : List (Nat × Value)) (st : List Value), X σ E → RG σ → Shp ra jx rm σ → JX p l e R s m args below meth c 4 D cA A n0 s0 QM σ E pc lo st) {K0 : Sg → Int → Int → Prop} (hK0 : ∀ (σ : Sg) (v1 : Int) (v2 : Int) (g1 : rng v1) (g2 : rng v2), K0 σ v1 v2 → RG σ → Shp ra jx rm σ → JJ p l e R s m args below meth c 4 D cA A n0 s0 QM σ 0 [(0, .ref rm), (1, .int (i32 v1)), (2, .int (i32 v2))] []) : ∀ (σ : Sg) (v1 : Int) (v2 : Int) (g1 : rng v1) (g2 : rng v2), w_X16_passOn_10 ra jx rm K0 Q X σ v1 v2 → RG σ → Shp ra jx rm σ → JJ p l e R s m args below meth c 4 D cA A n0 s0 QM σ 10 [(0, .ref rm), (1, .int (i32 v1)), (2, .int (i32 v2))] [] := by
  intro σ v1 v2 g1 g2 h hGσ hS H locs ls hH hl hc
  unfold w_X16_passOn_10 at h
  refine lv_aload_n B.1 B.2.1 dX16_passOn_10 rfl (lv_at hl 0 rfl) ?_
  refine r_arr B hH hS 87 (kd := 100) (n := 12) (by decide) (by decide) wf_X16_661 rfl (by decide) dX16_passOn_11 ?_
  refine lv_iload_n B.1 B.2.1 dX16_passOn_14 rfl (lv_at hl 1 rfl) ?_
  obtain ⟨q1, h⟩ := h
  refine r_iald B hT hH hS 87 (n := 12) (by decide) (by decide) q1 dX16_passOn_15 ?_
  refine lv_istore_n (lv' := [(3, .int (i32 (gI σ (ra 87) v1.toNat))), (0, .ref rm), (1, .int (i32 v1)), (2, .int (i32 v2))]) B.1 B.2.1 dX16_passOn_16 rfl hl (by decide) rfl (fun ls hl => ?_)
  refine lv_aload_n B.1 B.2.1 dX16_passOn_17 rfl (lv_at hl 1 rfl) ?_
  refine r_arr B hH hS 87 (kd := 100) (n := 12) (by decide) (by decide) wf_X16_661 rfl (by decide) dX16_passOn_18 ?_
  refine lv_iload_n B.1 B.2.1 dX16_passOn_21 rfl (lv_at hl 2 rfl) ?_
  refine lv_aload_n B.1 B.2.1 dX16_passOn_22 rfl (lv_at hl 1 rfl) ?_
  refine r_arr B hH hS 86 (kd := 100) (n := 2000) (by decide) (by decide) wf_X16_652 rfl (by decide) dX16_passOn_23 ?_
  refine lv_iload_n B.1 B.2.1 dX16_passOn_26 rfl (lv_at hl 0 rfl) ?_
  obtain ⟨q2, h⟩ := h
  refine r_iald B hT hH hS 86 (n := 2000) (by decide) (by decide) q2 dX16_passOn_27 ?_
  obtain ⟨q3, h⟩ := h
  obtain ⟨σ11, eσ11⟩ : ∃ z, z = pI σ (ra 87) v1.toNat (gI σ (ra 86) (gI σ (ra 87) v1.toNat).toNat) := ⟨_, rfl⟩
  have h := h σ11 eσ11
  refine r_iast B hT hH hS 87 (n := 12) (by decide) (by decide) q3 dX16_passOn_28 (fun H locs hH => ?_)
  have hH : Hd D cA A s (pI σ (ra 87) v1.toNat (gI σ (ra 86) (gI σ (ra 87) v1.toNat).toNat)) H locs := hH
  rw [← eσ11] at hH
  have hGσ11 : RG σ11 := by rw [eσ11]; exact hGσ.pI (hGσ _ _)
  have hS : Shp ra jx rm σ11 := by rw [eσ11]; exact hS
  have hc : CB n0 s0 σ11 := by rw [eσ11]; exact hc
  rw [show gc σ = gc σ11 by rw [eσ11], show gs σ = gs σ11 by rw [eσ11]]
  refine lv_aload_n B.1 B.2.1 dX16_passOn_29 rfl (lv_at hl 1 rfl) ?_
  refine lv_iload_n B.1 B.2.1 dX16_passOn_30 rfl (lv_at hl 3 rfl) ?_
  refine lv_iload_n B.1 B.2.1 dX16_passOn_31 rfl (lv_at hl 0 rfl) ?_
  refine c_V B hH hl hc hR (C := RX16) (T := TX16) (N := 123) (ci := 16) (As := [.int (i32 v2), .int (i32 (gI σ (ra 87) v1.toNat))]) (ok_X16_hang hT σ11 v2 (gI σ (ra 87) v1.toNat) g2 (hGσ _ _) hGσ11 hS h) wc_X16_679 2 (by decide +kernel) ⟨Nat.le_trans (Nat.le_of_ble_eq_true rfl) hFr, Nat.le_trans (Nat.le_of_ble_eq_true rfl) hLw⟩ hS.1.1 hS.1.2 (by decide) rfl rfl (rest := []) rfl (Nat.le_of_ble_eq_true rfl) dX16_passOn_32 (fun σ12 w hq => ?_) (fun σ9 E9 hx9 => hX σ9 E9 _ _ _ hx9.1 hx9.2.1 hx9.2.2)
  obtain ⟨rfl, h, hGσ12, hS⟩ := hq
  intro H locs ls hH hl hc
  refine W.eq (g2 := F0 m 35 ls []) rfl ?_
  try dsimp only at h
  refine lv_goto (tgt := 0) B.1 B.2.1 dX16_passOn_35 (by decide) ?_
  exact hK0 _ _ _ g1 g2 h hGσ12 hS _ _ _ hH (lv_sub (l' := [(0, .ref rm), (1, .int (i32 v1)), (2, .int (i32 v2))]) hl [1, 2, 3] rfl) hc
set_option maxRecDepth 20000 in
theorem a_X16_passOn_0 {p : Program} {l : Launch} {e : Env} {R : Room} {s : State} {m : MethodId} {args : Array Value} {below : List Frame} {meth : Method} {c : Code} {D : va_G} {cA : Nat → ClassId} {tys : List (ClassId × FieldType)} {A : Nat → Prop} {n0 s0 : Nat} {QM : State → Prop} {ra : Nat → Nat} {jx : Nat → Nat → Nat} {rm : Nat} {Q : Sg → Unit → Prop} {X : Sg → String → Prop} (B : Cx p s m args c cX16_passOn 4 RX16 D cA tys A) (hT : Tys cA tys) (hR : Rm R n0 s0) (hFr : 1 ≤ R.frames) (hLw : 22 ≤ R.locals) (hQ : ∀ (pc : Nat) (ls : Array Slot) (σ : Sg) (H : Heap) (locs : List Loc), decode cX16_passOn pc = .ok (.return_, 1) → Hd D cA A s σ H locs → CB n0 s0 σ → Q σ () → RG σ → Shp ra jx rm σ → W p l e R s m args below meth c H locs (gc σ - n0) (gs σ - s0) QM (F0 m pc ls [])) (hX : ∀ (σ : Sg) (E : String) (pc : Nat) (lo : List (Nat × Value)) (st : List Value), X σ E → RG σ → Shp ra jx rm σ → JX p l e R s m args below meth c 4 D cA A n0 s0 QM σ E pc lo st) {K0 : Sg → Int → Int → Prop} (hK0 : ∀ (σ : Sg) (v1 : Int) (v2 : Int) (g1 : rng v1) (g2 : rng v2), K0 σ v1 v2 → RG σ → Shp ra jx rm σ → JJ p l e R s m args below meth c 4 D cA A n0 s0 QM σ 0 [(0, .ref rm), (1, .int (i32 v1)), (2, .int (i32 v2))] []) : ∀ (σ : Sg) (v1 : Int) (v2 : Int) (g1 : rng v1) (g2 : rng v2), w_X16_passOn_0 ra jx rm K0 Q X σ v1 v2 → RG σ → Shp ra jx rm σ → JJ p l e R s m args below meth c 4 D cA A n0 s0 QM σ 0 [(0, .ref rm), (1, .int (i32 v1)), (2, .int (i32 v2))] [] := by
  intro σ v1 v2 g1 g2 h hGσ hS H locs ls hH hl hc
  unfold w_X16_passOn_0 at h
  refine lv_aload_n B.1 B.2.1 dX16_passOn_0 rfl (lv_at hl 0 rfl) ?_
  refine r_arr B hH hS 87 (kd := 100) (n := 12) (by decide) (by decide) wf_X16_661 rfl (by decide) dX16_passOn_1 ?_
  refine lv_iload_n B.1 B.2.1 dX16_passOn_4 rfl (lv_at hl 1 rfl) ?_
  obtain ⟨q1, h⟩ := h
  refine r_iald B hT hH hS 87 (n := 12) (by decide) (by decide) q1 dX16_passOn_5 ?_
  refine lv_iconst (v := i32 (-1)) B.1 B.2.1 dX16_passOn_6 (by decide) ?_
  refine lv_icmp_eq (tgt := 38) B.1 B.2.1 dX16_passOn_7 (by decide) (fun h9 => ?_) (fun h9 => ?_)
  · rw [if_pos ((i32_eq (hGσ _ _) (by unfold rng; omega)).mp h9)] at h
    exact a_X16_passOn_38 B hT hR hFr hLw hQ hX _ _ g1 h hGσ hS _ _ _ hH (lv_sub (l' := [(0, .ref rm), (1, .int (i32 v1))]) hl [0, 1] rfl) hc
  · rw [if_neg (fun q => h9 ((i32_eq (hGσ _ _) (by unfold rng; omega)).mpr q))] at h
    exact a_X16_passOn_10 B hT hR hFr hLw hQ hX hK0 _ _ _ g1 g2 h hGσ hS _ _ _ hH (lv_sub (l' := [(0, .ref rm), (1, .int (i32 v1)), (2, .int (i32 v2))]) hl [0, 1, 2] rfl) hc
theorem al_X16_passOn_0 {p : Program} {l : Launch} {e : Env} {R : Room} {s : State} {m : MethodId} {args : Array Value} {below : List Frame} {meth : Method} {c : Code} {D : va_G} {cA : Nat → ClassId} {tys : List (ClassId × FieldType)} {A : Nat → Prop} {n0 s0 : Nat} {QM : State → Prop} {ra : Nat → Nat} {jx : Nat → Nat → Nat} {rm : Nat} {Q : Sg → Unit → Prop} {X : Sg → String → Prop} (B : Cx p s m args c cX16_passOn 4 RX16 D cA tys A) (hT : Tys cA tys) (hR : Rm R n0 s0) (hFr : 1 ≤ R.frames) (hLw : 22 ≤ R.locals) (hQ : ∀ (pc : Nat) (ls : Array Slot) (σ : Sg) (H : Heap) (locs : List Loc), decode cX16_passOn pc = .ok (.return_, 1) → Hd D cA A s σ H locs → CB n0 s0 σ → Q σ () → RG σ → Shp ra jx rm σ → W p l e R s m args below meth c H locs (gc σ - n0) (gs σ - s0) QM (F0 m pc ls [])) (hX : ∀ (σ : Sg) (E : String) (pc : Nat) (lo : List (Nat × Value)) (st : List Value), X σ E → RG σ → Shp ra jx rm σ → JX p l e R s m args below meth c 4 D cA A n0 s0 QM σ E pc lo st) : ∀ (n : Nat), ∀ (σ : Sg) (v1 : Int) (v2 : Int) (g1 : rng v1) (g2 : rng v2), wl_X16_passOn_0 ra jx rm Q X n σ v1 v2 → RG σ → Shp ra jx rm σ → JJ p l e R s m args below meth c 4 D cA A n0 s0 QM σ 0 [(0, .ref rm), (1, .int (i32 v1)), (2, .int (i32 v2))] [] := by
  intro n
  induction n with
  | zero => intro σ v1 v2 g1 g2 h; exact h.elim
  | succ n ih => exact fun σ v1 v2 g1 g2 h => a_X16_passOn_0 B hT hR hFr hLw hQ hX ih σ v1 v2 g1 g2 h
theorem ok_X16_passOn {l : Launch} {D : va_G} {cA : Nat → ClassId} {tys : List (ClassId × FieldType)} {A : Nat → Prop} {ra : Nat → Nat} {jx : Nat → Nat → Nat} {rm : Nat} (hT : Tys cA tys) {Q : Sg → Unit → Prop} {X : Sg → String → Prop} (σ : Sg) (v1 : Int) (v2 : Int) (g1 : rng v1) (g2 : rng v2) (hG : RG σ) (hS : Shp ra jx rm σ) (h : wp_X16_passOn ra jx rm v1 v2 σ Q X) : Ok l D cA tys A yX16_passOn (.code yX16_passOn cX16_passOn 4 none) 1 22 [.ref rm, .int (i32 v1), .int (i32 v2)] σ (fun σ' w => w = none ∧ Q σ' () ∧ RG σ' ∧ Shp ra jx rm σ') (fun σ' E => X σ' E ∧ RG σ' ∧ Shp ra jx rm σ') := by
  refine ok_of (ret := none) (by decide) (Nat.le_of_ble_eq_true rfl) ?_
  intro p e R s m args below meth c hRR B hr hlocks hex _
  have B : Cx p s m args c cX16_passOn 4 RX16 D cA tys A := B
  have hR : Rm R (gc σ) (gs σ) := by rw [hRR]; exact ⟨rfl, rfl⟩
  unfold wp_X16_passOn at h
  obtain ⟨n9, h⟩ := h
  intro H locs ls hH hl hc
  have hX : ∀ (σ9 : Sg) (E : String) (pc : Nat) (lo : List (Nat × Value)) (st : List Value), X σ9 E → RG σ9 → Shp ra jx rm σ9 → JX p l e R s m args below meth c 4 D cA A (gc σ) (gs σ) (vx_MQ below (Qw D cA A σ (fun σ' w => w = none ∧ Q σ' () ∧ RG σ' ∧ Shp ra jx rm σ')) (Xw D cA A σ (fun σ' E => X σ' E ∧ RG σ' ∧ Shp ra jx rm σ')) args s (BC - gc σ) (BS - gs σ) A) σ9 E pc lo st := fun σ9 E pc lo st hx hG9 hS9 H locs ls ce q hH hl hc hce hcv hcl => e_out hH hc (fun x hx9 => (hex x hx9).elim) hlocks hce hcv hcl ⟨hx, hG9, hS9⟩
  exact al_X16_passOn_0 B hT hR (by rw [hRR]; exact Nat.le_refl _) (by rw [hRR]; exact Nat.le_refl _) (fun pc ls σ9 H locs hd hH hc hq hG9 hS9 => e_vret B hH hc hr hlocks ⟨rfl, hq, hG9, hS9⟩ hd) hX n9 σ v1 v2 g1 g2 h hG hS H locs ls hH (lv_sub (l' := [(0, .ref rm), (1, .int (i32 v1)), (2, .int (i32 v2))]) hl [0, 1, 2] rfl) hc
theorem dX16_take_0 : decode cX16_take 0 = .ok (.aload_n 0, 1) := by decide +kernel
theorem dX16_take_1 : decode cX16_take 1 = .ok (.iconst 0, 1) := by decide +kernel
theorem dX16_take_2 : decode cX16_take 2 = .ok (.putfield 24, 3) := by decide +kernel
theorem dX16_take_5 : decode cX16_take 5 = .ok (.return_, 1) := by decide +kernel
set_option maxRecDepth 20000 in
theorem a_X16_take_0 {p : Program} {l : Launch} {e : Env} {R : Room} {s : State} {m : MethodId} {args : Array Value} {below : List Frame} {meth : Method} {c : Code} {D : va_G} {cA : Nat → ClassId} {tys : List (ClassId × FieldType)} {A : Nat → Prop} {n0 s0 : Nat} {QM : State → Prop} {ra : Nat → Nat} {jx : Nat → Nat → Nat} {rm : Nat} {Q : Sg → Unit → Prop} {X : Sg → String → Prop} (B : Cx p s m args c cX16_take 1 RX16 D cA tys A) (hT : Tys cA tys) (hR : Rm R n0 s0) (hFr : 0 ≤ R.frames) (hLw : 0 ≤ R.locals) (hQ : ∀ (pc : Nat) (ls : Array Slot) (σ : Sg) (H : Heap) (locs : List Loc), decode cX16_take pc = .ok (.return_, 1) → Hd D cA A s σ H locs → CB n0 s0 σ → Q σ () → RG σ → Shp ra jx rm σ → W p l e R s m args below meth c H locs (gc σ - n0) (gs σ - s0) QM (F0 m pc ls [])) (hX : ∀ (σ : Sg) (E : String) (pc : Nat) (lo : List (Nat × Value)) (st : List Value), X σ E → RG σ → Shp ra jx rm σ → JX p l e R s m args below meth c 1 D cA A n0 s0 QM σ E pc lo st) : ∀ (σ : Sg), w_X16_take_0 ra jx rm Q X σ → RG σ → Shp ra jx rm σ → JJ p l e R s m args below meth c 1 D cA A n0 s0 QM σ 0 [(0, .ref rm)] [] := by
  intro σ h hGσ hS H locs ls hH hl hc
  unfold w_X16_take_0 at h
  refine lv_aload_n B.1 B.2.1 dX16_take_0 rfl (lv_at hl 0 rfl) ?_
  refine lv_iconst (v := i32 0) B.1 B.2.1 dX16_take_1 (by decide) ?_
  obtain ⟨σ3, eσ3⟩ : ∃ z, z = pI σ rm 8 0 := ⟨_, rfl⟩
  have h := h σ3 eσ3
  refine r_puti B hH hS 8 (ty := .boolean) (by decide) wf_X16_24 rfl rfl (by decide) rfl rfl rfl dX16_take_2 (fun H locs hH => ?_)
  have hH : Hd D cA A s (pI σ rm 8 0) H locs := hH
  rw [← eσ3] at hH
  have hGσ3 : RG σ3 := by rw [eσ3]; exact hGσ.pI (by unfold rng; omega)
  have hS : Shp ra jx rm σ3 := by rw [eσ3]; exact hS
  have hc : CB n0 s0 σ3 := by rw [eσ3]; exact hc
  rw [show gc σ = gc σ3 by rw [eσ3], show gs σ = gs σ3 by rw [eσ3]]
  exact hQ _ _ _ _ _ dX16_take_5 hH hc h hGσ3 hS
theorem ok_X16_take {l : Launch} {D : va_G} {cA : Nat → ClassId} {tys : List (ClassId × FieldType)} {A : Nat → Prop} {ra : Nat → Nat} {jx : Nat → Nat → Nat} {rm : Nat} (hT : Tys cA tys) {Q : Sg → Unit → Prop} {X : Sg → String → Prop} (σ : Sg) (hG : RG σ) (hS : Shp ra jx rm σ) (h : wp_X16_take ra jx rm σ Q X) : Ok l D cA tys A yX16_take (.code yX16_take cX16_take 1 none) 0 0 [.ref rm] σ (fun σ' w => w = none ∧ Q σ' () ∧ RG σ' ∧ Shp ra jx rm σ') (fun σ' E => X σ' E ∧ RG σ' ∧ Shp ra jx rm σ') := by
  refine ok_of (ret := none) (by decide) (Nat.le_of_ble_eq_true rfl) ?_
  intro p e R s m args below meth c hRR B hr hlocks hex _
  have B : Cx p s m args c cX16_take 1 RX16 D cA tys A := B
  have hR : Rm R (gc σ) (gs σ) := by rw [hRR]; exact ⟨rfl, rfl⟩
  unfold wp_X16_take at h
  intro H locs ls hH hl hc
  have hX : ∀ (σ9 : Sg) (E : String) (pc : Nat) (lo : List (Nat × Value)) (st : List Value), X σ9 E → RG σ9 → Shp ra jx rm σ9 → JX p l e R s m args below meth c 1 D cA A (gc σ) (gs σ) (vx_MQ below (Qw D cA A σ (fun σ' w => w = none ∧ Q σ' () ∧ RG σ' ∧ Shp ra jx rm σ')) (Xw D cA A σ (fun σ' E => X σ' E ∧ RG σ' ∧ Shp ra jx rm σ')) args s (BC - gc σ) (BS - gs σ) A) σ9 E pc lo st := fun σ9 E pc lo st hx hG9 hS9 H locs ls ce q hH hl hc hce hcv hcl => e_out hH hc (fun x hx9 => (hex x hx9).elim) hlocks hce hcv hcl ⟨hx, hG9, hS9⟩
  exact a_X16_take_0 B hT hR (by rw [hRR]; exact Nat.le_refl _) (by rw [hRR]; exact Nat.le_refl _) (fun pc ls σ9 H locs hd hH hc hq hG9 hS9 => e_vret B hH hc hr hlocks ⟨rfl, hq, hG9, hS9⟩ hd) hX σ h hG hS H locs ls hH (lv_sub (l' := [(0, .ref rm)]) hl [0] rfl) hc
theorem dX16_thrown_0 : decode cX16_thrown 0 = .ok (.aload_n 0, 1) := by decide +kernel
theorem dX16_thrown_1 : decode cX16_thrown 1 = .ok (.getfield 1, 3) := by decide +kernel
theorem dX16_thrown_4 : decode cX16_thrown 4 = .ok (.ireturn, 1) := by decide +kernel
set_option maxRecDepth 20000 in
theorem a_X16_thrown_0 {p : Program} {l : Launch} {e : Env} {R : Room} {s : State} {m : MethodId} {args : Array Value} {below : List Frame} {meth : Method} {c : Code} {D : va_G} {cA : Nat → ClassId} {tys : List (ClassId × FieldType)} {A : Nat → Prop} {n0 s0 : Nat} {QM : State → Prop} {ra : Nat → Nat} {jx : Nat → Nat → Nat} {rm : Nat} {Q : Sg → Int → Prop} {X : Sg → String → Prop} (B : Cx p s m args c cX16_thrown 1 RX16 D cA tys A) (hT : Tys cA tys) (hR : Rm R n0 s0) (hFr : 0 ≤ R.frames) (hLw : 0 ≤ R.locals) (hQ : ∀ (pc : Nat) (ls : Array Slot) (σ : Sg) (H : Heap) (locs : List Loc) (r : Int) (gr : rng r), decode cX16_thrown pc = .ok (.ireturn, 1) → Hd D cA A s σ H locs → CB n0 s0 σ → Q σ r → RG σ → Shp ra jx rm σ → W p l e R s m args below meth c H locs (gc σ - n0) (gs σ - s0) QM (F0 m pc ls [.int (i32 r)])) (hX : ∀ (σ : Sg) (E : String) (pc : Nat) (lo : List (Nat × Value)) (st : List Value), X σ E → RG σ → Shp ra jx rm σ → JX p l e R s m args below meth c 1 D cA A n0 s0 QM σ E pc lo st) : ∀ (σ : Sg), w_X16_thrown_0 ra jx rm Q X σ → RG σ → Shp ra jx rm σ → JJ p l e R s m args below meth c 1 D cA A n0 s0 QM σ 0 [(0, .ref rm)] [] := by
  intro σ h hGσ hS H locs ls hH hl hc
  unfold w_X16_thrown_0 at h
  refine lv_aload_n B.1 B.2.1 dX16_thrown_0 rfl (lv_at hl 0 rfl) ?_
  refine r_geti B hH hS 0 (by decide) wf_X16_1 rfl (by decide) dX16_thrown_1 ?_
  exact hQ _ _ _ _ _ _ (hGσ _ _) dX16_thrown_4 hH hc h hGσ hS
theorem ok_X16_thrown {l : Launch} {D : va_G} {cA : Nat → ClassId} {tys : List (ClassId × FieldType)} {A : Nat → Prop} {ra : Nat → Nat} {jx : Nat → Nat → Nat} {rm : Nat} (hT : Tys cA tys) {Q : Sg → Int → Prop} {X : Sg → String → Prop} (σ : Sg) (hG : RG σ) (hS : Shp ra jx rm σ) (h : wp_X16_thrown ra jx rm σ Q X) : Ok l D cA tys A yX16_thrown (.code yX16_thrown cX16_thrown 1 (some .int)) 0 0 [.ref rm] σ (fun σ' w => ∃ r, w = some (.int (i32 r)) ∧ rng r ∧ Q σ' r ∧ RG σ' ∧ Shp ra jx rm σ') (fun σ' E => X σ' E ∧ RG σ' ∧ Shp ra jx rm σ') := by
  refine ok_of (ret := (some .int)) (by decide) (Nat.le_of_ble_eq_true rfl) ?_
  intro p e R s m args below meth c hRR B hr hlocks hex _
  have B : Cx p s m args c cX16_thrown 1 RX16 D cA tys A := B
  have hR : Rm R (gc σ) (gs σ) := by rw [hRR]; exact ⟨rfl, rfl⟩
  unfold wp_X16_thrown at h
  intro H locs ls hH hl hc
  have hX : ∀ (σ9 : Sg) (E : String) (pc : Nat) (lo : List (Nat × Value)) (st : List Value), X σ9 E → RG σ9 → Shp ra jx rm σ9 → JX p l e R s m args below meth c 1 D cA A (gc σ) (gs σ) (vx_MQ below (Qw D cA A σ (fun σ' w => ∃ r, w = some (.int (i32 r)) ∧ rng r ∧ Q σ' r ∧ RG σ' ∧ Shp ra jx rm σ')) (Xw D cA A σ (fun σ' E => X σ' E ∧ RG σ' ∧ Shp ra jx rm σ')) args s (BC - gc σ) (BS - gs σ) A) σ9 E pc lo st := fun σ9 E pc lo st hx hG9 hS9 H locs ls ce q hH hl hc hce hcv hcl => e_out hH hc (fun x hx9 => (hex x hx9).elim) hlocks hce hcv hcl ⟨hx, hG9, hS9⟩
  exact a_X16_thrown_0 B hT hR (by rw [hRR]; exact Nat.le_refl _) (by rw [hRR]; exact Nat.le_refl _) (fun pc ls σ9 H locs r gr hd hH hc hq hG9 hS9 => e_iret B hH hc hr rfl hlocks ⟨r, rfl, gr, hq, hG9, hS9⟩ hd) hX σ h hG hS H locs ls hH (lv_sub (l' := [(0, .ref rm)]) hl [0] rfl) hc
theorem dX16_visibleAt_0 : decode cX16_visibleAt 0 = .ok (.aload_n 0, 1) := by decide +kernel
theorem dX16_visibleAt_1 : decode cX16_visibleAt 1 = .ok (.getfield 661, 3) := by decide +kernel
theorem dX16_visibleAt_4 : decode cX16_visibleAt 4 = .ok (.iconst 3, 1) := by decide +kernel
theorem dX16_visibleAt_5 : decode cX16_visibleAt 5 = .ok (.iload_n 1, 1) := by decide +kernel
theorem dX16_visibleAt_6 : decode cX16_visibleAt 6 = .ok (.imul, 1) := by decide +kernel
theorem dX16_visibleAt_7 : decode cX16_visibleAt 7 = .ok (.iconst 2, 1) := by decide +kernel
theorem dX16_visibleAt_8 : decode cX16_visibleAt 8 = .ok (.iadd, 1) := by decide +kernel
theorem dX16_visibleAt_9 : decode cX16_visibleAt 9 = .ok (.iaload, 1) := by decide +kernel
theorem dX16_visibleAt_10 : decode cX16_visibleAt 10 = .ok (.istore_n 3, 1) := by decide +kernel
theorem dX16_visibleAt_11 : decode cX16_visibleAt 11 = .ok (.iconst 0, 1) := by decide +kernel
theorem dX16_visibleAt_12 : decode cX16_visibleAt 12 = .ok (.istore 4, 2) := by decide +kernel
theorem dX16_visibleAt_14 : decode cX16_visibleAt 14 = .ok (.iload 4, 2) := by decide +kernel
theorem dX16_visibleAt_16 : decode cX16_visibleAt 16 = .ok (.iload_n 2, 1) := by decide +kernel
theorem dX16_visibleAt_17 : decode cX16_visibleAt 17 = .ok (.if_icmp .ge 16, 3) := by decide +kernel
theorem dX16_visibleAt_20 : decode cX16_visibleAt 20 = .ok (.aload_n 0, 1) := by decide +kernel
theorem dX16_visibleAt_21 : decode cX16_visibleAt 21 = .ok (.getfield 652, 3) := by decide +kernel
theorem dX16_visibleAt_24 : decode cX16_visibleAt 24 = .ok (.iload_n 3, 1) := by decide +kernel
theorem dX16_visibleAt_25 : decode cX16_visibleAt 25 = .ok (.iaload, 1) := by decide +kernel
theorem dX16_visibleAt_26 : decode cX16_visibleAt 26 = .ok (.istore_n 3, 1) := by decide +kernel
theorem dX16_visibleAt_27 : decode cX16_visibleAt 27 = .ok (.iinc 4 1, 3) := by decide +kernel
theorem dX16_visibleAt_30 : decode cX16_visibleAt 30 = .ok (.goto (-16), 3) := by decide +kernel
theorem dX16_visibleAt_33 : decode cX16_visibleAt 33 = .ok (.iload_n 3, 1) := by decide +kernel
theorem dX16_visibleAt_34 : decode cX16_visibleAt 34 = .ok (.ireturn, 1) := by decide +kernel
set_option maxRecDepth 20000 in
theorem a_X16_visibleAt_33 {p : Program} {l : Launch} {e : Env} {R : Room} {s : State} {m : MethodId} {args : Array Value} {below : List Frame} {meth : Method} {c : Code} {D : va_G} {cA : Nat → ClassId} {tys : List (ClassId × FieldType)} {A : Nat → Prop} {n0 s0 : Nat} {QM : State → Prop} {ra : Nat → Nat} {jx : Nat → Nat → Nat} {rm : Nat} {Q : Sg → Int → Prop} {X : Sg → String → Prop} (B : Cx p s m args c cX16_visibleAt 5 RX16 D cA tys A) (hT : Tys cA tys) (hR : Rm R n0 s0) (hFr : 0 ≤ R.frames) (hLw : 0 ≤ R.locals) (hQ : ∀ (pc : Nat) (ls : Array Slot) (σ : Sg) (H : Heap) (locs : List Loc) (r : Int) (gr : rng r), decode cX16_visibleAt pc = .ok (.ireturn, 1) → Hd D cA A s σ H locs → CB n0 s0 σ → Q σ r → RG σ → Shp ra jx rm σ → W p l e R s m args below meth c H locs (gc σ - n0) (gs σ - s0) QM (F0 m pc ls [.int (i32 r)])) (hX : ∀ (σ : Sg) (E : String) (pc : Nat) (lo : List (Nat × Value)) (st : List Value), X σ E → RG σ → Shp ra jx rm σ → JX p l e R s m args below meth c 5 D cA A n0 s0 QM σ E pc lo st) : ∀ (σ : Sg) (v3 : Int) (g3 : rng v3), w_X16_visibleAt_33 ra jx rm Q X σ v3 → RG σ → Shp ra jx rm σ → JJ p l e R s m args below meth c 5 D cA A n0 s0 QM σ 33 [(0, .ref rm), (3, .int (i32 v3))] [] := by
  intro σ v3 g3 h hGσ hS H locs ls hH hl hc
  unfold w_X16_visibleAt_33 at h
  refine lv_iload_n B.1 B.2.1 dX16_visibleAt_33 rfl (lv_at hl 1 rfl) ?_
  exact hQ _ _ _ _ _ _ g3 dX16_visibleAt_34 hH hc h hGσ hS
set_option maxRecDepth 20000 in
theorem a_X16_visibleAt_20 {p : Program} {l : Launch} {e : Env} {R : Room} {s : State} {m : MethodId} {args : Array Value} {below : List Frame} {meth : Method} {c : Code} {D : va_G} {cA : Nat → ClassId} {tys : List (ClassId × FieldType)} {A : Nat → Prop} {n0 s0 : Nat} {QM : State → Prop} {ra : Nat → Nat} {jx : Nat → Nat → Nat} {rm : Nat} {Q : Sg → Int → Prop} {X : Sg → String → Prop} (B : Cx p s m args c cX16_visibleAt 5 RX16 D cA tys A) (hT : Tys cA tys) (hR : Rm R n0 s0) (hFr : 0 ≤ R.frames) (hLw : 0 ≤ R.locals) (hQ : ∀ (pc : Nat) (ls : Array Slot) (σ : Sg) (H : Heap) (locs : List Loc) (r : Int) (gr : rng r), decode cX16_visibleAt pc = .ok (.ireturn, 1) → Hd D cA A s σ H locs → CB n0 s0 σ → Q σ r → RG σ → Shp ra jx rm σ → W p l e R s m args below meth c H locs (gc σ - n0) (gs σ - s0) QM (F0 m pc ls [.int (i32 r)])) (hX : ∀ (σ : Sg) (E : String) (pc : Nat) (lo : List (Nat × Value)) (st : List Value), X σ E → RG σ → Shp ra jx rm σ → JX p l e R s m args below meth c 5 D cA A n0 s0 QM σ E pc lo st) {K14 : Sg → Int → Int → Int → Prop} (hK14 : ∀ (σ : Sg) (v2 : Int) (v3 : Int) (v4 : Int) (g2 : rng v2) (g3 : rng v3) (g4 : rng v4), K14 σ v2 v3 v4 → RG σ → Shp ra jx rm σ → JJ p l e R s m args below meth c 5 D cA A n0 s0 QM σ 14 [(0, .ref rm), (2, .int (i32 v2)), (3, .int (i32 v3)), (4, .int (i32 v4))] []) : ∀ (σ : Sg) (v2 : Int) (v3 : Int) (v4 : Int) (g2 : rng v2) (g3 : rng v3) (g4 : rng v4), w_X16_visibleAt_20 ra jx rm K14 Q X σ v2 v3 v4 → RG σ → Shp ra jx rm σ → JJ p l e R s m args below meth c 5 D cA A n0 s0 QM σ 20 [(0, .ref rm), (2, .int (i32 v2)), (3, .int (i32 v3)), (4, .int (i32 v4))] [] := by
  intro σ v2 v3 v4 g2 g3 g4 h hGσ hS H locs ls hH hl hc
  unfold w_X16_visibleAt_20 at h
  refine lv_aload_n B.1 B.2.1 dX16_visibleAt_20 rfl (lv_at hl 0 rfl) ?_
  refine r_arr B hH hS 86 (kd := 100) (n := 2000) (by decide) (by decide) wf_X16_652 rfl (by decide) dX16_visibleAt_21 ?_
  refine lv_iload_n B.1 B.2.1 dX16_visibleAt_24 rfl (lv_at hl 2 rfl) ?_
  obtain ⟨q1, h⟩ := h
  refine r_iald B hT hH hS 86 (n := 2000) (by decide) (by decide) q1 dX16_visibleAt_25 ?_
  refine lv_istore_n (lv' := [(3, .int (i32 (gI σ (ra 86) v3.toNat))), (0, .ref rm), (2, .int (i32 v2)), (4, .int (i32 v4))]) B.1 B.2.1 dX16_visibleAt_26 rfl hl (by decide) rfl (fun ls hl => ?_)
  obtain ⟨q2, h⟩ := h
  refine lv_iinc (k := 3) (v := i32 (v4 + 1)) (lv' := [(4, .int (i32 (v4 + 1))), (3, .int (i32 (gI σ (ra 86) v3.toNat))), (0, .ref rm), (2, .int (i32 v2))]) B.1 B.2.1 dX16_visibleAt_27 hl rfl (i32_add _ _) (by decide) rfl (fun ls hl => ?_)
  refine lv_goto (tgt := 14) B.1 B.2.1 dX16_visibleAt_30 (by decide) ?_
  exact hK14 _ _ _ _ g2 (hGσ _ _) q2 h hGσ hS _ _ _ hH (lv_sub (l' := [(0, .ref rm), (2, .int (i32 v2)), (3, .int (i32 (gI σ (ra 86) v3.toNat))), (4, .int (i32 (v4 + 1)))]) hl [2, 3, 1, 0] rfl) hc
set_option maxRecDepth 20000 in
theorem a_X16_visibleAt_14 {p : Program} {l : Launch} {e : Env} {R : Room} {s : State} {m : MethodId} {args : Array Value} {below : List Frame} {meth : Method} {c : Code} {D : va_G} {cA : Nat → ClassId} {tys : List (ClassId × FieldType)} {A : Nat → Prop} {n0 s0 : Nat} {QM : State → Prop} {ra : Nat → Nat} {jx : Nat → Nat → Nat} {rm : Nat} {Q : Sg → Int → Prop} {X : Sg → String → Prop} (B : Cx p s m args c cX16_visibleAt 5 RX16 D cA tys A) (hT : Tys cA tys) (hR : Rm R n0 s0) (hFr : 0 ≤ R.frames) (hLw : 0 ≤ R.locals) (hQ : ∀ (pc : Nat) (ls : Array Slot) (σ : Sg) (H : Heap) (locs : List Loc) (r : Int) (gr : rng r), decode cX16_visibleAt pc = .ok (.ireturn, 1) → Hd D cA A s σ H locs → CB n0 s0 σ → Q σ r → RG σ → Shp ra jx rm σ → W p l e R s m args below meth c H locs (gc σ - n0) (gs σ - s0) QM (F0 m pc ls [.int (i32 r)])) (hX : ∀ (σ : Sg) (E : String) (pc : Nat) (lo : List (Nat × Value)) (st : List Value), X σ E → RG σ → Shp ra jx rm σ → JX p l e R s m args below meth c 5 D cA A n0 s0 QM σ E pc lo st) {K14 : Sg → Int → Int → Int → Prop} (hK14 : ∀ (σ : Sg) (v2 : Int) (v3 : Int) (v4 : Int) (g2 : rng v2) (g3 : rng v3) (g4 : rng v4), K14 σ v2 v3 v4 → RG σ → Shp ra jx rm σ → JJ p l e R s m args below meth c 5 D cA A n0 s0 QM σ 14 [(0, .ref rm), (2, .int (i32 v2)), (3, .int (i32 v3)), (4, .int (i32 v4))] []) : ∀ (σ : Sg) (v2 : Int) (v3 : Int) (v4 : Int) (g2 : rng v2) (g3 : rng v3) (g4 : rng v4), w_X16_visibleAt_14 ra jx rm K14 Q X σ v2 v3 v4 → RG σ → Shp ra jx rm σ → JJ p l e R s m args below meth c 5 D cA A n0 s0 QM σ 14 [(0, .ref rm), (2, .int (i32 v2)), (3, .int (i32 v3)), (4, .int (i32 v4))] [] := by
  intro σ v2 v3 v4 g2 g3 g4 h hGσ hS H locs ls hH hl hc
  unfold w_X16_visibleAt_14 at h
  refine lv_iload B.1 B.2.1 dX16_visibleAt_14 (lv_at hl 3 rfl) ?_
  refine lv_iload_n B.1 B.2.1 dX16_visibleAt_16 rfl (lv_at hl 1 rfl) ?_
  refine lv_icmp_ge (tgt := 33) B.1 B.2.1 dX16_visibleAt_17 (by decide) (fun h9 => ?_) (fun h9 => ?_)
  · rw [if_pos ((i32_le g2 g4).mp h9)] at h
    exact a_X16_visibleAt_33 B hT hR hFr hLw hQ hX _ _ g3 h hGσ hS _ _ _ hH (lv_sub (l' := [(0, .ref rm), (3, .int (i32 v3))]) hl [0, 2] rfl) hc
  · rw [if_neg (fun q => h9 ((i32_le g2 g4).mpr q))] at h
    exact a_X16_visibleAt_20 B hT hR hFr hLw hQ hX hK14 _ _ _ _ g2 g3 g4 h hGσ hS _ _ _ hH (lv_sub (l' := [(0, .ref rm), (2, .int (i32 v2)), (3, .int (i32 v3)), (4, .int (i32 v4))]) hl [0, 1, 2, 3] rfl) hc
theorem al_X16_visibleAt_14 {p : Program} {l : Launch} {e : Env} {R : Room} {s : State} {m : MethodId} {args : Array Value} {below : List Frame} {meth : Method} {c : Code} {D : va_G} {cA : Nat → ClassId} {tys : List (ClassId × FieldType)} {A : Nat → Prop} {n0 s0 : Nat} {QM : State → Prop} {ra : Nat → Nat} {jx : Nat → Nat → Nat} {rm : Nat} {Q : Sg → Int → Prop} {X : Sg → String → Prop} (B : Cx p s m args c cX16_visibleAt 5 RX16 D cA tys A) (hT : Tys cA tys) (hR : Rm R n0 s0) (hFr : 0 ≤ R.frames) (hLw : 0 ≤ R.locals) (hQ : ∀ (pc : Nat) (ls : Array Slot) (σ : Sg) (H : Heap) (locs : List Loc) (r : Int) (gr : rng r), decode cX16_visibleAt pc = .ok (.ireturn, 1) → Hd D cA A s σ H locs → CB n0 s0 σ → Q σ r → RG σ → Shp ra jx rm σ → W p l e R s m args below meth c H locs (gc σ - n0) (gs σ - s0) QM (F0 m pc ls [.int (i32 r)])) (hX : ∀ (σ : Sg) (E : String) (pc : Nat) (lo : List (Nat × Value)) (st : List Value), X σ E → RG σ → Shp ra jx rm σ → JX p l e R s m args below meth c 5 D cA A n0 s0 QM σ E pc lo st) : ∀ (n : Nat), ∀ (σ : Sg) (v2 : Int) (v3 : Int) (v4 : Int) (g2 : rng v2) (g3 : rng v3) (g4 : rng v4), wl_X16_visibleAt_14 ra jx rm Q X n σ v2 v3 v4 → RG σ → Shp ra jx rm σ → JJ p l e R s m args below meth c 5 D cA A n0 s0 QM σ 14 [(0, .ref rm), (2, .int (i32 v2)), (3, .int (i32 v3)), (4, .int (i32 v4))] [] := by
  intro n
  induction n with
  | zero => intro σ v2 v3 v4 g2 g3 g4 h; exact h.elim
  | succ n ih => exact fun σ v2 v3 v4 g2 g3 g4 h => a_X16_visibleAt_14 B hT hR hFr hLw hQ hX ih σ v2 v3 v4 g2 g3 g4 h
set_option maxRecDepth 20000 in
theorem a_X16_visibleAt_0 {p : Program} {l : Launch} {e : Env} {R : Room} {s : State} {m : MethodId} {args : Array Value} {below : List Frame} {meth : Method} {c : Code} {D : va_G} {cA : Nat → ClassId} {tys : List (ClassId × FieldType)} {A : Nat → Prop} {n0 s0 : Nat} {QM : State → Prop} {ra : Nat → Nat} {jx : Nat → Nat → Nat} {rm : Nat} {Q : Sg → Int → Prop} {X : Sg → String → Prop} (B : Cx p s m args c cX16_visibleAt 5 RX16 D cA tys A) (hT : Tys cA tys) (hR : Rm R n0 s0) (hFr : 0 ≤ R.frames) (hLw : 0 ≤ R.locals) (hQ : ∀ (pc : Nat) (ls : Array Slot) (σ : Sg) (H : Heap) (locs : List Loc) (r : Int) (gr : rng r), decode cX16_visibleAt pc = .ok (.ireturn, 1) → Hd D cA A s σ H locs → CB n0 s0 σ → Q σ r → RG σ → Shp ra jx rm σ → W p l e R s m args below meth c H locs (gc σ - n0) (gs σ - s0) QM (F0 m pc ls [.int (i32 r)])) (hX : ∀ (σ : Sg) (E : String) (pc : Nat) (lo : List (Nat × Value)) (st : List Value), X σ E → RG σ → Shp ra jx rm σ → JX p l e R s m args below meth c 5 D cA A n0 s0 QM σ E pc lo st) : ∀ (σ : Sg) (v1 : Int) (v2 : Int) (g1 : rng v1) (g2 : rng v2), w_X16_visibleAt_0 ra jx rm Q X σ v1 v2 → RG σ → Shp ra jx rm σ → JJ p l e R s m args below meth c 5 D cA A n0 s0 QM σ 0 [(0, .ref rm), (1, .int (i32 v1)), (2, .int (i32 v2))] [] := by
  intro σ v1 v2 g1 g2 h hGσ hS H locs ls hH hl hc
  unfold w_X16_visibleAt_0 at h
  refine lv_aload_n B.1 B.2.1 dX16_visibleAt_0 rfl (lv_at hl 0 rfl) ?_
  refine r_arr B hH hS 87 (kd := 100) (n := 12) (by decide) (by decide) wf_X16_661 rfl (by decide) dX16_visibleAt_1 ?_
  refine lv_iconst (v := i32 3) B.1 B.2.1 dX16_visibleAt_4 (by decide) ?_
  refine lv_iload_n B.1 B.2.1 dX16_visibleAt_5 rfl (lv_at hl 1 rfl) ?_
  obtain ⟨q1, h⟩ := h
  refine lv_imul B.1 B.2.1 dX16_visibleAt_6 ?_
  rw [i32_mul]
  refine lv_iconst (v := i32 2) B.1 B.2.1 dX16_visibleAt_7 (by decide) ?_
  obtain ⟨q2, h⟩ := h
  refine lv_iadd B.1 B.2.1 dX16_visibleAt_8 ?_
  rw [i32_add]
  obtain ⟨q3, h⟩ := h
  refine r_iald B hT hH hS 87 (n := 12) (by decide) (by decide) q3 dX16_visibleAt_9 ?_
  refine lv_istore_n (lv' := [(3, .int (i32 (gI σ (ra 87) ((3 * v1) + 2).toNat))), (0, .ref rm), (1, .int (i32 v1)), (2, .int (i32 v2))]) B.1 B.2.1 dX16_visibleAt_10 rfl hl (by decide) rfl (fun ls hl => ?_)
  refine lv_iconst (v := i32 0) B.1 B.2.1 dX16_visibleAt_11 (by decide) ?_
  refine lv_istore (lv' := [(4, .int (i32 0)), (3, .int (i32 (gI σ (ra 87) ((3 * v1) + 2).toNat))), (0, .ref rm), (1, .int (i32 v1)), (2, .int (i32 v2))]) B.1 B.2.1 dX16_visibleAt_12 hl (by decide) rfl (fun ls hl => ?_)
  obtain ⟨n9, h⟩ := h
  exact al_X16_visibleAt_14 B hT hR hFr hLw hQ hX n9 _ _ _ _ g2 (hGσ _ _) (by unfold rng; omega) h hGσ hS _ _ _ hH (lv_sub (l' := [(0, .ref rm), (2, .int (i32 v2)), (3, .int (i32 (gI σ (ra 87) ((3 * v1) + 2).toNat))), (4, .int (i32 0))]) hl [2, 4, 1, 0] rfl) hc
theorem ok_X16_visibleAt {l : Launch} {D : va_G} {cA : Nat → ClassId} {tys : List (ClassId × FieldType)} {A : Nat → Prop} {ra : Nat → Nat} {jx : Nat → Nat → Nat} {rm : Nat} (hT : Tys cA tys) {Q : Sg → Int → Prop} {X : Sg → String → Prop} (σ : Sg) (v1 : Int) (v2 : Int) (g1 : rng v1) (g2 : rng v2) (hG : RG σ) (hS : Shp ra jx rm σ) (h : wp_X16_visibleAt ra jx rm v1 v2 σ Q X) : Ok l D cA tys A yX16_visibleAt (.code yX16_visibleAt cX16_visibleAt 5 (some .int)) 0 0 [.ref rm, .int (i32 v1), .int (i32 v2)] σ (fun σ' w => ∃ r, w = some (.int (i32 r)) ∧ rng r ∧ Q σ' r ∧ RG σ' ∧ Shp ra jx rm σ') (fun σ' E => X σ' E ∧ RG σ' ∧ Shp ra jx rm σ') := by
  refine ok_of (ret := (some .int)) (by decide) (Nat.le_of_ble_eq_true rfl) ?_
  intro p e R s m args below meth c hRR B hr hlocks hex _
  have B : Cx p s m args c cX16_visibleAt 5 RX16 D cA tys A := B
  have hR : Rm R (gc σ) (gs σ) := by rw [hRR]; exact ⟨rfl, rfl⟩
  unfold wp_X16_visibleAt at h
  intro H locs ls hH hl hc
  have hX : ∀ (σ9 : Sg) (E : String) (pc : Nat) (lo : List (Nat × Value)) (st : List Value), X σ9 E → RG σ9 → Shp ra jx rm σ9 → JX p l e R s m args below meth c 5 D cA A (gc σ) (gs σ) (vx_MQ below (Qw D cA A σ (fun σ' w => ∃ r, w = some (.int (i32 r)) ∧ rng r ∧ Q σ' r ∧ RG σ' ∧ Shp ra jx rm σ')) (Xw D cA A σ (fun σ' E => X σ' E ∧ RG σ' ∧ Shp ra jx rm σ')) args s (BC - gc σ) (BS - gs σ) A) σ9 E pc lo st := fun σ9 E pc lo st hx hG9 hS9 H locs ls ce q hH hl hc hce hcv hcl => e_out hH hc (fun x hx9 => (hex x hx9).elim) hlocks hce hcv hcl ⟨hx, hG9, hS9⟩
  exact a_X16_visibleAt_0 B hT hR (by rw [hRR]; exact Nat.le_refl _) (by rw [hRR]; exact Nat.le_refl _) (fun pc ls σ9 H locs r gr hd hH hc hq hG9 hS9 => e_iret B hH hc hr rfl hlocks ⟨r, rfl, gr, hq, hG9, hS9⟩ hd) hX σ v1 v2 g1 g2 h hG hS H locs ls hH (lv_sub (l' := [(0, .ref rm), (1, .int (i32 v1)), (2, .int (i32 v2))]) hl [0, 1, 2] rfl) hc
theorem dX16_within_0 : decode cX16_within 0 = .ok (.lload_n 0, 1) := by decide +kernel
theorem dX16_within_1 : decode cX16_within 1 = .ok (.lload_n 2, 1) := by decide +kernel
theorem dX16_within_2 : decode cX16_within 2 = .ok (.lcmp, 1) := by decide +kernel
theorem dX16_within_3 : decode cX16_within 3 = .ok (.ifCond .lt 14, 3) := by decide +kernel
theorem dX16_within_6 : decode cX16_within 6 = .ok (.lload_n 0, 1) := by decide +kernel
theorem dX16_within_7 : decode cX16_within 7 = .ok (.lload 4, 2) := by decide +kernel
theorem dX16_within_9 : decode cX16_within 9 = .ok (.lcmp, 1) := by decide +kernel
theorem dX16_within_10 : decode cX16_within 10 = .ok (.ifCond .gt 7, 3) := by decide +kernel
theorem dX16_within_13 : decode cX16_within 13 = .ok (.iconst 1, 1) := by decide +kernel
theorem dX16_within_14 : decode cX16_within 14 = .ok (.goto 4, 3) := by decide +kernel
theorem dX16_within_17 : decode cX16_within 17 = .ok (.iconst 0, 1) := by decide +kernel
theorem dX16_within_18 : decode cX16_within 18 = .ok (.ireturn, 1) := by decide +kernel
set_option maxRecDepth 20000 in
theorem a_X16_within_18 {p : Program} {l : Launch} {e : Env} {R : Room} {s : State} {m : MethodId} {args : Array Value} {below : List Frame} {meth : Method} {c : Code} {D : va_G} {cA : Nat → ClassId} {tys : List (ClassId × FieldType)} {A : Nat → Prop} {n0 s0 : Nat} {QM : State → Prop} {ra : Nat → Nat} {jx : Nat → Nat → Nat} {rm : Nat} {Q : Sg → Int → Prop} {X : Sg → String → Prop} (B : Cx p s m args c cX16_within 6 RX16 D cA tys A) (hT : Tys cA tys) (hR : Rm R n0 s0) (hFr : 0 ≤ R.frames) (hLw : 0 ≤ R.locals) (hQ : ∀ (pc : Nat) (ls : Array Slot) (σ : Sg) (H : Heap) (locs : List Loc) (r : Int) (gr : rng r) (gz : r = 0 ∨ r = 1), decode cX16_within pc = .ok (.ireturn, 1) → Hd D cA A s σ H locs → CB n0 s0 σ → Q σ r → RG σ → Shp ra jx rm σ → W p l e R s m args below meth c H locs (gc σ - n0) (gs σ - s0) QM (F0 m pc ls [.int (i32 r)])) (hX : ∀ (σ : Sg) (E : String) (pc : Nat) (lo : List (Nat × Value)) (st : List Value), X σ E → RG σ → Shp ra jx rm σ → JX p l e R s m args below meth c 6 D cA A n0 s0 QM σ E pc lo st) : ∀ (σ : Sg) (u0 : Int) (gu0 : rng u0), w_X16_within_18 ra jx rm Q X σ u0 → RG σ → Shp ra jx rm σ → JJ p l e R s m args below meth c 6 D cA A n0 s0 QM σ 18 [] [.int (i32 u0)] := by
  intro σ u0 gu0 h hGσ hS H locs ls hH hl hc
  unfold w_X16_within_18 at h
  obtain ⟨qz, h⟩ := h
  exact hQ _ _ _ _ _ _ gu0 qz dX16_within_18 hH hc h hGσ hS
set_option maxRecDepth 20000 in
theorem a_X16_within_17 {p : Program} {l : Launch} {e : Env} {R : Room} {s : State} {m : MethodId} {args : Array Value} {below : List Frame} {meth : Method} {c : Code} {D : va_G} {cA : Nat → ClassId} {tys : List (ClassId × FieldType)} {A : Nat → Prop} {n0 s0 : Nat} {QM : State → Prop} {ra : Nat → Nat} {jx : Nat → Nat → Nat} {rm : Nat} {Q : Sg → Int → Prop} {X : Sg → String → Prop} (B : Cx p s m args c cX16_within 6 RX16 D cA tys A) (hT : Tys cA tys) (hR : Rm R n0 s0) (hFr : 0 ≤ R.frames) (hLw : 0 ≤ R.locals) (hQ : ∀ (pc : Nat) (ls : Array Slot) (σ : Sg) (H : Heap) (locs : List Loc) (r : Int) (gr : rng r) (gz : r = 0 ∨ r = 1), decode cX16_within pc = .ok (.ireturn, 1) → Hd D cA A s σ H locs → CB n0 s0 σ → Q σ r → RG σ → Shp ra jx rm σ → W p l e R s m args below meth c H locs (gc σ - n0) (gs σ - s0) QM (F0 m pc ls [.int (i32 r)])) (hX : ∀ (σ : Sg) (E : String) (pc : Nat) (lo : List (Nat × Value)) (st : List Value), X σ E → RG σ → Shp ra jx rm σ → JX p l e R s m args below meth c 6 D cA A n0 s0 QM σ E pc lo st) : ∀ (σ : Sg), w_X16_within_17 ra jx rm Q X σ → RG σ → Shp ra jx rm σ → JJ p l e R s m args below meth c 6 D cA A n0 s0 QM σ 17 [] [] := by
  intro σ h hGσ hS H locs ls hH hl hc
  unfold w_X16_within_17 at h
  refine lv_iconst (v := i32 0) B.1 B.2.1 dX16_within_17 (by decide) ?_
  exact a_X16_within_18 B hT hR hFr hLw hQ hX _ _ (by unfold rng; omega) h hGσ hS _ _ _ hH (lv_sub (l' := []) hl [] rfl) hc
set_option maxRecDepth 20000 in
theorem a_X16_within_13 {p : Program} {l : Launch} {e : Env} {R : Room} {s : State} {m : MethodId} {args : Array Value} {below : List Frame} {meth : Method} {c : Code} {D : va_G} {cA : Nat → ClassId} {tys : List (ClassId × FieldType)} {A : Nat → Prop} {n0 s0 : Nat} {QM : State → Prop} {ra : Nat → Nat} {jx : Nat → Nat → Nat} {rm : Nat} {Q : Sg → Int → Prop} {X : Sg → String → Prop} (B : Cx p s m args c cX16_within 6 RX16 D cA tys A) (hT : Tys cA tys) (hR : Rm R n0 s0) (hFr : 0 ≤ R.frames) (hLw : 0 ≤ R.locals) (hQ : ∀ (pc : Nat) (ls : Array Slot) (σ : Sg) (H : Heap) (locs : List Loc) (r : Int) (gr : rng r) (gz : r = 0 ∨ r = 1), decode cX16_within pc = .ok (.ireturn, 1) → Hd D cA A s σ H locs → CB n0 s0 σ → Q σ r → RG σ → Shp ra jx rm σ → W p l e R s m args below meth c H locs (gc σ - n0) (gs σ - s0) QM (F0 m pc ls [.int (i32 r)])) (hX : ∀ (σ : Sg) (E : String) (pc : Nat) (lo : List (Nat × Value)) (st : List Value), X σ E → RG σ → Shp ra jx rm σ → JX p l e R s m args below meth c 6 D cA A n0 s0 QM σ E pc lo st) : ∀ (σ : Sg), w_X16_within_13 ra jx rm Q X σ → RG σ → Shp ra jx rm σ → JJ p l e R s m args below meth c 6 D cA A n0 s0 QM σ 13 [] [] := by
  intro σ h hGσ hS H locs ls hH hl hc
  unfold w_X16_within_13 at h
  refine lv_iconst (v := i32 1) B.1 B.2.1 dX16_within_13 (by decide) ?_
  refine lv_goto (tgt := 18) B.1 B.2.1 dX16_within_14 (by decide) ?_
  exact a_X16_within_18 B hT hR hFr hLw hQ hX _ _ (by unfold rng; omega) h hGσ hS _ _ _ hH (lv_sub (l' := []) hl [] rfl) hc
set_option maxRecDepth 20000 in
theorem a_X16_within_6 {p : Program} {l : Launch} {e : Env} {R : Room} {s : State} {m : MethodId} {args : Array Value} {below : List Frame} {meth : Method} {c : Code} {D : va_G} {cA : Nat → ClassId} {tys : List (ClassId × FieldType)} {A : Nat → Prop} {n0 s0 : Nat} {QM : State → Prop} {ra : Nat → Nat} {jx : Nat → Nat → Nat} {rm : Nat} {Q : Sg → Int → Prop} {X : Sg → String → Prop} (B : Cx p s m args c cX16_within 6 RX16 D cA tys A) (hT : Tys cA tys) (hR : Rm R n0 s0) (hFr : 0 ≤ R.frames) (hLw : 0 ≤ R.locals) (hQ : ∀ (pc : Nat) (ls : Array Slot) (σ : Sg) (H : Heap) (locs : List Loc) (r : Int) (gr : rng r) (gz : r = 0 ∨ r = 1), decode cX16_within pc = .ok (.ireturn, 1) → Hd D cA A s σ H locs → CB n0 s0 σ → Q σ r → RG σ → Shp ra jx rm σ → W p l e R s m args below meth c H locs (gc σ - n0) (gs σ - s0) QM (F0 m pc ls [.int (i32 r)])) (hX : ∀ (σ : Sg) (E : String) (pc : Nat) (lo : List (Nat × Value)) (st : List Value), X σ E → RG σ → Shp ra jx rm σ → JX p l e R s m args below meth c 6 D cA A n0 s0 QM σ E pc lo st) : ∀ (σ : Sg) (v0 : Int64) (v4 : Int64), w_X16_within_6 ra jx rm Q X σ v0 v4 → RG σ → Shp ra jx rm σ → JJ p l e R s m args below meth c 6 D cA A n0 s0 QM σ 6 [(0, .long v0), (4, .long v4)] [] := by
  intro σ v0 v4 h hGσ hS H locs ls hH hl hc
  unfold w_X16_within_6 at h
  refine lv_lload_n B.1 B.2.1 dX16_within_6 rfl (lv_at hl 0 rfl) ?_
  refine lv_lload B.1 B.2.1 dX16_within_7 (lv_at hl 1 rfl) ?_
  refine W.lcmp B.1 B.2.1 dX16_within_9 ?_
  refine lv_if_gt (tgt := 17) B.1 B.2.1 dX16_within_10 (by decide) (fun h9 => ?_) (fun h9 => ?_)
  · rw [if_pos ((lg_cmp_gt _ _).mp h9)] at h
    exact a_X16_within_17 B hT hR hFr hLw hQ hX _ h hGσ hS _ _ _ hH (lv_sub (l' := []) hl [] rfl) hc
  · rw [if_neg (fun q => h9 ((lg_cmp_gt _ _).mpr q))] at h
    exact a_X16_within_13 B hT hR hFr hLw hQ hX _ h hGσ hS _ _ _ hH (lv_sub (l' := []) hl [] rfl) hc
set_option maxRecDepth 20000 in
theorem a_X16_within_0 {p : Program} {l : Launch} {e : Env} {R : Room} {s : State} {m : MethodId} {args : Array Value} {below : List Frame} {meth : Method} {c : Code} {D : va_G} {cA : Nat → ClassId} {tys : List (ClassId × FieldType)} {A : Nat → Prop} {n0 s0 : Nat} {QM : State → Prop} {ra : Nat → Nat} {jx : Nat → Nat → Nat} {rm : Nat} {Q : Sg → Int → Prop} {X : Sg → String → Prop} (B : Cx p s m args c cX16_within 6 RX16 D cA tys A) (hT : Tys cA tys) (hR : Rm R n0 s0) (hFr : 0 ≤ R.frames) (hLw : 0 ≤ R.locals) (hQ : ∀ (pc : Nat) (ls : Array Slot) (σ : Sg) (H : Heap) (locs : List Loc) (r : Int) (gr : rng r) (gz : r = 0 ∨ r = 1), decode cX16_within pc = .ok (.ireturn, 1) → Hd D cA A s σ H locs → CB n0 s0 σ → Q σ r → RG σ → Shp ra jx rm σ → W p l e R s m args below meth c H locs (gc σ - n0) (gs σ - s0) QM (F0 m pc ls [.int (i32 r)])) (hX : ∀ (σ : Sg) (E : String) (pc : Nat) (lo : List (Nat × Value)) (st : List Value), X σ E → RG σ → Shp ra jx rm σ → JX p l e R s m args below meth c 6 D cA A n0 s0 QM σ E pc lo st) : ∀ (σ : Sg) (v0 : Int64) (v2 : Int64) (v4 : Int64), w_X16_within_0 ra jx rm Q X σ v0 v2 v4 → RG σ → Shp ra jx rm σ → JJ p l e R s m args below meth c 6 D cA A n0 s0 QM σ 0 [(0, .long v0), (2, .long v2), (4, .long v4)] [] := by
  intro σ v0 v2 v4 h hGσ hS H locs ls hH hl hc
  unfold w_X16_within_0 at h
  refine lv_lload_n B.1 B.2.1 dX16_within_0 rfl (lv_at hl 0 rfl) ?_
  refine lv_lload_n B.1 B.2.1 dX16_within_1 rfl (lv_at hl 1 rfl) ?_
  refine W.lcmp B.1 B.2.1 dX16_within_2 ?_
  refine lv_if_lt (tgt := 17) B.1 B.2.1 dX16_within_3 (by decide) (fun h9 => ?_) (fun h9 => ?_)
  · rw [if_pos ((lg_cmp_lt _ _).mp h9)] at h
    exact a_X16_within_17 B hT hR hFr hLw hQ hX _ h hGσ hS _ _ _ hH (lv_sub (l' := []) hl [] rfl) hc
  · rw [if_neg (fun q => h9 ((lg_cmp_lt _ _).mpr q))] at h
    exact a_X16_within_6 B hT hR hFr hLw hQ hX _ _ _ h hGσ hS _ _ _ hH (lv_sub (l' := [(0, .long v0), (4, .long v4)]) hl [0, 2] rfl) hc
theorem ok_X16_within {l : Launch} {D : va_G} {cA : Nat → ClassId} {tys : List (ClassId × FieldType)} {A : Nat → Prop} {ra : Nat → Nat} {jx : Nat → Nat → Nat} {rm : Nat} (hT : Tys cA tys) {Q : Sg → Int → Prop} {X : Sg → String → Prop} (σ : Sg) (v0 : Int64) (v2 : Int64) (v4 : Int64) (hG : RG σ) (hS : Shp ra jx rm σ) (h : wp_X16_within ra jx rm v0 v2 v4 σ Q X) : Ok l D cA tys A yX16_within (.code yX16_within cX16_within 6 (some .boolean)) 0 0 [.long v0, .long v2, .long v4] σ (fun σ' w => ∃ r, w = some (.int (i32 r)) ∧ (rng r ∧ (r = 0 ∨ r = 1)) ∧ Q σ' r ∧ RG σ' ∧ Shp ra jx rm σ') (fun σ' E => X σ' E ∧ RG σ' ∧ Shp ra jx rm σ') := by
  refine ok_of (ret := (some .boolean)) (by decide) (Nat.le_of_ble_eq_true rfl) ?_
  intro p e R s m args below meth c hRR B hr hlocks hex _
  have B : Cx p s m args c cX16_within 6 RX16 D cA tys A := B
  have hR : Rm R (gc σ) (gs σ) := by rw [hRR]; exact ⟨rfl, rfl⟩
  unfold wp_X16_within at h
  intro H locs ls hH hl hc
  have hX : ∀ (σ9 : Sg) (E : String) (pc : Nat) (lo : List (Nat × Value)) (st : List Value), X σ9 E → RG σ9 → Shp ra jx rm σ9 → JX p l e R s m args below meth c 6 D cA A (gc σ) (gs σ) (vx_MQ below (Qw D cA A σ (fun σ' w => ∃ r, w = some (.int (i32 r)) ∧ (rng r ∧ (r = 0 ∨ r = 1)) ∧ Q σ' r ∧ RG σ' ∧ Shp ra jx rm σ')) (Xw D cA A σ (fun σ' E => X σ' E ∧ RG σ' ∧ Shp ra jx rm σ')) args s (BC - gc σ) (BS - gs σ) A) σ9 E pc lo st := fun σ9 E pc lo st hx hG9 hS9 H locs ls ce q hH hl hc hce hcv hcl => e_out hH hc (fun x hx9 => (hex x hx9).elim) hlocks hce hcv hcl ⟨hx, hG9, hS9⟩
  exact a_X16_within_0 B hT hR (by rw [hRR]; exact Nat.le_refl _) (by rw [hRR]; exact Nat.le_refl _) (fun pc ls σ9 H locs r gr gz hd hH hc hq hG9 hS9 => e_iret B hH hc hr (by rcases gz with e9 | e9 <;> rw [e9] <;> rfl) hlocks ⟨r, rfl, ⟨gr, gz⟩, hq, hG9, hS9⟩ hd) hX σ v0 v2 v4 h hG hS H locs ls hH (lv_sub (l' := [(0, .long v0), (2, .long v2), (4, .long v4)]) hl [0, 1, 2] rfl) hc
theorem dX16_channel__0 : decode cX16_channel_ 0 = .ok (.aload_n 0, 1) := by decide +kernel
theorem dX16_channel__1 : decode cX16_channel_ 1 = .ok (.iload_n 1, 1) := by decide +kernel
theorem dX16_channel__2 : decode cX16_channel_ 2 = .ok (.i2l, 1) := by decide +kernel
theorem dX16_channel__3 : decode cX16_channel_ 3 = .ok (.lconst 0, 1) := by decide +kernel
theorem dX16_channel__4 : decode cX16_channel_ 4 = .ok (.aload_n 0, 1) := by decide +kernel
theorem dX16_channel__5 : decode cX16_channel_ 5 = .ok (.getfield 371, 3) := by decide +kernel
theorem dX16_channel__8 : decode cX16_channel_ 8 = .ok (.iconst 1, 1) := by decide +kernel
theorem dX16_channel__9 : decode cX16_channel_ 9 = .ok (.isub, 1) := by decide +kernel
theorem dX16_channel__10 : decode cX16_channel_ 10 = .ok (.i2l, 1) := by decide +kernel
theorem dX16_channel__11 : decode cX16_channel_ 11 = .ok (.invokestatic 45, 3) := by decide +kernel
theorem dX16_channel__14 : decode cX16_channel_ 14 = .ok (.ifCond .ne 7, 3) := by decide +kernel
theorem dX16_channel__17 : decode cX16_channel_ 17 = .ok (.iconst 1, 1) := by decide +kernel
theorem dX16_channel__18 : decode cX16_channel_ 18 = .ok (.goto 38, 3) := by decide +kernel
theorem dX16_channel__21 : decode cX16_channel_ 21 = .ok (.aload_n 0, 1) := by decide +kernel
theorem dX16_channel__22 : decode cX16_channel_ 22 = .ok (.getfield 688, 3) := by decide +kernel
theorem dX16_channel__25 : decode cX16_channel_ 25 = .ok (.ifCond .ne 10, 3) := by decide +kernel
theorem dX16_channel__28 : decode cX16_channel_ 28 = .ok (.aload_n 0, 1) := by decide +kernel
theorem dX16_channel__29 : decode cX16_channel_ 29 = .ok (.getfield 831, 3) := by decide +kernel
theorem dX16_channel__32 : decode cX16_channel_ 32 = .ok (.ifCond .eq 7, 3) := by decide +kernel
theorem dX16_channel__35 : decode cX16_channel_ 35 = .ok (.iconst 2, 1) := by decide +kernel
theorem dX16_channel__36 : decode cX16_channel_ 36 = .ok (.goto 20, 3) := by decide +kernel
theorem dX16_channel__39 : decode cX16_channel_ 39 = .ok (.iload_n 2, 1) := by decide +kernel
theorem dX16_channel__40 : decode cX16_channel_ 40 = .ok (.i2l, 1) := by decide +kernel
theorem dX16_channel__41 : decode cX16_channel_ 41 = .ok (.lconst 0, 1) := by decide +kernel
theorem dX16_channel__42 : decode cX16_channel_ 42 = .ok (.ldc2_w 1006, 3) := by decide +kernel
theorem dX16_channel__45 : decode cX16_channel_ 45 = .ok (.invokestatic 45, 3) := by decide +kernel
theorem dX16_channel__48 : decode cX16_channel_ 48 = .ok (.ifCond .ne 7, 3) := by decide +kernel
theorem dX16_channel__51 : decode cX16_channel_ 51 = .ok (.iconst 3, 1) := by decide +kernel
theorem dX16_channel__52 : decode cX16_channel_ 52 = .ok (.goto 4, 3) := by decide +kernel
theorem dX16_channel__55 : decode cX16_channel_ 55 = .ok (.iconst 0, 1) := by decide +kernel
theorem dX16_channel__56 : decode cX16_channel_ 56 = .ok (.putfield 1, 3) := by decide +kernel
theorem dX16_channel__59 : decode cX16_channel_ 59 = .ok (.aload_n 0, 1) := by decide +kernel
theorem dX16_channel__60 : decode cX16_channel_ 60 = .ok (.getfield 1, 3) := by decide +kernel
theorem dX16_channel__63 : decode cX16_channel_ 63 = .ok (.ifCond .le 5, 3) := by decide +kernel
theorem dX16_channel__66 : decode cX16_channel_ 66 = .ok (.lconst 0, 1) := by decide +kernel
theorem dX16_channel__67 : decode cX16_channel_ 67 = .ok (.lreturn, 1) := by decide +kernel
theorem dX16_channel__68 : decode cX16_channel_ 68 = .ok (.iload_n 2, 1) := by decide +kernel
theorem dX16_channel__69 : decode cX16_channel_ 69 = .ok (.ifCond .ne 13, 3) := by decide +kernel
theorem dX16_channel__72 : decode cX16_channel_ 72 = .ok (.aload_n 0, 1) := by decide +kernel
theorem dX16_channel__73 : decode cX16_channel_ 73 = .ok (.getfield 368, 3) := by decide +kernel
theorem dX16_channel__76 : decode cX16_channel_ 76 = .ok (.iload_n 1, 1) := by decide +kernel
theorem dX16_channel__77 : decode cX16_channel_ 77 = .ok (.iaload, 1) := by decide +kernel
theorem dX16_channel__78 : decode cX16_channel_ 78 = .ok (.i2l, 1) := by decide +kernel
theorem dX16_channel__79 : decode cX16_channel_ 79 = .ok (.goto 75, 3) := by decide +kernel
theorem dX16_channel__82 : decode cX16_channel_ 82 = .ok (.iload_n 2, 1) := by decide +kernel
theorem dX16_channel__83 : decode cX16_channel_ 83 = .ok (.iconst 1, 1) := by decide +kernel
theorem dX16_channel__84 : decode cX16_channel_ 84 = .ok (.if_icmp .ne 13, 3) := by decide +kernel
theorem dX16_channel__87 : decode cX16_channel_ 87 = .ok (.aload_n 0, 1) := by decide +kernel
theorem dX16_channel__88 : decode cX16_channel_ 88 = .ok (.getfield 374, 3) := by decide +kernel
theorem dX16_channel__91 : decode cX16_channel_ 91 = .ok (.iload_n 1, 1) := by decide +kernel
theorem dX16_channel__92 : decode cX16_channel_ 92 = .ok (.iaload, 1) := by decide +kernel
theorem dX16_channel__93 : decode cX16_channel_ 93 = .ok (.i2l, 1) := by decide +kernel
theorem dX16_channel__94 : decode cX16_channel_ 94 = .ok (.goto 60, 3) := by decide +kernel
theorem dX16_channel__97 : decode cX16_channel_ 97 = .ok (.iload_n 2, 1) := by decide +kernel
theorem dX16_channel__98 : decode cX16_channel_ 98 = .ok (.iconst 2, 1) := by decide +kernel
theorem dX16_channel__99 : decode cX16_channel_ 99 = .ok (.if_icmp .ne 13, 3) := by decide +kernel
theorem dX16_channel__102 : decode cX16_channel_ 102 = .ok (.aload_n 0, 1) := by decide +kernel
theorem dX16_channel__103 : decode cX16_channel_ 103 = .ok (.getfield 447, 3) := by decide +kernel
theorem dX16_channel__106 : decode cX16_channel_ 106 = .ok (.iload_n 1, 1) := by decide +kernel
theorem dX16_channel__107 : decode cX16_channel_ 107 = .ok (.iaload, 1) := by decide +kernel
theorem dX16_channel__108 : decode cX16_channel_ 108 = .ok (.i2l, 1) := by decide +kernel
theorem dX16_channel__109 : decode cX16_channel_ 109 = .ok (.goto 45, 3) := by decide +kernel
theorem dX16_channel__112 : decode cX16_channel_ 112 = .ok (.iload_n 2, 1) := by decide +kernel
theorem dX16_channel__113 : decode cX16_channel_ 113 = .ok (.iconst 3, 1) := by decide +kernel
theorem dX16_channel__114 : decode cX16_channel_ 114 = .ok (.if_icmp .ne 12, 3) := by decide +kernel
theorem dX16_channel__117 : decode cX16_channel_ 117 = .ok (.aload_n 0, 1) := by decide +kernel
theorem dX16_channel__118 : decode cX16_channel_ 118 = .ok (.getfield 453, 3) := by decide +kernel
theorem dX16_channel__121 : decode cX16_channel_ 121 = .ok (.iload_n 1, 1) := by decide +kernel
theorem dX16_channel__122 : decode cX16_channel_ 122 = .ok (.laload, 1) := by decide +kernel
theorem dX16_channel__123 : decode cX16_channel_ 123 = .ok (.goto 31, 3) := by decide +kernel
theorem dX16_channel__126 : decode cX16_channel_ 126 = .ok (.iload_n 2, 1) := by decide +kernel
theorem dX16_channel__127 : decode cX16_channel_ 127 = .ok (.iconst 4, 1) := by decide +kernel
theorem dX16_channel__128 : decode cX16_channel_ 128 = .ok (.if_icmp .ne 20, 3) := by decide +kernel
theorem dX16_channel__131 : decode cX16_channel_ 131 = .ok (.aload_n 0, 1) := by decide +kernel
theorem dX16_channel__132 : decode cX16_channel_ 132 = .ok (.getfield 456, 3) := by decide +kernel
theorem dX16_channel__135 : decode cX16_channel_ 135 = .ok (.iload_n 1, 1) := by decide +kernel
theorem dX16_channel__136 : decode cX16_channel_ 136 = .ok (.baload, 1) := by decide +kernel
theorem dX16_channel__137 : decode cX16_channel_ 137 = .ok (.ifCond .eq 7, 3) := by decide +kernel
theorem dX16_channel__140 : decode cX16_channel_ 140 = .ok (.lconst 1, 1) := by decide +kernel
theorem dX16_channel__141 : decode cX16_channel_ 141 = .ok (.goto 13, 3) := by decide +kernel
theorem dX16_channel__144 : decode cX16_channel_ 144 = .ok (.lconst 0, 1) := by decide +kernel
theorem dX16_channel__145 : decode cX16_channel_ 145 = .ok (.goto 9, 3) := by decide +kernel
theorem dX16_channel__148 : decode cX16_channel_ 148 = .ok (.aload_n 0, 1) := by decide +kernel
theorem dX16_channel__149 : decode cX16_channel_ 149 = .ok (.getfield 459, 3) := by decide +kernel
theorem dX16_channel__152 : decode cX16_channel_ 152 = .ok (.iload_n 1, 1) := by decide +kernel
theorem dX16_channel__153 : decode cX16_channel_ 153 = .ok (.laload, 1) := by decide +kernel
theorem dX16_channel__154 : decode cX16_channel_ 154 = .ok (.lreturn, 1) := by decide +kernel
set_option maxRecDepth 20000 in
theorem a_X16_channel__154 {p : Program} {l : Launch} {e : Env} {R : Room} {s : State} {m : MethodId} {args : Array Value} {below : List Frame} {meth : Method} {c : Code} {D : va_G} {cA : Nat → ClassId} {tys : List (ClassId × FieldType)} {A : Nat → Prop} {n0 s0 : Nat} {QM : State → Prop} {ra : Nat → Nat} {jx : Nat → Nat → Nat} {rm : Nat} {Q : Sg → Int64 → Prop} {X : Sg → String → Prop} (B : Cx p s m args c cX16_channel_ 3 RX16 D cA tys A) (hT : Tys cA tys) (hR : Rm R n0 s0) (hFr : 1 ≤ R.frames) (hLw : 25 ≤ R.locals) (hQ : ∀ (pc : Nat) (ls : Array Slot) (σ : Sg) (H : Heap) (locs : List Loc) (r : Int64), decode cX16_channel_ pc = .ok (.lreturn, 1) → Hd D cA A s σ H locs → CB n0 s0 σ → Q σ r → RG σ → Shp ra jx rm σ → W p l e R s m args below meth c H locs (gc σ - n0) (gs σ - s0) QM (F0 m pc ls [.long r])) (hX : ∀ (σ : Sg) (E : String) (pc : Nat) (lo : List (Nat × Value)) (st : List Value), X σ E → RG σ → Shp ra jx rm σ → JX p l e R s m args below meth c 3 D cA A n0 s0 QM σ E pc lo st) : ∀ (σ : Sg) (u0 : Int64), w_X16_channel__154 ra jx rm Q X σ u0 → RG σ → Shp ra jx rm σ → JJ p l e R s m args below meth c 3 D cA A n0 s0 QM σ 154 [(0, .ref rm)] [.long u0] := by
  intro σ u0 h hGσ hS H locs ls hH hl hc
  unfold w_X16_channel__154 at h
  exact hQ _ _ _ _ _ _ dX16_channel__154 hH hc h hGσ hS
set_option maxRecDepth 20000 in
theorem a_X16_channel__148 {p : Program} {l : Launch} {e : Env} {R : Room} {s : State} {m : MethodId} {args : Array Value} {below : List Frame} {meth : Method} {c : Code} {D : va_G} {cA : Nat → ClassId} {tys : List (ClassId × FieldType)} {A : Nat → Prop} {n0 s0 : Nat} {QM : State → Prop} {ra : Nat → Nat} {jx : Nat → Nat → Nat} {rm : Nat} {Q : Sg → Int64 → Prop} {X : Sg → String → Prop} (B : Cx p s m args c cX16_channel_ 3 RX16 D cA tys A) (hT : Tys cA tys) (hR : Rm R n0 s0) (hFr : 1 ≤ R.frames) (hLw : 25 ≤ R.locals) (hQ : ∀ (pc : Nat) (ls : Array Slot) (σ : Sg) (H : Heap) (locs : List Loc) (r : Int64), decode cX16_channel_ pc = .ok (.lreturn, 1) → Hd D cA A s σ H locs → CB n0 s0 σ → Q σ r → RG σ → Shp ra jx rm σ → W p l e R s m args below meth c H locs (gc σ - n0) (gs σ - s0) QM (F0 m pc ls [.long r])) (hX : ∀ (σ : Sg) (E : String) (pc : Nat) (lo : List (Nat × Value)) (st : List Value), X σ E → RG σ → Shp ra jx rm σ → JX p l e R s m args below meth c 3 D cA A n0 s0 QM σ E pc lo st) : ∀ (σ : Sg) (v1 : Int) (g1 : rng v1), w_X16_channel__148 ra jx rm Q X σ v1 → RG σ → Shp ra jx rm σ → JJ p l e R s m args below meth c 3 D cA A n0 s0 QM σ 148 [(0, .ref rm), (1, .int (i32 v1))] [] := by
  intro σ v1 g1 h hGσ hS H locs ls hH hl hc
  unfold w_X16_channel__148 at h
  refine lv_aload_n B.1 B.2.1 dX16_channel__148 rfl (lv_at hl 0 rfl) ?_
  refine r_arr B hH hS 58 (kd := 101) (n := 1100) (by decide) (by decide) wf_X16_459 rfl (by decide) dX16_channel__149 ?_
  refine lv_iload_n B.1 B.2.1 dX16_channel__152 rfl (lv_at hl 1 rfl) ?_
  obtain ⟨q1, h⟩ := h
  refine r_lald B hT hH hS 58 (n := 1100) (by decide) (by decide) q1 dX16_channel__153 ?_
  exact a_X16_channel__154 B hT hR hFr hLw hQ hX _ _ h hGσ hS _ _ _ hH (lv_sub (l' := [(0, .ref rm)]) hl [0] rfl) hc
set_option maxRecDepth 20000 in
theorem a_X16_channel__144 {p : Program} {l : Launch} {e : Env} {R : Room} {s : State} {m : MethodId} {args : Array Value} {below : List Frame} {meth : Method} {c : Code} {D : va_G} {cA : Nat → ClassId} {tys : List (ClassId × FieldType)} {A : Nat → Prop} {n0 s0 : Nat} {QM : State → Prop} {ra : Nat → Nat} {jx : Nat → Nat → Nat} {rm : Nat} {Q : Sg → Int64 → Prop} {X : Sg → String → Prop} (B : Cx p s m args c cX16_channel_ 3 RX16 D cA tys A) (hT : Tys cA tys) (hR : Rm R n0 s0) (hFr : 1 ≤ R.frames) (hLw : 25 ≤ R.locals) (hQ : ∀ (pc : Nat) (ls : Array Slot) (σ : Sg) (H : Heap) (locs : List Loc) (r : Int64), decode cX16_channel_ pc = .ok (.lreturn, 1) → Hd D cA A s σ H locs → CB n0 s0 σ → Q σ r → RG σ → Shp ra jx rm σ → W p l e R s m args below meth c H locs (gc σ - n0) (gs σ - s0) QM (F0 m pc ls [.long r])) (hX : ∀ (σ : Sg) (E : String) (pc : Nat) (lo : List (Nat × Value)) (st : List Value), X σ E → RG σ → Shp ra jx rm σ → JX p l e R s m args below meth c 3 D cA A n0 s0 QM σ E pc lo st) : ∀ (σ : Sg), w_X16_channel__144 ra jx rm Q X σ → RG σ → Shp ra jx rm σ → JJ p l e R s m args below meth c 3 D cA A n0 s0 QM σ 144 [(0, .ref rm)] [] := by
  intro σ h hGσ hS H locs ls hH hl hc
  unfold w_X16_channel__144 at h
  refine lv_lconst (v := 0) B.1 B.2.1 dX16_channel__144 (by decide) ?_
  refine lv_goto (tgt := 154) B.1 B.2.1 dX16_channel__145 (by decide) ?_
  exact a_X16_channel__154 B hT hR hFr hLw hQ hX _ _ h hGσ hS _ _ _ hH (lv_sub (l' := [(0, .ref rm)]) hl [0] rfl) hc
set_option maxRecDepth 20000 in
theorem a_X16_channel__140 {p : Program} {l : Launch} {e : Env} {R : Room} {s : State} {m : MethodId} {args : Array Value} {below : List Frame} {meth : Method} {c : Code} {D : va_G} {cA : Nat → ClassId} {tys : List (ClassId × FieldType)} {A : Nat → Prop} {n0 s0 : Nat} {QM : State → Prop} {ra : Nat → Nat} {jx : Nat → Nat → Nat} {rm : Nat} {Q : Sg → Int64 → Prop} {X : Sg → String → Prop} (B : Cx p s m args c cX16_channel_ 3 RX16 D cA tys A) (hT : Tys cA tys) (hR : Rm R n0 s0) (hFr : 1 ≤ R.frames) (hLw : 25 ≤ R.locals) (hQ : ∀ (pc : Nat) (ls : Array Slot) (σ : Sg) (H : Heap) (locs : List Loc) (r : Int64), decode cX16_channel_ pc = .ok (.lreturn, 1) → Hd D cA A s σ H locs → CB n0 s0 σ → Q σ r → RG σ → Shp ra jx rm σ → W p l e R s m args below meth c H locs (gc σ - n0) (gs σ - s0) QM (F0 m pc ls [.long r])) (hX : ∀ (σ : Sg) (E : String) (pc : Nat) (lo : List (Nat × Value)) (st : List Value), X σ E → RG σ → Shp ra jx rm σ → JX p l e R s m args below meth c 3 D cA A n0 s0 QM σ E pc lo st) : ∀ (σ : Sg), w_X16_channel__140 ra jx rm Q X σ → RG σ → Shp ra jx rm σ → JJ p l e R s m args below meth c 3 D cA A n0 s0 QM σ 140 [(0, .ref rm)] [] := by
  intro σ h hGσ hS H locs ls hH hl hc
  unfold w_X16_channel__140 at h
  refine lv_lconst (v := 1) B.1 B.2.1 dX16_channel__140 (by decide) ?_
  refine lv_goto (tgt := 154) B.1 B.2.1 dX16_channel__141 (by decide) ?_
  exact a_X16_channel__154 B hT hR hFr hLw hQ hX _ _ h hGσ hS _ _ _ hH (lv_sub (l' := [(0, .ref rm)]) hl [0] rfl) hc
set_option maxRecDepth 20000 in
theorem a_X16_channel__131 {p : Program} {l : Launch} {e : Env} {R : Room} {s : State} {m : MethodId} {args : Array Value} {below : List Frame} {meth : Method} {c : Code} {D : va_G} {cA : Nat → ClassId} {tys : List (ClassId × FieldType)} {A : Nat → Prop} {n0 s0 : Nat} {QM : State → Prop} {ra : Nat → Nat} {jx : Nat → Nat → Nat} {rm : Nat} {Q : Sg → Int64 → Prop} {X : Sg → String → Prop} (B : Cx p s m args c cX16_channel_ 3 RX16 D cA tys A) (hT : Tys cA tys) (hR : Rm R n0 s0) (hFr : 1 ≤ R.frames) (hLw : 25 ≤ R.locals) (hQ : ∀ (pc : Nat) (ls : Array Slot) (σ : Sg) (H : Heap) (locs : List Loc) (r : Int64), decode cX16_channel_ pc = .ok (.lreturn, 1) → Hd D cA A s σ H locs → CB n0 s0 σ → Q σ r → RG σ → Shp ra jx rm σ → W p l e R s m args below meth c H locs (gc σ - n0) (gs σ - s0) QM (F0 m pc ls [.long r])) (hX : ∀ (σ : Sg) (E : String) (pc : Nat) (lo : List (Nat × Value)) (st : List Value), X σ E → RG σ → Shp ra jx rm σ → JX p l e R s m args below meth c 3 D cA A n0 s0 QM σ E pc lo st) : ∀ (σ : Sg) (v1 : Int) (g1 : rng v1), w_X16_channel__131 ra jx rm Q X σ v1 → RG σ → Shp ra jx rm σ → JJ p l e R s m args below meth c 3 D cA A n0 s0 QM σ 131 [(0, .ref rm), (1, .int (i32 v1))] [] := by
  intro σ v1 g1 h hGσ hS H locs ls hH hl hc
  unfold w_X16_channel__131 at h
  refine lv_aload_n B.1 B.2.1 dX16_channel__131 rfl (lv_at hl 0 rfl) ?_
  refine r_arr B hH hS 57 (kd := 103) (n := 1100) (by decide) (by decide) wf_X16_456 rfl (by decide) dX16_channel__132 ?_
  refine lv_iload_n B.1 B.2.1 dX16_channel__135 rfl (lv_at hl 1 rfl) ?_
  obtain ⟨q1, h⟩ := h
  refine r_zald B hT hH hS 57 (n := 1100) (by decide) (by decide) q1 dX16_channel__136 ?_
  refine lv_if_eq (tgt := 144) B.1 B.2.1 dX16_channel__137 (by decide) (fun h9 => ?_) (fun h9 => ?_)
  · rw [if_pos ((z_eq (hGσ _ _)).mp h9)] at h
    exact a_X16_channel__144 B hT hR hFr hLw hQ hX _ h hGσ hS _ _ _ hH (lv_sub (l' := [(0, .ref rm)]) hl [0] rfl) hc
  · rw [if_neg (fun q => h9 ((z_eq (hGσ _ _)).mpr q))] at h
    exact a_X16_channel__140 B hT hR hFr hLw hQ hX _ h hGσ hS _ _ _ hH (lv_sub (l' := [(0, .ref rm)]) hl [0] rfl) hc
set_option maxRecDepth 20000 in
theorem a_X16_channel__126 {p : Program} {l : Launch} {e : Env} {R : Room} {s : State} {m : MethodId} {args : Array Value} {below : List Frame} {meth : Method} {c : Code} {D : va_G} {cA : Nat → ClassId} {tys : List (ClassId × FieldType)} {A : Nat → Prop} {n0 s0 : Nat} {QM : State → Prop} {ra : Nat → Nat} {jx : Nat → Nat → Nat} {rm : Nat} {Q : Sg → Int64 → Prop} {X : Sg → String → Prop} (B : Cx p s m args c cX16_channel_ 3 RX16 D cA tys A) (hT : Tys cA tys) (hR : Rm R n0 s0) (hFr : 1 ≤ R.frames) (hLw : 25 ≤ R.locals) (hQ : ∀ (pc : Nat) (ls : Array Slot) (σ : Sg) (H : Heap) (locs : List Loc) (r : Int64), decode cX16_channel_ pc = .ok (.lreturn, 1) → Hd D cA A s σ H locs → CB n0 s0 σ → Q σ r → RG σ → Shp ra jx rm σ → W p l e R s m args below meth c H locs (gc σ - n0) (gs σ - s0) QM (F0 m pc ls [.long r])) (hX : ∀ (σ : Sg) (E : String) (pc : Nat) (lo : List (Nat × Value)) (st : List Value), X σ E → RG σ → Shp ra jx rm σ → JX p l e R s m args below meth c 3 D cA A n0 s0 QM σ E pc lo st) : ∀ (σ : Sg) (v1 : Int) (v2 : Int) (g1 : rng v1) (g2 : rng v2), w_X16_channel__126 ra jx rm Q X σ v1 v2 → RG σ → Shp ra jx rm σ → JJ p l e R s m args below meth c 3 D cA A n0 s0 QM σ 126 [(0, .ref rm), (1, .int (i32 v1)), (2, .int (i32 v2))] [] := by
  intro σ v1 v2 g1 g2 h hGσ hS H locs ls hH hl hc
  unfold w_X16_channel__126 at h
  refine lv_iload_n B.1 B.2.1 dX16_channel__126 rfl (lv_at hl 2 rfl) ?_
  refine lv_iconst (v := i32 4) B.1 B.2.1 dX16_channel__127 (by decide) ?_
  refine lv_icmp_ne (tgt := 148) B.1 B.2.1 dX16_channel__128 (by decide) (fun h9 => ?_) (fun h9 => ?_)
  · rw [if_pos (fun q => h9 ((i32_eq g2 (by unfold rng; omega)).mpr q))] at h
    exact a_X16_channel__148 B hT hR hFr hLw hQ hX _ _ g1 h hGσ hS _ _ _ hH (lv_sub (l' := [(0, .ref rm), (1, .int (i32 v1))]) hl [0, 1] rfl) hc
  · rw [if_neg (fun q => q ((i32_eq g2 (by unfold rng; omega)).mp h9))] at h
    exact a_X16_channel__131 B hT hR hFr hLw hQ hX _ _ g1 h hGσ hS _ _ _ hH (lv_sub (l' := [(0, .ref rm), (1, .int (i32 v1))]) hl [0, 1] rfl) hc
set_option maxRecDepth 20000 in
theorem a_X16_channel__117 {p : Program} {l : Launch} {e : Env} {R : Room} {s : State} {m : MethodId} {args : Array Value} {below : List Frame} {meth : Method} {c : Code} {D : va_G} {cA : Nat → ClassId} {tys : List (ClassId × FieldType)} {A : Nat → Prop} {n0 s0 : Nat} {QM : State → Prop} {ra : Nat → Nat} {jx : Nat → Nat → Nat} {rm : Nat} {Q : Sg → Int64 → Prop} {X : Sg → String → Prop} (B : Cx p s m args c cX16_channel_ 3 RX16 D cA tys A) (hT : Tys cA tys) (hR : Rm R n0 s0) (hFr : 1 ≤ R.frames) (hLw : 25 ≤ R.locals) (hQ : ∀ (pc : Nat) (ls : Array Slot) (σ : Sg) (H : Heap) (locs : List Loc) (r : Int64), decode cX16_channel_ pc = .ok (.lreturn, 1) → Hd D cA A s σ H locs → CB n0 s0 σ → Q σ r → RG σ → Shp ra jx rm σ → W p l e R s m args below meth c H locs (gc σ - n0) (gs σ - s0) QM (F0 m pc ls [.long r])) (hX : ∀ (σ : Sg) (E : String) (pc : Nat) (lo : List (Nat × Value)) (st : List Value), X σ E → RG σ → Shp ra jx rm σ → JX p l e R s m args below meth c 3 D cA A n0 s0 QM σ E pc lo st) : ∀ (σ : Sg) (v1 : Int) (g1 : rng v1), w_X16_channel__117 ra jx rm Q X σ v1 → RG σ → Shp ra jx rm σ → JJ p l e R s m args below meth c 3 D cA A n0 s0 QM σ 117 [(0, .ref rm), (1, .int (i32 v1))] [] := by
  intro σ v1 g1 h hGσ hS H locs ls hH hl hc
  unfold w_X16_channel__117 at h
  refine lv_aload_n B.1 B.2.1 dX16_channel__117 rfl (lv_at hl 0 rfl) ?_
  refine r_arr B hH hS 56 (kd := 101) (n := 1100) (by decide) (by decide) wf_X16_453 rfl (by decide) dX16_channel__118 ?_
  refine lv_iload_n B.1 B.2.1 dX16_channel__121 rfl (lv_at hl 1 rfl) ?_
  obtain ⟨q1, h⟩ := h
  refine r_lald B hT hH hS 56 (n := 1100) (by decide) (by decide) q1 dX16_channel__122 ?_
  refine lv_goto (tgt := 154) B.1 B.2.1 dX16_channel__123 (by decide) ?_
  exact a_X16_channel__154 B hT hR hFr hLw hQ hX _ _ h hGσ hS _ _ _ hH (lv_sub (l' := [(0, .ref rm)]) hl [0] rfl) hc
set_option maxRecDepth 20000 in
theorem a_X16_channel__112 {p : Program} {l : Launch} {e : Env} {R : Room} {s : State} {m : MethodId} {args : Array Value} {below : List Frame} {meth : Method} {c : Code} {D : va_G} {cA : Nat → ClassId} {tys : List (ClassId × FieldType)} {A : Nat → Prop} {n0 s0 : Nat} {QM : State → Prop} {ra : Nat → Nat} {jx : Nat → Nat → Nat} {rm : Nat} {Q : Sg → Int64 → Prop} {X : Sg → String → Prop} (B : Cx p s m args c cX16_channel_ 3 RX16 D cA tys A) (hT : Tys cA tys) (hR : Rm R n0 s0) (hFr : 1 ≤ R.frames) (hLw : 25 ≤ R.locals) (hQ : ∀ (pc : Nat) (ls : Array Slot) (σ : Sg) (H : Heap) (locs : List Loc) (r : Int64), decode cX16_channel_ pc = .ok (.lreturn, 1) → Hd D cA A s σ H locs → CB n0 s0 σ → Q σ r → RG σ → Shp ra jx rm σ → W p l e R s m args below meth c H locs (gc σ - n0) (gs σ - s0) QM (F0 m pc ls [.long r])) (hX : ∀ (σ : Sg) (E : String) (pc : Nat) (lo : List (Nat × Value)) (st : List Value), X σ E → RG σ → Shp ra jx rm σ → JX p l e R s m args below meth c 3 D cA A n0 s0 QM σ E pc lo st) : ∀ (σ : Sg) (v1 : Int) (v2 : Int) (g1 : rng v1) (g2 : rng v2), w_X16_channel__112 ra jx rm Q X σ v1 v2 → RG σ → Shp ra jx rm σ → JJ p l e R s m args below meth c 3 D cA A n0 s0 QM σ 112 [(0, .ref rm), (1, .int (i32 v1)), (2, .int (i32 v2))] [] := by
  intro σ v1 v2 g1 g2 h hGσ hS H locs ls hH hl hc
  unfold w_X16_channel__112 at h
  refine lv_iload_n B.1 B.2.1 dX16_channel__112 rfl (lv_at hl 2 rfl) ?_
  refine lv_iconst (v := i32 3) B.1 B.2.1 dX16_channel__113 (by decide) ?_
  refine lv_icmp_ne (tgt := 126) B.1 B.2.1 dX16_channel__114 (by decide) (fun h9 => ?_) (fun h9 => ?_)
  · rw [if_pos (fun q => h9 ((i32_eq g2 (by unfold rng; omega)).mpr q))] at h
    exact a_X16_channel__126 B hT hR hFr hLw hQ hX _ _ _ g1 g2 h hGσ hS _ _ _ hH (lv_sub (l' := [(0, .ref rm), (1, .int (i32 v1)), (2, .int (i32 v2))]) hl [0, 1, 2] rfl) hc
  · rw [if_neg (fun q => q ((i32_eq g2 (by unfold rng; omega)).mp h9))] at h
    exact a_X16_channel__117 B hT hR hFr hLw hQ hX _ _ g1 h hGσ hS _ _ _ hH (lv_sub (l' := [(0, .ref rm), (1, .int (i32 v1))]) hl [0, 1] rfl) hc
set_option maxRecDepth 20000 in
theorem a_X16_channel__102 {p : Program} {l : Launch} {e : Env} {R : Room} {s : State} {m : MethodId} {args : Array Value} {below : List Frame} {meth : Method} {c : Code} {D : va_G} {cA : Nat → ClassId} {tys : List (ClassId × FieldType)} {A : Nat → Prop} {n0 s0 : Nat} {QM : State → Prop} {ra : Nat → Nat} {jx : Nat → Nat → Nat} {rm : Nat} {Q : Sg → Int64 → Prop} {X : Sg → String → Prop} (B : Cx p s m args c cX16_channel_ 3 RX16 D cA tys A) (hT : Tys cA tys) (hR : Rm R n0 s0) (hFr : 1 ≤ R.frames) (hLw : 25 ≤ R.locals) (hQ : ∀ (pc : Nat) (ls : Array Slot) (σ : Sg) (H : Heap) (locs : List Loc) (r : Int64), decode cX16_channel_ pc = .ok (.lreturn, 1) → Hd D cA A s σ H locs → CB n0 s0 σ → Q σ r → RG σ → Shp ra jx rm σ → W p l e R s m args below meth c H locs (gc σ - n0) (gs σ - s0) QM (F0 m pc ls [.long r])) (hX : ∀ (σ : Sg) (E : String) (pc : Nat) (lo : List (Nat × Value)) (st : List Value), X σ E → RG σ → Shp ra jx rm σ → JX p l e R s m args below meth c 3 D cA A n0 s0 QM σ E pc lo st) : ∀ (σ : Sg) (v1 : Int) (g1 : rng v1), w_X16_channel__102 ra jx rm Q X σ v1 → RG σ → Shp ra jx rm σ → JJ p l e R s m args below meth c 3 D cA A n0 s0 QM σ 102 [(0, .ref rm), (1, .int (i32 v1))] [] := by
  intro σ v1 g1 h hGσ hS H locs ls hH hl hc
  unfold w_X16_channel__102 at h
  refine lv_aload_n B.1 B.2.1 dX16_channel__102 rfl (lv_at hl 0 rfl) ?_
  refine r_arr B hH hS 54 (kd := 100) (n := 1100) (by decide) (by decide) wf_X16_447 rfl (by decide) dX16_channel__103 ?_
  refine lv_iload_n B.1 B.2.1 dX16_channel__106 rfl (lv_at hl 1 rfl) ?_
  obtain ⟨q1, h⟩ := h
  refine r_iald B hT hH hS 54 (n := 1100) (by decide) (by decide) q1 dX16_channel__107 ?_
  refine lv_i2l B.1 B.2.1 dX16_channel__108 (i32_i64 (hGσ _ _)) ?_
  refine lv_goto (tgt := 154) B.1 B.2.1 dX16_channel__109 (by decide) ?_
  exact a_X16_channel__154 B hT hR hFr hLw hQ hX _ _ h hGσ hS _ _ _ hH (lv_sub (l' := [(0, .ref rm)]) hl [0] rfl) hc
set_option maxRecDepth 20000 in
theorem a_X16_channel__97 {p : Program} {l : Launch} {e : Env} {R : Room} {s : State} {m : MethodId} {args : Array Value} {below : List Frame} {meth : Method} {c : Code} {D : va_G} {cA : Nat → ClassId} {tys : List (ClassId × FieldType)} {A : Nat → Prop} {n0 s0 : Nat} {QM : State → Prop} {ra : Nat → Nat} {jx : Nat → Nat → Nat} {rm : Nat} {Q : Sg → Int64 → Prop} {X : Sg → String → Prop} (B : Cx p s m args c cX16_channel_ 3 RX16 D cA tys A) (hT : Tys cA tys) (hR : Rm R n0 s0) (hFr : 1 ≤ R.frames) (hLw : 25 ≤ R.locals) (hQ : ∀ (pc : Nat) (ls : Array Slot) (σ : Sg) (H : Heap) (locs : List Loc) (r : Int64), decode cX16_channel_ pc = .ok (.lreturn, 1) → Hd D cA A s σ H locs → CB n0 s0 σ → Q σ r → RG σ → Shp ra jx rm σ → W p l e R s m args below meth c H locs (gc σ - n0) (gs σ - s0) QM (F0 m pc ls [.long r])) (hX : ∀ (σ : Sg) (E : String) (pc : Nat) (lo : List (Nat × Value)) (st : List Value), X σ E → RG σ → Shp ra jx rm σ → JX p l e R s m args below meth c 3 D cA A n0 s0 QM σ E pc lo st) : ∀ (σ : Sg) (v1 : Int) (v2 : Int) (g1 : rng v1) (g2 : rng v2), w_X16_channel__97 ra jx rm Q X σ v1 v2 → RG σ → Shp ra jx rm σ → JJ p l e R s m args below meth c 3 D cA A n0 s0 QM σ 97 [(0, .ref rm), (1, .int (i32 v1)), (2, .int (i32 v2))] [] := by
  intro σ v1 v2 g1 g2 h hGσ hS H locs ls hH hl hc
  unfold w_X16_channel__97 at h
  refine lv_iload_n B.1 B.2.1 dX16_channel__97 rfl (lv_at hl 2 rfl) ?_
  refine lv_iconst (v := i32 2) B.1 B.2.1 dX16_channel__98 (by decide) ?_
  refine lv_icmp_ne (tgt := 112) B.1 B.2.1 dX16_channel__99 (by decide) (fun h9 => ?_) (fun h9 => ?_)
  · rw [if_pos (fun q => h9 ((i32_eq g2 (by unfold rng; omega)).mpr q))] at h
    exact a_X16_channel__112 B hT hR hFr hLw hQ hX _ _ _ g1 g2 h hGσ hS _ _ _ hH (lv_sub (l' := [(0, .ref rm), (1, .int (i32 v1)), (2, .int (i32 v2))]) hl [0, 1, 2] rfl) hc
  · rw [if_neg (fun q => q ((i32_eq g2 (by unfold rng; omega)).mp h9))] at h
    exact a_X16_channel__102 B hT hR hFr hLw hQ hX _ _ g1 h hGσ hS _ _ _ hH (lv_sub (l' := [(0, .ref rm), (1, .int (i32 v1))]) hl [0, 1] rfl) hc
set_option maxRecDepth 20000 in
theorem a_X16_channel__87 {p : Program} {l : Launch} {e : Env} {R : Room} {s : State} {m : MethodId} {args : Array Value} {below : List Frame} {meth : Method} {c : Code} {D : va_G} {cA : Nat → ClassId} {tys : List (ClassId × FieldType)} {A : Nat → Prop} {n0 s0 : Nat} {QM : State → Prop} {ra : Nat → Nat} {jx : Nat → Nat → Nat} {rm : Nat} {Q : Sg → Int64 → Prop} {X : Sg → String → Prop} (B : Cx p s m args c cX16_channel_ 3 RX16 D cA tys A) (hT : Tys cA tys) (hR : Rm R n0 s0) (hFr : 1 ≤ R.frames) (hLw : 25 ≤ R.locals) (hQ : ∀ (pc : Nat) (ls : Array Slot) (σ : Sg) (H : Heap) (locs : List Loc) (r : Int64), decode cX16_channel_ pc = .ok (.lreturn, 1) → Hd D cA A s σ H locs → CB n0 s0 σ → Q σ r → RG σ → Shp ra jx rm σ → W p l e R s m args below meth c H locs (gc σ - n0) (gs σ - s0) QM (F0 m pc ls [.long r])) (hX : ∀ (σ : Sg) (E : String) (pc : Nat) (lo : List (Nat × Value)) (st : List Value), X σ E → RG σ → Shp ra jx rm σ → JX p l e R s m args below meth c 3 D cA A n0 s0 QM σ E pc lo st) : ∀ (σ : Sg) (v1 : Int) (g1 : rng v1), w_X16_channel__87 ra jx rm Q X σ v1 → RG σ → Shp ra jx rm σ → JJ p l e R s m args below meth c 3 D cA A n0 s0 QM σ 87 [(0, .ref rm), (1, .int (i32 v1))] [] := by
  intro σ v1 g1 h hGσ hS H locs ls hH hl hc
  unfold w_X16_channel__87 at h
  refine lv_aload_n B.1 B.2.1 dX16_channel__87 rfl (lv_at hl 0 rfl) ?_
  refine r_arr B hH hS 52 (kd := 100) (n := 1100) (by decide) (by decide) wf_X16_374 rfl (by decide) dX16_channel__88 ?_
  refine lv_iload_n B.1 B.2.1 dX16_channel__91 rfl (lv_at hl 1 rfl) ?_
  obtain ⟨q1, h⟩ := h
  refine r_iald B hT hH hS 52 (n := 1100) (by decide) (by decide) q1 dX16_channel__92 ?_
  refine lv_i2l B.1 B.2.1 dX16_channel__93 (i32_i64 (hGσ _ _)) ?_
  refine lv_goto (tgt := 154) B.1 B.2.1 dX16_channel__94 (by decide) ?_
  exact a_X16_channel__154 B hT hR hFr hLw hQ hX _ _ h hGσ hS _ _ _ hH (lv_sub (l' := [(0, .ref rm)]) hl [0] rfl) hc
set_option maxRecDepth 20000 in
theorem a_X16_channel__82 {p : Program} {l : Launch} {e : Env} {R : Room} {s : State} {m : MethodId} {args : Array Value} {below : List Frame} {meth : Method} {c : Code} {D : va_G} {cA : Nat → ClassId} {tys : List (ClassId × FieldType)} {A : Nat → Prop} {n0 s0 : Nat} {QM : State → Prop} {ra : Nat → Nat} {jx : Nat → Nat → Nat} {rm : Nat} {Q : Sg → Int64 → Prop} {X : Sg → String → Prop} (B : Cx p s m args c cX16_channel_ 3 RX16 D cA tys A) (hT : Tys cA tys) (hR : Rm R n0 s0) (hFr : 1 ≤ R.frames) (hLw : 25 ≤ R.locals) (hQ : ∀ (pc : Nat) (ls : Array Slot) (σ : Sg) (H : Heap) (locs : List Loc) (r : Int64), decode cX16_channel_ pc = .ok (.lreturn, 1) → Hd D cA A s σ H locs → CB n0 s0 σ → Q σ r → RG σ → Shp ra jx rm σ → W p l e R s m args below meth c H locs (gc σ - n0) (gs σ - s0) QM (F0 m pc ls [.long r])) (hX : ∀ (σ : Sg) (E : String) (pc : Nat) (lo : List (Nat × Value)) (st : List Value), X σ E → RG σ → Shp ra jx rm σ → JX p l e R s m args below meth c 3 D cA A n0 s0 QM σ E pc lo st) : ∀ (σ : Sg) (v1 : Int) (v2 : Int) (g1 : rng v1) (g2 : rng v2), w_X16_channel__82 ra jx rm Q X σ v1 v2 → RG σ → Shp ra jx rm σ → JJ p l e R s m args below meth c 3 D cA A n0 s0 QM σ 82 [(0, .ref rm), (1, .int (i32 v1)), (2, .int (i32 v2))] [] := by
  intro σ v1 v2 g1 g2 h hGσ hS H locs ls hH hl hc
  unfold w_X16_channel__82 at h
  refine lv_iload_n B.1 B.2.1 dX16_channel__82 rfl (lv_at hl 2 rfl) ?_
  refine lv_iconst (v := i32 1) B.1 B.2.1 dX16_channel__83 (by decide) ?_
  refine lv_icmp_ne (tgt := 97) B.1 B.2.1 dX16_channel__84 (by decide) (fun h9 => ?_) (fun h9 => ?_)
  · rw [if_pos (fun q => h9 ((i32_eq g2 (by unfold rng; omega)).mpr q))] at h
    exact a_X16_channel__97 B hT hR hFr hLw hQ hX _ _ _ g1 g2 h hGσ hS _ _ _ hH (lv_sub (l' := [(0, .ref rm), (1, .int (i32 v1)), (2, .int (i32 v2))]) hl [0, 1, 2] rfl) hc
  · rw [if_neg (fun q => q ((i32_eq g2 (by unfold rng; omega)).mp h9))] at h
    exact a_X16_channel__87 B hT hR hFr hLw hQ hX _ _ g1 h hGσ hS _ _ _ hH (lv_sub (l' := [(0, .ref rm), (1, .int (i32 v1))]) hl [0, 1] rfl) hc
set_option maxRecDepth 20000 in
theorem a_X16_channel__72 {p : Program} {l : Launch} {e : Env} {R : Room} {s : State} {m : MethodId} {args : Array Value} {below : List Frame} {meth : Method} {c : Code} {D : va_G} {cA : Nat → ClassId} {tys : List (ClassId × FieldType)} {A : Nat → Prop} {n0 s0 : Nat} {QM : State → Prop} {ra : Nat → Nat} {jx : Nat → Nat → Nat} {rm : Nat} {Q : Sg → Int64 → Prop} {X : Sg → String → Prop} (B : Cx p s m args c cX16_channel_ 3 RX16 D cA tys A) (hT : Tys cA tys) (hR : Rm R n0 s0) (hFr : 1 ≤ R.frames) (hLw : 25 ≤ R.locals) (hQ : ∀ (pc : Nat) (ls : Array Slot) (σ : Sg) (H : Heap) (locs : List Loc) (r : Int64), decode cX16_channel_ pc = .ok (.lreturn, 1) → Hd D cA A s σ H locs → CB n0 s0 σ → Q σ r → RG σ → Shp ra jx rm σ → W p l e R s m args below meth c H locs (gc σ - n0) (gs σ - s0) QM (F0 m pc ls [.long r])) (hX : ∀ (σ : Sg) (E : String) (pc : Nat) (lo : List (Nat × Value)) (st : List Value), X σ E → RG σ → Shp ra jx rm σ → JX p l e R s m args below meth c 3 D cA A n0 s0 QM σ E pc lo st) : ∀ (σ : Sg) (v1 : Int) (g1 : rng v1), w_X16_channel__72 ra jx rm Q X σ v1 → RG σ → Shp ra jx rm σ → JJ p l e R s m args below meth c 3 D cA A n0 s0 QM σ 72 [(0, .ref rm), (1, .int (i32 v1))] [] := by
  intro σ v1 g1 h hGσ hS H locs ls hH hl hc
  unfold w_X16_channel__72 at h
  refine lv_aload_n B.1 B.2.1 dX16_channel__72 rfl (lv_at hl 0 rfl) ?_
  refine r_arr B hH hS 51 (kd := 100) (n := 1100) (by decide) (by decide) wf_X16_368 rfl (by decide) dX16_channel__73 ?_
  refine lv_iload_n B.1 B.2.1 dX16_channel__76 rfl (lv_at hl 1 rfl) ?_
  obtain ⟨q1, h⟩ := h
  refine r_iald B hT hH hS 51 (n := 1100) (by decide) (by decide) q1 dX16_channel__77 ?_
  refine lv_i2l B.1 B.2.1 dX16_channel__78 (i32_i64 (hGσ _ _)) ?_
  refine lv_goto (tgt := 154) B.1 B.2.1 dX16_channel__79 (by decide) ?_
  exact a_X16_channel__154 B hT hR hFr hLw hQ hX _ _ h hGσ hS _ _ _ hH (lv_sub (l' := [(0, .ref rm)]) hl [0] rfl) hc
set_option maxRecDepth 20000 in
theorem a_X16_channel__68 {p : Program} {l : Launch} {e : Env} {R : Room} {s : State} {m : MethodId} {args : Array Value} {below : List Frame} {meth : Method} {c : Code} {D : va_G} {cA : Nat → ClassId} {tys : List (ClassId × FieldType)} {A : Nat → Prop} {n0 s0 : Nat} {QM : State → Prop} {ra : Nat → Nat} {jx : Nat → Nat → Nat} {rm : Nat} {Q : Sg → Int64 → Prop} {X : Sg → String → Prop} (B : Cx p s m args c cX16_channel_ 3 RX16 D cA tys A) (hT : Tys cA tys) (hR : Rm R n0 s0) (hFr : 1 ≤ R.frames) (hLw : 25 ≤ R.locals) (hQ : ∀ (pc : Nat) (ls : Array Slot) (σ : Sg) (H : Heap) (locs : List Loc) (r : Int64), decode cX16_channel_ pc = .ok (.lreturn, 1) → Hd D cA A s σ H locs → CB n0 s0 σ → Q σ r → RG σ → Shp ra jx rm σ → W p l e R s m args below meth c H locs (gc σ - n0) (gs σ - s0) QM (F0 m pc ls [.long r])) (hX : ∀ (σ : Sg) (E : String) (pc : Nat) (lo : List (Nat × Value)) (st : List Value), X σ E → RG σ → Shp ra jx rm σ → JX p l e R s m args below meth c 3 D cA A n0 s0 QM σ E pc lo st) : ∀ (σ : Sg) (v1 : Int) (v2 : Int) (g1 : rng v1) (g2 : rng v2), w_X16_channel__68 ra jx rm Q X σ v1 v2 → RG σ → Shp ra jx rm σ → JJ p l e R s m args below meth c 3 D cA A n0 s0 QM σ 68 [(0, .ref rm), (1, .int (i32 v1)), (2, .int (i32 v2))] [] := by
  intro σ v1 v2 g1 g2 h hGσ hS H locs ls hH hl hc
  unfold w_X16_channel__68 at h
  refine lv_iload_n B.1 B.2.1 dX16_channel__68 rfl (lv_at hl 2 rfl) ?_
  refine lv_if_ne (tgt := 82) B.1 B.2.1 dX16_channel__69 (by decide) (fun h9 => ?_) (fun h9 => ?_)
  · rw [if_pos (fun q => h9 ((z_eq g2).mpr q))] at h
    exact a_X16_channel__82 B hT hR hFr hLw hQ hX _ _ _ g1 g2 h hGσ hS _ _ _ hH (lv_sub (l' := [(0, .ref rm), (1, .int (i32 v1)), (2, .int (i32 v2))]) hl [0, 1, 2] rfl) hc
  · rw [if_neg (fun q => q ((z_eq g2).mp h9))] at h
    exact a_X16_channel__72 B hT hR hFr hLw hQ hX _ _ g1 h hGσ hS _ _ _ hH (lv_sub (l' := [(0, .ref rm), (1, .int (i32 v1))]) hl [0, 1] rfl) hc
set_option maxRecDepth 20000 in
theorem a_X16_channel__66 {p : Program} {l : Launch} {e : Env} {R : Room} {s : State} {m : MethodId} {args : Array Value} {below : List Frame} {meth : Method} {c : Code} {D : va_G} {cA : Nat → ClassId} {tys : List (ClassId × FieldType)} {A : Nat → Prop} {n0 s0 : Nat} {QM : State → Prop} {ra : Nat → Nat} {jx : Nat → Nat → Nat} {rm : Nat} {Q : Sg → Int64 → Prop} {X : Sg → String → Prop} (B : Cx p s m args c cX16_channel_ 3 RX16 D cA tys A) (hT : Tys cA tys) (hR : Rm R n0 s0) (hFr : 1 ≤ R.frames) (hLw : 25 ≤ R.locals) (hQ : ∀ (pc : Nat) (ls : Array Slot) (σ : Sg) (H : Heap) (locs : List Loc) (r : Int64), decode cX16_channel_ pc = .ok (.lreturn, 1) → Hd D cA A s σ H locs → CB n0 s0 σ → Q σ r → RG σ → Shp ra jx rm σ → W p l e R s m args below meth c H locs (gc σ - n0) (gs σ - s0) QM (F0 m pc ls [.long r])) (hX : ∀ (σ : Sg) (E : String) (pc : Nat) (lo : List (Nat × Value)) (st : List Value), X σ E → RG σ → Shp ra jx rm σ → JX p l e R s m args below meth c 3 D cA A n0 s0 QM σ E pc lo st) : ∀ (σ : Sg), w_X16_channel__66 ra jx rm Q X σ → RG σ → Shp ra jx rm σ → JJ p l e R s m args below meth c 3 D cA A n0 s0 QM σ 66 [(0, .ref rm)] [] := by
  intro σ h hGσ hS H locs ls hH hl hc
  unfold w_X16_channel__66 at h
  refine lv_lconst (v := 0) B.1 B.2.1 dX16_channel__66 (by decide) ?_
  exact hQ _ _ _ _ _ _ dX16_channel__67 hH hc h hGσ hS
set_option maxRecDepth 20000 in
theorem a_X16_channel__56 {p : Program} {l : Launch} {e : Env} {R : Room} {s : State} {m : MethodId} {args : Array Value} {below : List Frame} {meth : Method} {c : Code} {D : va_G} {cA : Nat → ClassId} {tys : List (ClassId × FieldType)} {A : Nat → Prop} {n0 s0 : Nat} {QM : State → Prop} {ra : Nat → Nat} {jx : Nat → Nat → Nat} {rm : Nat} {Q : Sg → Int64 → Prop} {X : Sg → String → Prop} (B : Cx p s m args c cX16_channel_ 3 RX16 D cA tys A) (hT : Tys cA tys) (hR : Rm R n0 s0) (hFr : 1 ≤ R.frames) (hLw : 25 ≤ R.locals) (hQ : ∀ (pc : Nat) (ls : Array Slot) (σ : Sg) (H : Heap) (locs : List Loc) (r : Int64), decode cX16_channel_ pc = .ok (.lreturn, 1) → Hd D cA A s σ H locs → CB n0 s0 σ → Q σ r → RG σ → Shp ra jx rm σ → W p l e R s m args below meth c H locs (gc σ - n0) (gs σ - s0) QM (F0 m pc ls [.long r])) (hX : ∀ (σ : Sg) (E : String) (pc : Nat) (lo : List (Nat × Value)) (st : List Value), X σ E → RG σ → Shp ra jx rm σ → JX p l e R s m args below meth c 3 D cA A n0 s0 QM σ E pc lo st) : ∀ (σ : Sg) (v1 : Int) (v2 : Int) (u0 : Int) (g1 : rng v1) (g2 : rng v2) (gu0 : rng u0), w_X16_channel__56 ra jx rm Q X σ v1 v2 u0 → RG σ → Shp ra jx rm σ → JJ p l e R s m args below meth c 3 D cA A n0 s0 QM σ 56 [(0, .ref rm), (1, .int (i32 v1)), (2, .int (i32 v2))] [.int (i32 u0), .ref rm] := by
  intro σ v1 v2 u0 g1 g2 gu0 h hGσ hS H locs ls hH hl hc
  unfold w_X16_channel__56 at h
  obtain ⟨σ11, eσ11⟩ : ∃ z, z = pI σ rm 0 u0 := ⟨_, rfl⟩
  have h := h σ11 eσ11
  refine r_puti B hH hS 0 (ty := .int) (by decide) wf_X16_1 rfl rfl (by decide) rfl rfl rfl dX16_channel__56 (fun H locs hH => ?_)
  have hH : Hd D cA A s (pI σ rm 0 u0) H locs := hH
  rw [← eσ11] at hH
  have hGσ11 : RG σ11 := by rw [eσ11]; exact hGσ.pI gu0
  have hS : Shp ra jx rm σ11 := by rw [eσ11]; exact hS
  have hc : CB n0 s0 σ11 := by rw [eσ11]; exact hc
  rw [show gc σ = gc σ11 by rw [eσ11], show gs σ = gs σ11 by rw [eσ11]]
  refine lv_aload_n B.1 B.2.1 dX16_channel__59 rfl (lv_at hl 0 rfl) ?_
  refine r_geti B hH hS 0 (by decide) wf_X16_1 rfl (by decide) dX16_channel__60 ?_
  refine lv_if_le (tgt := 68) B.1 B.2.1 dX16_channel__63 (by decide) (fun h9 => ?_) (fun h9 => ?_)
  · rw [if_pos ((z_le (hGσ11 _ _)).mp h9)] at h
    exact a_X16_channel__68 B hT hR hFr hLw hQ hX _ _ _ g1 g2 h hGσ11 hS _ _ _ hH (lv_sub (l' := [(0, .ref rm), (1, .int (i32 v1)), (2, .int (i32 v2))]) hl [0, 1, 2] rfl) hc
  · rw [if_neg (fun q => h9 ((z_le (hGσ11 _ _)).mpr q))] at h
    exact a_X16_channel__66 B hT hR hFr hLw hQ hX _ h hGσ11 hS _ _ _ hH (lv_sub (l' := [(0, .ref rm)]) hl [0] rfl) hc
set_option maxRecDepth 20000 in
theorem a_X16_channel__35 {p : Program} {l : Launch} {e : Env} {R : Room} {s : State} {m : MethodId} {args : Array Value} {below : List Frame} {meth : Method} {c : Code} {D : va_G} {cA : Nat → ClassId} {tys : List (ClassId × FieldType)} {A : Nat → Prop} {n0 s0 : Nat} {QM : State → Prop} {ra : Nat → Nat} {jx : Nat → Nat → Nat} {rm : Nat} {Q : Sg → Int64 → Prop} {X : Sg → String → Prop} (B : Cx p s m args c cX16_channel_ 3 RX16 D cA tys A) (hT : Tys cA tys) (hR : Rm R n0 s0) (hFr : 1 ≤ R.frames) (hLw : 25 ≤ R.locals) (hQ : ∀ (pc : Nat) (ls : Array Slot) (σ : Sg) (H : Heap) (locs : List Loc) (r : Int64), decode cX16_channel_ pc = .ok (.lreturn, 1) → Hd D cA A s σ H locs → CB n0 s0 σ → Q σ r → RG σ → Shp ra jx rm σ → W p l e R s m args below meth c H locs (gc σ - n0) (gs σ - s0) QM (F0 m pc ls [.long r])) (hX : ∀ (σ : Sg) (E : String) (pc : Nat) (lo : List (Nat × Value)) (st : List Value), X σ E → RG σ → Shp ra jx rm σ → JX p l e R s m args below meth c 3 D cA A n0 s0 QM σ E pc lo st) : ∀ (σ : Sg) (v1 : Int) (v2 : Int) (g1 : rng v1) (g2 : rng v2), w_X16_channel__35 ra jx rm Q X σ v1 v2 → RG σ → Shp ra jx rm σ → JJ p l e R s m args below meth c 3 D cA A n0 s0 QM σ 35 [(0, .ref rm), (1, .int (i32 v1)), (2, .int (i32 v2))] [.ref rm] := by
  intro σ v1 v2 g1 g2 h hGσ hS H locs ls hH hl hc
  unfold w_X16_channel__35 at h
  refine lv_iconst (v := i32 2) B.1 B.2.1 dX16_channel__35 (by decide) ?_
  refine lv_goto (tgt := 56) B.1 B.2.1 dX16_channel__36 (by decide) ?_
  exact a_X16_channel__56 B hT hR hFr hLw hQ hX _ _ _ _ g1 g2 (by unfold rng; omega) h hGσ hS _ _ _ hH (lv_sub (l' := [(0, .ref rm), (1, .int (i32 v1)), (2, .int (i32 v2))]) hl [0, 1, 2] rfl) hc
set_option maxRecDepth 20000 in
theorem a_X16_channel__55 {p : Program} {l : Launch} {e : Env} {R : Room} {s : State} {m : MethodId} {args : Array Value} {below : List Frame} {meth : Method} {c : Code} {D : va_G} {cA : Nat → ClassId} {tys : List (ClassId × FieldType)} {A : Nat → Prop} {n0 s0 : Nat} {QM : State → Prop} {ra : Nat → Nat} {jx : Nat → Nat → Nat} {rm : Nat} {Q : Sg → Int64 → Prop} {X : Sg → String → Prop} (B : Cx p s m args c cX16_channel_ 3 RX16 D cA tys A) (hT : Tys cA tys) (hR : Rm R n0 s0) (hFr : 1 ≤ R.frames) (hLw : 25 ≤ R.locals) (hQ : ∀ (pc : Nat) (ls : Array Slot) (σ : Sg) (H : Heap) (locs : List Loc) (r : Int64), decode cX16_channel_ pc = .ok (.lreturn, 1) → Hd D cA A s σ H locs → CB n0 s0 σ → Q σ r → RG σ → Shp ra jx rm σ → W p l e R s m args below meth c H locs (gc σ - n0) (gs σ - s0) QM (F0 m pc ls [.long r])) (hX : ∀ (σ : Sg) (E : String) (pc : Nat) (lo : List (Nat × Value)) (st : List Value), X σ E → RG σ → Shp ra jx rm σ → JX p l e R s m args below meth c 3 D cA A n0 s0 QM σ E pc lo st) : ∀ (σ : Sg) (v1 : Int) (v2 : Int) (g1 : rng v1) (g2 : rng v2), w_X16_channel__55 ra jx rm Q X σ v1 v2 → RG σ → Shp ra jx rm σ → JJ p l e R s m args below meth c 3 D cA A n0 s0 QM σ 55 [(0, .ref rm), (1, .int (i32 v1)), (2, .int (i32 v2))] [.ref rm] := by
  intro σ v1 v2 g1 g2 h hGσ hS H locs ls hH hl hc
  unfold w_X16_channel__55 at h
  refine lv_iconst (v := i32 0) B.1 B.2.1 dX16_channel__55 (by decide) ?_
  exact a_X16_channel__56 B hT hR hFr hLw hQ hX _ _ _ _ g1 g2 (by unfold rng; omega) h hGσ hS _ _ _ hH (lv_sub (l' := [(0, .ref rm), (1, .int (i32 v1)), (2, .int (i32 v2))]) hl [0, 1, 2] rfl) hc
set_option maxRecDepth 20000 in
theorem a_X16_channel__51 {p : Program} {l : Launch} {e : Env} {R : Room} {s : State} {m : MethodId} {args : Array Value} {below : List Frame} {meth : Method} {c : Code} {D : va_G} {cA : Nat → ClassId} {tys : List (ClassId × FieldType)} {A : Nat → Prop} {n0 s0 : Nat} {QM : State → Prop} {ra : Nat → Nat} {jx : Nat → Nat → Nat} {rm : Nat} {Q : Sg → Int64 → Prop} {X : Sg → String → Prop} (B : Cx p s m args c cX16_channel_ 3 RX16 D cA tys A) (hT : Tys cA tys) (hR : Rm R n0 s0) (hFr : 1 ≤ R.frames) (hLw : 25 ≤ R.locals) (hQ : ∀ (pc : Nat) (ls : Array Slot) (σ : Sg) (H : Heap) (locs : List Loc) (r : Int64), decode cX16_channel_ pc = .ok (.lreturn, 1) → Hd D cA A s σ H locs → CB n0 s0 σ → Q σ r → RG σ → Shp ra jx rm σ → W p l e R s m args below meth c H locs (gc σ - n0) (gs σ - s0) QM (F0 m pc ls [.long r])) (hX : ∀ (σ : Sg) (E : String) (pc : Nat) (lo : List (Nat × Value)) (st : List Value), X σ E → RG σ → Shp ra jx rm σ → JX p l e R s m args below meth c 3 D cA A n0 s0 QM σ E pc lo st) : ∀ (σ : Sg) (v1 : Int) (v2 : Int) (g1 : rng v1) (g2 : rng v2), w_X16_channel__51 ra jx rm Q X σ v1 v2 → RG σ → Shp ra jx rm σ → JJ p l e R s m args below meth c 3 D cA A n0 s0 QM σ 51 [(0, .ref rm), (1, .int (i32 v1)), (2, .int (i32 v2))] [.ref rm] := by
  intro σ v1 v2 g1 g2 h hGσ hS H locs ls hH hl hc
  unfold w_X16_channel__51 at h
  refine lv_iconst (v := i32 3) B.1 B.2.1 dX16_channel__51 (by decide) ?_
  refine lv_goto (tgt := 56) B.1 B.2.1 dX16_channel__52 (by decide) ?_
  exact a_X16_channel__56 B hT hR hFr hLw hQ hX _ _ _ _ g1 g2 (by unfold rng; omega) h hGσ hS _ _ _ hH (lv_sub (l' := [(0, .ref rm), (1, .int (i32 v1)), (2, .int (i32 v2))]) hl [0, 1, 2] rfl) hc
set_option maxRecDepth 20000 in
theorem a_X16_channel__39 {p : Program} {l : Launch} {e : Env} {R : Room} {s : State} {m : MethodId} {args : Array Value} {below : List Frame} {meth : Method} {c : Code} {D : va_G} {cA : Nat → ClassId} {tys : List (ClassId × FieldType)} {A : Nat → Prop} {n0 s0 : Nat} {QM : State → Prop} {ra : Nat → Nat} {jx : Nat → Nat → Nat} {rm : Nat} {Q : Sg → Int64 → Prop} {X : Sg → String → Prop} (B : Cx p s m args c cX16_channel_ 3 RX16 D cA tys A) (hT : Tys cA tys) (hR : Rm R n0 s0) (hFr : 1 ≤ R.frames) (hLw : 25 ≤ R.locals) (hQ : ∀ (pc : Nat) (ls : Array Slot) (σ : Sg) (H : Heap) (locs : List Loc) (r : Int64), decode cX16_channel_ pc = .ok (.lreturn, 1) → Hd D cA A s σ H locs → CB n0 s0 σ → Q σ r → RG σ → Shp ra jx rm σ → W p l e R s m args below meth c H locs (gc σ - n0) (gs σ - s0) QM (F0 m pc ls [.long r])) (hX : ∀ (σ : Sg) (E : String) (pc : Nat) (lo : List (Nat × Value)) (st : List Value), X σ E → RG σ → Shp ra jx rm σ → JX p l e R s m args below meth c 3 D cA A n0 s0 QM σ E pc lo st) : ∀ (σ : Sg) (v1 : Int) (v2 : Int) (g1 : rng v1) (g2 : rng v2), w_X16_channel__39 ra jx rm Q X σ v1 v2 → RG σ → Shp ra jx rm σ → JJ p l e R s m args below meth c 3 D cA A n0 s0 QM σ 39 [(0, .ref rm), (1, .int (i32 v1)), (2, .int (i32 v2))] [.ref rm] := by
  intro σ v1 v2 g1 g2 h hGσ hS H locs ls hH hl hc
  unfold w_X16_channel__39 at h
  refine lv_iload_n B.1 B.2.1 dX16_channel__39 rfl (lv_at hl 2 rfl) ?_
  refine lv_i2l B.1 B.2.1 dX16_channel__40 (i32_i64 g2) ?_
  refine lv_lconst (v := 0) B.1 B.2.1 dX16_channel__41 (by decide) ?_
  refine lv_ldc2 B.1 B.2.1 B.2.2.1 (B.2.2.2.1 _ (wk_X16_1006)) dX16_channel__42 ?_
  refine c_S B hH hl hc hR (As := [.long (Int64.ofInt v2), .long 0, .long 5]) (ok_X16_within hT σ (Int64.ofInt v2) 0 5 hGσ hS h) wc_X16_45 3 (by decide +kernel) ⟨Nat.le_trans (Nat.le_of_ble_eq_true rfl) hFr, Nat.le_trans (Nat.le_of_ble_eq_true rfl) hLw⟩ rfl (rest := [.ref rm]) rfl (Nat.le_of_ble_eq_true rfl) dX16_channel__45 (fun σ12 w hq => ?_) (fun σ9 E9 hx9 => hX σ9 E9 _ _ _ hx9.1 hx9.2.1 hx9.2.2)
  obtain ⟨r13, rfl, ⟨gr13, gzr13⟩, h, hGσ12, hS⟩ := hq
  intro H locs ls hH hl hc
  refine W.eq (g2 := F0 m 48 ls [.int (i32 r13), .ref rm]) rfl ?_
  try dsimp only at h
  refine lv_if_ne (tgt := 55) B.1 B.2.1 dX16_channel__48 (by decide) (fun h9 => ?_) (fun h9 => ?_)
  · rw [if_pos (fun q => h9 ((z_eq gr13).mpr q))] at h
    exact a_X16_channel__55 B hT hR hFr hLw hQ hX _ _ _ g1 g2 h hGσ12 hS _ _ _ hH (lv_sub (l' := [(0, .ref rm), (1, .int (i32 v1)), (2, .int (i32 v2))]) hl [0, 1, 2] rfl) hc
  · rw [if_neg (fun q => q ((z_eq gr13).mp h9))] at h
    exact a_X16_channel__51 B hT hR hFr hLw hQ hX _ _ _ g1 g2 h hGσ12 hS _ _ _ hH (lv_sub (l' := [(0, .ref rm), (1, .int (i32 v1)), (2, .int (i32 v2))]) hl [0, 1, 2] rfl) hc
set_option maxRecDepth 20000 in
theorem a_X16_channel__28 {p : Program} {l : Launch} {e : Env} {R : Room} {s : State} {m : MethodId} {args : Array Value} {below : List Frame} {meth : Method} {c : Code} {D : va_G} {cA : Nat → ClassId} {tys : List (ClassId × FieldType)} {A : Nat → Prop} {n0 s0 : Nat} {QM : State → Prop} {ra : Nat → Nat} {jx : Nat → Nat → Nat} {rm : Nat} {Q : Sg → Int64 → Prop} {X : Sg → String → Prop} (B : Cx p s m args c cX16_channel_ 3 RX16 D cA tys A) (hT : Tys cA tys) (hR : Rm R n0 s0) (hFr : 1 ≤ R.frames) (hLw : 25 ≤ R.locals) (hQ : ∀ (pc : Nat) (ls : Array Slot) (σ : Sg) (H : Heap) (locs : List Loc) (r : Int64), decode cX16_channel_ pc = .ok (.lreturn, 1) → Hd D cA A s σ H locs → CB n0 s0 σ → Q σ r → RG σ → Shp ra jx rm σ → W p l e R s m args below meth c H locs (gc σ - n0) (gs σ - s0) QM (F0 m pc ls [.long r])) (hX : ∀ (σ : Sg) (E : String) (pc : Nat) (lo : List (Nat × Value)) (st : List Value), X σ E → RG σ → Shp ra jx rm σ → JX p l e R s m args below meth c 3 D cA A n0 s0 QM σ E pc lo st) : ∀ (σ : Sg) (v1 : Int) (v2 : Int) (g1 : rng v1) (g2 : rng v2), w_X16_channel__28 ra jx rm Q X σ v1 v2 → RG σ → Shp ra jx rm σ → JJ p l e R s m args below meth c 3 D cA A n0 s0 QM σ 28 [(0, .ref rm), (1, .int (i32 v1)), (2, .int (i32 v2))] [.ref rm] := by
  intro σ v1 v2 g1 g2 h hGσ hS H locs ls hH hl hc
  unfold w_X16_channel__28 at h
  refine lv_aload_n B.1 B.2.1 dX16_channel__28 rfl (lv_at hl 0 rfl) ?_
  refine r_geti B hH hS 31 (by decide) wf_X16_831 rfl (by decide) dX16_channel__29 ?_
  refine lv_if_eq (tgt := 39) B.1 B.2.1 dX16_channel__32 (by decide) (fun h9 => ?_) (fun h9 => ?_)
  · rw [if_pos ((z_eq (hGσ _ _)).mp h9)] at h
    exact a_X16_channel__39 B hT hR hFr hLw hQ hX _ _ _ g1 g2 h hGσ hS _ _ _ hH (lv_sub (l' := [(0, .ref rm), (1, .int (i32 v1)), (2, .int (i32 v2))]) hl [0, 1, 2] rfl) hc
  · rw [if_neg (fun q => h9 ((z_eq (hGσ _ _)).mpr q))] at h
    exact a_X16_channel__35 B hT hR hFr hLw hQ hX _ _ _ g1 g2 h hGσ hS _ _ _ hH (lv_sub (l' := [(0, .ref rm), (1, .int (i32 v1)), (2, .int (i32 v2))]) hl [0, 1, 2] rfl) hc
set_option maxRecDepth 20000 in
theorem a_X16_channel__21 {p : Program} {l : Launch} {e : Env} {R : Room} {s : State} {m : MethodId} {args : Array Value} {below : List Frame} {meth : Method} {c : Code} {D : va_G} {cA : Nat → ClassId} {tys : List (ClassId × FieldType)} {A : Nat → Prop} {n0 s0 : Nat} {QM : State → Prop} {ra : Nat → Nat} {jx : Nat → Nat → Nat} {rm : Nat} {Q : Sg → Int64 → Prop} {X : Sg → String → Prop} (B : Cx p s m args c cX16_channel_ 3 RX16 D cA tys A) (hT : Tys cA tys) (hR : Rm R n0 s0) (hFr : 1 ≤ R.frames) (hLw : 25 ≤ R.locals) (hQ : ∀ (pc : Nat) (ls : Array Slot) (σ : Sg) (H : Heap) (locs : List Loc) (r : Int64), decode cX16_channel_ pc = .ok (.lreturn, 1) → Hd D cA A s σ H locs → CB n0 s0 σ → Q σ r → RG σ → Shp ra jx rm σ → W p l e R s m args below meth c H locs (gc σ - n0) (gs σ - s0) QM (F0 m pc ls [.long r])) (hX : ∀ (σ : Sg) (E : String) (pc : Nat) (lo : List (Nat × Value)) (st : List Value), X σ E → RG σ → Shp ra jx rm σ → JX p l e R s m args below meth c 3 D cA A n0 s0 QM σ E pc lo st) : ∀ (σ : Sg) (v1 : Int) (v2 : Int) (g1 : rng v1) (g2 : rng v2), w_X16_channel__21 ra jx rm Q X σ v1 v2 → RG σ → Shp ra jx rm σ → JJ p l e R s m args below meth c 3 D cA A n0 s0 QM σ 21 [(0, .ref rm), (1, .int (i32 v1)), (2, .int (i32 v2))] [.ref rm] := by
  intro σ v1 v2 g1 g2 h hGσ hS H locs ls hH hl hc
  unfold w_X16_channel__21 at h
  refine lv_aload_n B.1 B.2.1 dX16_channel__21 rfl (lv_at hl 0 rfl) ?_
  refine r_geti B hH hS 32 (by decide) wf_X16_688 rfl (by decide) dX16_channel__22 ?_
  refine lv_if_ne (tgt := 35) B.1 B.2.1 dX16_channel__25 (by decide) (fun h9 => ?_) (fun h9 => ?_)
  · rw [if_pos (fun q => h9 ((z_eq (hGσ _ _)).mpr q))] at h
    exact a_X16_channel__35 B hT hR hFr hLw hQ hX _ _ _ g1 g2 h hGσ hS _ _ _ hH (lv_sub (l' := [(0, .ref rm), (1, .int (i32 v1)), (2, .int (i32 v2))]) hl [0, 1, 2] rfl) hc
  · rw [if_neg (fun q => q ((z_eq (hGσ _ _)).mp h9))] at h
    exact a_X16_channel__28 B hT hR hFr hLw hQ hX _ _ _ g1 g2 h hGσ hS _ _ _ hH (lv_sub (l' := [(0, .ref rm), (1, .int (i32 v1)), (2, .int (i32 v2))]) hl [0, 1, 2] rfl) hc
set_option maxRecDepth 20000 in
theorem a_X16_channel__17 {p : Program} {l : Launch} {e : Env} {R : Room} {s : State} {m : MethodId} {args : Array Value} {below : List Frame} {meth : Method} {c : Code} {D : va_G} {cA : Nat → ClassId} {tys : List (ClassId × FieldType)} {A : Nat → Prop} {n0 s0 : Nat} {QM : State → Prop} {ra : Nat → Nat} {jx : Nat → Nat → Nat} {rm : Nat} {Q : Sg → Int64 → Prop} {X : Sg → String → Prop} (B : Cx p s m args c cX16_channel_ 3 RX16 D cA tys A) (hT : Tys cA tys) (hR : Rm R n0 s0) (hFr : 1 ≤ R.frames) (hLw : 25 ≤ R.locals) (hQ : ∀ (pc : Nat) (ls : Array Slot) (σ : Sg) (H : Heap) (locs : List Loc) (r : Int64), decode cX16_channel_ pc = .ok (.lreturn, 1) → Hd D cA A s σ H locs → CB n0 s0 σ → Q σ r → RG σ → Shp ra jx rm σ → W p l e R s m args below meth c H locs (gc σ - n0) (gs σ - s0) QM (F0 m pc ls [.long r])) (hX : ∀ (σ : Sg) (E : String) (pc : Nat) (lo : List (Nat × Value)) (st : List Value), X σ E → RG σ → Shp ra jx rm σ → JX p l e R s m args below meth c 3 D cA A n0 s0 QM σ E pc lo st) : ∀ (σ : Sg) (v1 : Int) (v2 : Int) (g1 : rng v1) (g2 : rng v2), w_X16_channel__17 ra jx rm Q X σ v1 v2 → RG σ → Shp ra jx rm σ → JJ p l e R s m args below meth c 3 D cA A n0 s0 QM σ 17 [(0, .ref rm), (1, .int (i32 v1)), (2, .int (i32 v2))] [.ref rm] := by
  intro σ v1 v2 g1 g2 h hGσ hS H locs ls hH hl hc
  unfold w_X16_channel__17 at h
  refine lv_iconst (v := i32 1) B.1 B.2.1 dX16_channel__17 (by decide) ?_
  refine lv_goto (tgt := 56) B.1 B.2.1 dX16_channel__18 (by decide) ?_
  exact a_X16_channel__56 B hT hR hFr hLw hQ hX _ _ _ _ g1 g2 (by unfold rng; omega) h hGσ hS _ _ _ hH (lv_sub (l' := [(0, .ref rm), (1, .int (i32 v1)), (2, .int (i32 v2))]) hl [0, 1, 2] rfl) hc
set_option maxRecDepth 20000 in
theorem a_X16_channel__0 {p : Program} {l : Launch} {e : Env} {R : Room} {s : State} {m : MethodId} {args : Array Value} {below : List Frame} {meth : Method} {c : Code} {D : va_G} {cA : Nat → ClassId} {tys : List (ClassId × FieldType)} {A : Nat → Prop} {n0 s0 : Nat} {QM : State → Prop} {ra : Nat → Nat} {jx : Nat → Nat → Nat} {rm : Nat} {Q : Sg → Int64 → Prop} {X : Sg → String → Prop} (B : Cx p s m args c cX16_channel_ 3 RX16 D cA tys A) (hT : Tys cA tys) (hR : Rm R n0 s0) (hFr : 1 ≤ R.frames) (hLw : 25 ≤ R.locals) (hQ : ∀ (pc : Nat) (ls : Array Slot) (σ : Sg) (H : Heap) (locs : List Loc) (r : Int64), decode cX16_channel_ pc = .ok (.lreturn, 1) → Hd D cA A s σ H locs → CB n0 s0 σ → Q σ r → RG σ → Shp ra jx rm σ → W p l e R s m args below meth c H locs (gc σ - n0) (gs σ - s0) QM (F0 m pc ls [.long r])) (hX : ∀ (σ : Sg) (E : String) (pc : Nat) (lo : List (Nat × Value)) (st : List Value), X σ E → RG σ → Shp ra jx rm σ → JX p l e R s m args below meth c 3 D cA A n0 s0 QM σ E pc lo st) : ∀ (σ : Sg) (v1 : Int) (v2 : Int) (g1 : rng v1) (g2 : rng v2), w_X16_channel__0 ra jx rm Q X σ v1 v2 → RG σ → Shp ra jx rm σ → JJ p l e R s m args below meth c 3 D cA A n0 s0 QM σ 0 [(0, .ref rm), (1, .int (i32 v1)), (2, .int (i32 v2))] [] := by
  intro σ v1 v2 g1 g2 h hGσ hS H locs ls hH hl hc
  unfold w_X16_channel__0 at h
  refine lv_aload_n B.1 B.2.1 dX16_channel__0 rfl (lv_at hl 0 rfl) ?_
  refine lv_iload_n B.1 B.2.1 dX16_channel__1 rfl (lv_at hl 1 rfl) ?_
  refine lv_i2l B.1 B.2.1 dX16_channel__2 (i32_i64 g1) ?_
  refine lv_lconst (v := 0) B.1 B.2.1 dX16_channel__3 (by decide) ?_
  refine lv_aload_n B.1 B.2.1 dX16_channel__4 rfl (lv_at hl 0 rfl) ?_
  refine r_geti B hH hS 50 (by decide) wf_X16_371 rfl (by decide) dX16_channel__5 ?_
  refine lv_iconst (v := i32 1) B.1 B.2.1 dX16_channel__8 (by decide) ?_
  obtain ⟨q1, h⟩ := h
  refine lv_isub B.1 B.2.1 dX16_channel__9 ?_
  rw [i32_sub]
  refine lv_i2l B.1 B.2.1 dX16_channel__10 (i32_i64 q1) ?_
  refine c_S B hH hl hc hR (As := [.long (Int64.ofInt v1), .long 0, .long (Int64.ofInt (gI σ rm 50 - 1))]) (ok_X16_within hT σ (Int64.ofInt v1) 0 (Int64.ofInt (gI σ rm 50 - 1)) hGσ hS h) wc_X16_45 3 (by decide +kernel) ⟨Nat.le_trans (Nat.le_of_ble_eq_true rfl) hFr, Nat.le_trans (Nat.le_of_ble_eq_true rfl) hLw⟩ rfl (rest := [.ref rm]) rfl (Nat.le_of_ble_eq_true rfl) dX16_channel__11 (fun σ14 w hq => ?_) (fun σ9 E9 hx9 => hX σ9 E9 _ _ _ hx9.1 hx9.2.1 hx9.2.2)
  obtain ⟨r15, rfl, ⟨gr15, gzr15⟩, h, hGσ14, hS⟩ := hq
  intro H locs ls hH hl hc
  refine W.eq (g2 := F0 m 14 ls [.int (i32 r15), .ref rm]) rfl ?_
  try dsimp only at h
  refine lv_if_ne (tgt := 21) B.1 B.2.1 dX16_channel__14 (by decide) (fun h9 => ?_) (fun h9 => ?_)
  · rw [if_pos (fun q => h9 ((z_eq gr15).mpr q))] at h
    exact a_X16_channel__21 B hT hR hFr hLw hQ hX _ _ _ g1 g2 h hGσ14 hS _ _ _ hH (lv_sub (l' := [(0, .ref rm), (1, .int (i32 v1)), (2, .int (i32 v2))]) hl [0, 1, 2] rfl) hc
  · rw [if_neg (fun q => q ((z_eq gr15).mp h9))] at h
    exact a_X16_channel__17 B hT hR hFr hLw hQ hX _ _ _ g1 g2 h hGσ14 hS _ _ _ hH (lv_sub (l' := [(0, .ref rm), (1, .int (i32 v1)), (2, .int (i32 v2))]) hl [0, 1, 2] rfl) hc
theorem ok_X16_channel_ {l : Launch} {D : va_G} {cA : Nat → ClassId} {tys : List (ClassId × FieldType)} {A : Nat → Prop} {ra : Nat → Nat} {jx : Nat → Nat → Nat} {rm : Nat} (hT : Tys cA tys) {Q : Sg → Int64 → Prop} {X : Sg → String → Prop} (σ : Sg) (v1 : Int) (v2 : Int) (g1 : rng v1) (g2 : rng v2) (hG : RG σ) (hS : Shp ra jx rm σ) (h : wp_X16_channel_ ra jx rm v1 v2 σ Q X) : Ok l D cA tys A yX16_channel_ (.code yX16_channel_ cX16_channel_ 3 (some .long)) 1 25 [.ref rm, .int (i32 v1), .int (i32 v2)] σ (fun σ' w => ∃ r, w = some (.long r) ∧ Q σ' r ∧ RG σ' ∧ Shp ra jx rm σ') (fun σ' E => X σ' E ∧ RG σ' ∧ Shp ra jx rm σ') := by
  refine ok_of (ret := (some .long)) (by decide) (Nat.le_of_ble_eq_true rfl) ?_
  intro p e R s m args below meth c hRR B hr hlocks hex _
  have B : Cx p s m args c cX16_channel_ 3 RX16 D cA tys A := B
  have hR : Rm R (gc σ) (gs σ) := by rw [hRR]; exact ⟨rfl, rfl⟩
  unfold wp_X16_channel_ at h
  intro H locs ls hH hl hc
  have hX : ∀ (σ9 : Sg) (E : String) (pc : Nat) (lo : List (Nat × Value)) (st : List Value), X σ9 E → RG σ9 → Shp ra jx rm σ9 → JX p l e R s m args below meth c 3 D cA A (gc σ) (gs σ) (vx_MQ below (Qw D cA A σ (fun σ' w => ∃ r, w = some (.long r) ∧ Q σ' r ∧ RG σ' ∧ Shp ra jx rm σ')) (Xw D cA A σ (fun σ' E => X σ' E ∧ RG σ' ∧ Shp ra jx rm σ')) args s (BC - gc σ) (BS - gs σ) A) σ9 E pc lo st := fun σ9 E pc lo st hx hG9 hS9 H locs ls ce q hH hl hc hce hcv hcl => e_out hH hc (fun x hx9 => (hex x hx9).elim) hlocks hce hcv hcl ⟨hx, hG9, hS9⟩
  exact a_X16_channel__0 B hT hR (by rw [hRR]; exact Nat.le_refl _) (by rw [hRR]; exact Nat.le_refl _) (fun pc ls σ9 H locs r hd hH hc hq hG9 hS9 => e_lret B hH hc hr hlocks ⟨r, rfl, hq, hG9, hS9⟩ hd) hX σ v1 v2 g1 g2 h hG hS H locs ls hH (lv_sub (l' := [(0, .ref rm), (1, .int (i32 v1)), (2, .int (i32 v2))]) hl [0, 1, 2] rfl) hc

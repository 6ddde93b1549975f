abbrev ar_X8_releaseAll (dC : Nat → ClassId) (dI : Nat → Nat → Nat) (A : Nat → Prop) (h0 h1 : Nat) (b0 b1 b2 : Value) (_ : Unit) (t : State) : Prop := va_P (dC, dI) vwCl [(h0, .inr (8, [b0, b1, b2])), (h1, .inr (1, [.null, .null, .int 0]))] t.heap ∧ va_K (dC, dI) vwCl [] t ∧ va_D A [(h0, .inr (8, [b0, b1, b2])), (h1, .inr (1, [.null, .null, .int 0]))]
theorem dX8_releaseAll_0 : decode cX8_releaseAll 0 = .ok (.aload_n 1, 1) := by decide +kernel
theorem dX8_releaseAll_1 : decode cX8_releaseAll 1 = .ok (.getfield 58, 3) := by decide +kernel
theorem dX8_releaseAll_4 : decode cX8_releaseAll 4 = .ok (.ifnull 22, 3) := by decide +kernel
theorem dX8_releaseAll_26 : decode cX8_releaseAll 26 = .ok (.aload_n 1, 1) := by decide +kernel
theorem dX8_releaseAll_27 : decode cX8_releaseAll 27 = .ok (.aconst_null, 1) := by decide +kernel
theorem dX8_releaseAll_28 : decode cX8_releaseAll 28 = .ok (.putfield 63, 3) := by decide +kernel
theorem dX8_releaseAll_31 : decode cX8_releaseAll 31 = .ok (.aload_n 1, 1) := by decide +kernel
theorem dX8_releaseAll_32 : decode cX8_releaseAll 32 = .ok (.aconst_null, 1) := by decide +kernel
theorem dX8_releaseAll_33 : decode cX8_releaseAll 33 = .ok (.putfield 58, 3) := by decide +kernel
theorem dX8_releaseAll_36 : decode cX8_releaseAll 36 = .ok (.aload_n 1, 1) := by decide +kernel
theorem dX8_releaseAll_37 : decode cX8_releaseAll 37 = .ok (.iconst 0, 1) := by decide +kernel
theorem dX8_releaseAll_38 : decode cX8_releaseAll 38 = .ok (.putfield 66, 3) := by decide +kernel
theorem dX8_releaseAll_41 : decode cX8_releaseAll 41 = .ok (.return_, 1) := by decide +kernel
def ww_X8_releaseAll : List Cond := [.fieldLink RX8 58 "StreamHouse$Chain" "last" "LStreamHouse$Cell;", .fieldLink RX8 63 "StreamHouse$Chain" "first" "LStreamHouse$Cell;", .fieldLink RX8 66 "StreamHouse$Chain" "size" "I"]
def wv_X8_releaseAll : List Cond := .code yX8_releaseAll cX8_releaseAll 2 none :: (ww_X8_releaseAll ++ (u_ws RX1 TX1 3 ++ []))
theorem wm_X8_releaseAll {w : Cond} (i : Nat) (h : ww_X8_releaseAll[i]? = some w) : w ∈ wv_X8_releaseAll := List.mem_cons_of_mem _ (List.mem_append_left _ (List.mem_of_getElem? h))
set_option maxRecDepth 100000 in
theorem gw_X8_releaseAll : wv_X8_releaseAll.all goodWord = true := by decide +kernel
theorem wh_X8_releaseAll_X1 : ∀ w ∈ u_ws RX1 TX1 3, w ∈ wv_X8_releaseAll := fun w h => List.mem_cons_of_mem _ (List.mem_append_right _ (List.mem_append_left _ h))
set_option maxHeartbeats 4000000 in
set_option maxRecDepth 100000 in
/-- releaseAll of an empty chain -/
theorem r_X8_releaseAll (l : Launch) (dC : Nat → ClassId) (dI : Nat → Nat → Nat) (h0 h1 : Nat) (b0 b1 b2 : Value) (sz : Nat) : Met l yX8_releaseAll wv_X8_releaseAll ({ frames := 0, cells := 0, slots := 0, locals := 0 }) (va_Pc [.ref h0, .ref h1] (fun U => U.heap.size = sz ∧ va_P (dC, dI) vwCl [(h0, .inr (8, [b0, b1, b2])), (h1, .inr (1, [.null, .null, .int 0]))] U.heap ∧ va_K (dC, dI) vwCl [] U ∧ va_D (fun _ => True) [(h0, .inr (8, [b0, b1, b2])), (h1, .inr (1, [.null, .null, .int 0]))])) (va_Qv (fun _ : Unit => True) (ar_X8_releaseAll dC dI (va_A [(h0, .inr (8, [b0, b1, b2])), (h1, .inr (1, [.null, .null, .int 0]))] sz) h0 h1 b0 b1 b2) (va_A [(h0, .inr (8, [b0, b1, b2])), (h1, .inr (1, [.null, .null, .int 0]))] sz)) 0 0 (va_A [(h0, .inr (8, [b0, b1, b2])), (h1, .inr (1, [.null, .null, .int 0]))] sz) := by
  refine Met.ofW (cc := cX8_releaseAll) (maxL := 2) (ret := none) (by decide) rfl ?_
  intro p e s m args below meth c s₁ B hml hv
  obtain ⟨rfl, hsz, hP, hK, hD0⟩ := hv
  have hx := B.exec
  have hb := B.bytes
  have hr := B.returns
  have hts := atoms_spec (ws := wv_X8_releaseAll) B.pre
  have hown : s.vm.findClass RX8 = some m.cls := findClass_of_methodNamed B.named
  have hlocks := B.notSynchronized
  subst hsz
  have hD := hD0.self (sz := s.heap.size)
  generalize hAe : va_A [(h0, .inr (8, [b0, b1, b2])), (h1, .inr (1, [.null, .null, .int 0]))] s.heap.size = A at hD ⊢
  have hA : ∀ q : Nat, s.heap.size ≤ q → A q := fun q h => by rw [← hAe]; exact Or.inr h
  have hS : va_S A s.heap s.heap [] := va_S.rf
  have hP : va_P (dC, dI) vwCl [(h0, .inr (8, [b0, b1, b2])), (h1, .inr (1, [.null, .null, .int 0]))] s.heap := hP
  have hl := lv_entry ([.ref h0, .ref h1]) (n := 2) (Nat.le_of_ble_eq_true rfl)
  rw [lg_entry_eq]
  generalize (lg_sl ([.ref h0, .ref h1]) ++ List.replicate (2 - (lg_sl ([.ref h0, .ref h1])).length) Slot.unset).toArray = ls at hl ⊢
  have hl : lv_has ls 2 [(0, .ref h0), (1, .ref h1)] := hl
  refine lv_aload_n hx hb dX8_releaseAll_0 rfl (lv_at hl 1 rfl) ?_
  refine va_get (D := (dC, dI)) (ci := 1) (v := .null) (C := RX1) (T := TX1) (N := 3) hx hb hts wh_X8_releaseAll_X1 hown hK hP 1 rfl rfl 1 (by decide) (hts (.fieldLink RX8 58 "StreamHouse$Chain" "last" "LStreamHouse$Cell;") (wm_X8_releaseAll 0 rfl)) (fun _ h9 => h9) rfl dX8_releaseAll_1 ?_
  refine lv_ifnullN (tgt := 26) hx hb dX8_releaseAll_4 (by decide) ?_
  refine lv_aload_n hx hb dX8_releaseAll_26 rfl (lv_at hl 1 rfl) ?_
  refine lv_null hx hb dX8_releaseAll_27 ?_
  refine va_put (D := (dC, dI)) (ci := 1) (v := .null) (ty := .object "StreamHouse$Cell") (C := RX1) (T := TX1) (N := 3) hx hb hts wh_X8_releaseAll_X1 tyX1 tyX1_ok nmX1 hown hK hP hD hS 1 rfl rfl 0 (by decide) (hts (.fieldLink RX8 63 "StreamHouse$Chain" "first" "LStreamHouse$Cell;") (wm_X8_releaseAll 1 rfl)) (fun _ h9 => h9) rfl (by decide +kernel) rfl rfl (Nat.le_of_ble_eq_true rfl) dX8_releaseAll_28 (fun H locs hP hD hS => ?_)
  have hP : va_P (dC, dI) vwCl [(h0, .inr (8, [b0, b1, b2])), (h1, .inr (1, [.null, .null, .int 0]))] H := hP
  have hD : va_D A [(h0, .inr (8, [b0, b1, b2])), (h1, .inr (1, [.null, .null, .int 0]))] := hD
  refine lv_aload_n hx hb dX8_releaseAll_31 rfl (lv_at hl 1 rfl) ?_
  refine lv_null hx hb dX8_releaseAll_32 ?_
  refine va_put (D := (dC, dI)) (ci := 1) (v := .null) (ty := .object "StreamHouse$Cell") (C := RX1) (T := TX1) (N := 3) hx hb hts wh_X8_releaseAll_X1 tyX1 tyX1_ok nmX1 hown hK hP hD hS 1 rfl rfl 1 (by decide) (hts (.fieldLink RX8 58 "StreamHouse$Chain" "last" "LStreamHouse$Cell;") (wm_X8_releaseAll 0 rfl)) (fun _ h9 => h9) rfl (by decide +kernel) rfl rfl (Nat.le_of_ble_eq_true rfl) dX8_releaseAll_33 (fun H locs hP hD hS => ?_)
  have hP : va_P (dC, dI) vwCl [(h0, .inr (8, [b0, b1, b2])), (h1, .inr (1, [.null, .null, .int 0]))] H := hP
  have hD : va_D A [(h0, .inr (8, [b0, b1, b2])), (h1, .inr (1, [.null, .null, .int 0]))] := hD
  refine lv_aload_n hx hb dX8_releaseAll_36 rfl (lv_at hl 1 rfl) ?_
  refine lv_iconst (v := 0) hx hb dX8_releaseAll_37 (by decide) ?_
  refine va_put (D := (dC, dI)) (ci := 1) (v := .int 0) (ty := .int) (C := RX1) (T := TX1) (N := 3) hx hb hts wh_X8_releaseAll_X1 tyX1 tyX1_ok nmX1 hown hK hP hD hS 1 rfl rfl 2 (by decide) (hts (.fieldLink RX8 66 "StreamHouse$Chain" "size" "I") (wm_X8_releaseAll 2 rfl)) (fun _ h9 => h9) rfl (by decide +kernel) rfl rfl (Nat.le_of_ble_eq_true rfl) dX8_releaseAll_38 (fun H locs hP hD hS => ?_)
  have hP : va_P (dC, dI) vwCl [(h0, .inr (8, [b0, b1, b2])), (h1, .inr (1, [.null, .null, .int 0]))] H := hP
  have hD : va_D A [(h0, .inr (8, [b0, b1, b2])), (h1, .inr (1, [.null, .null, .int 0]))] := hD
  have hP9 := hP.sub (ws' := [(h0, .inr (8, [b0, b1, b2])), (h1, .inr (1, [.null, .null, .int 0]))]) [0, 1] rfl
  have hD9 := hD.sub (ws' := [(h0, .inr (8, [b0, b1, b2])), (h1, .inr (1, [.null, .null, .int 0]))]) [0, 1] (by decide) rfl
  have hK9 := hK.sub (tys' := []) [] rfl
  refine W.widen (k := 0) (n := 0) (by decide) (by decide) ?_
  exact W.vret hx hb hr (fun t ht hW => ⟨⟨(), rfl, trivial, by rw [ht]; exact hP9, va_K.moved hW.alike hK9, hD9⟩, hS.F ht⟩) hS.2.2 dX8_releaseAll_41

abbrev ar_X3_releaseParts (dC : Nat → ClassId) (dI : Nat → Nat → Nat) (A : Nat → Prop) (h0 h1 : Nat) (cB : ClassId) (_ : Unit) (t : State) : Prop := va_P (dC, dI) vwCl [(h1, .inl (cB, 64, .inr (.inr (.inr (.inr (fun _ => none))))))] t.heap ∧ va_K (dC, dI) vwCl [(cB, .object RX10)] t ∧ va_D A [(h1, .inl (cB, 64, .inr (.inr (.inr (.inr (fun _ => none))))))]
theorem dX3_releaseParts_0 : decode cX3_releaseParts 0 = .ok (.iconst 0, 1) := by decide +kernel
theorem dX3_releaseParts_1 : decode cX3_releaseParts 1 = .ok (.istore_n 2, 1) := by decide +kernel
theorem dX3_releaseParts_2 : decode cX3_releaseParts 2 = .ok (.iload_n 2, 1) := by decide +kernel
theorem dX3_releaseParts_3 : decode cX3_releaseParts 3 = .ok (.aload_n 1, 1) := by decide +kernel
theorem dX3_releaseParts_4 : decode cX3_releaseParts 4 = .ok (.arraylength, 1) := by decide +kernel
theorem dX3_releaseParts_5 : decode cX3_releaseParts 5 = .ok (.if_icmp .ge 35, 3) := by decide +kernel
theorem dX3_releaseParts_8 : decode cX3_releaseParts 8 = .ok (.aload_n 1, 1) := by decide +kernel
theorem dX3_releaseParts_9 : decode cX3_releaseParts 9 = .ok (.iload_n 2, 1) := by decide +kernel
theorem dX3_releaseParts_10 : decode cX3_releaseParts 10 = .ok (.aaload, 1) := by decide +kernel
theorem dX3_releaseParts_11 : decode cX3_releaseParts 11 = .ok (.ifnull 23, 3) := by decide +kernel
theorem dX3_releaseParts_34 : decode cX3_releaseParts 34 = .ok (.iinc 2 1, 3) := by decide +kernel
theorem dX3_releaseParts_37 : decode cX3_releaseParts 37 = .ok (.goto (-35), 3) := by decide +kernel
theorem dX3_releaseParts_40 : decode cX3_releaseParts 40 = .ok (.return_, 1) := by decide +kernel
def ww_X3_releaseParts : List Cond := []
def wv_X3_releaseParts : List Cond := .code yX3_releaseParts cX3_releaseParts 3 none :: (ww_X3_releaseParts ++ [])
theorem wm_X3_releaseParts {w : Cond} (i : Nat) (h : ww_X3_releaseParts[i]? = some w) : w ∈ wv_X3_releaseParts := List.mem_cons_of_mem _ (List.mem_append_left _ (List.mem_of_getElem? h))
set_option maxRecDepth 100000 in
theorem gw_X3_releaseParts : wv_X3_releaseParts.all goodWord = true := by decide +kernel
set_option maxHeartbeats 4000000 in
set_option maxRecDepth 100000 in
/-- releaseParts of a row without parts -/
theorem r_X3_releaseParts (l : Launch) (dC : Nat → ClassId) (dI : Nat → Nat → Nat) (h0 h1 : Nat) (cB : ClassId) (sz : Nat) : Met l yX3_releaseParts wv_X3_releaseParts ({ frames := 0, cells := 0, slots := 0, locals := 0 }) (va_Pc [.ref h0, .ref h1] (fun U => U.heap.size = sz ∧ va_P (dC, dI) vwCl [(h1, .inl (cB, 64, .inr (.inr (.inr (.inr (fun _ => none))))))] U.heap ∧ va_K (dC, dI) vwCl [(cB, .object RX10)] U ∧ va_D (fun _ => True) [(h1, .inl (cB, 64, .inr (.inr (.inr (.inr (fun _ => none))))))])) (va_Qv (fun _ : Unit => True) (ar_X3_releaseParts dC dI (va_A [(h1, .inl (cB, 64, .inr (.inr (.inr (.inr (fun _ => none))))))] sz) h0 h1 cB) (va_A [(h1, .inl (cB, 64, .inr (.inr (.inr (.inr (fun _ => none))))))] sz)) 0 0 (va_A [(h1, .inl (cB, 64, .inr (.inr (.inr (.inr (fun _ => none))))))] sz) := by
  refine Met.ofW (cc := cX3_releaseParts) (maxL := 3) (ret := none) (by decide) rfl ?_
  intro p e s m args below meth c s₁ B hml hv
  obtain ⟨rfl, hsz, hP, hK, hD0⟩ := hv
  have hx := B.exec
  have hb := B.bytes
  have hr := B.returns
  have hts := atoms_spec (ws := wv_X3_releaseParts) B.pre
  have hown : s.vm.findClass RX3 = some m.cls := findClass_of_methodNamed B.named
  have hlocks := B.notSynchronized
  subst hsz
  have hD := hD0.self (sz := s.heap.size)
  generalize hAe : va_A [(h1, .inl (cB, 64, .inr (.inr (.inr (.inr (fun _ => none))))))] s.heap.size = A at hD ⊢
  have hA : ∀ q : Nat, s.heap.size ≤ q → A q := fun q h => by rw [← hAe]; exact Or.inr h
  have hS : va_S A s.heap s.heap [] := va_S.rf
  have hP : va_P (dC, dI) vwCl [(h1, .inl (cB, 64, .inr (.inr (.inr (.inr (fun _ => none))))))] s.heap := hP
  have hl := lv_entry ([.ref h0, .ref h1]) (n := 3) (Nat.le_of_ble_eq_true rfl)
  rw [lg_entry_eq]
  generalize (lg_sl ([.ref h0, .ref h1]) ++ List.replicate (3 - (lg_sl ([.ref h0, .ref h1])).length) Slot.unset).toArray = ls at hl ⊢
  have hl : lv_has ls 3 [(0, .ref h0), (1, .ref h1)] := hl
  refine lv_iconst (v := 0) hx hb dX3_releaseParts_0 (by decide) ?_
  refine lv_istore_n (lv' := [(2, .int 0), (0, .ref h0), (1, .ref h1)]) hx hb dX3_releaseParts_1 rfl hl (by decide) rfl (fun ls hl => ?_)
  refine lv_iload_n hx hb dX3_releaseParts_2 rfl (lv_at hl 0 rfl) ?_
  refine lv_aload_n hx hb dX3_releaseParts_3 rfl (lv_at hl 2 rfl) ?_
  refine va_alen (v := 64) hx hb hK hP 0 0 rfl rfl (show Int32.ofNat 64 = 64 by decide) dX3_releaseParts_4 ?_
  refine lv_icmp_ge (tgt := 40) hx hb dX3_releaseParts_5 (by decide) (fun h9 => absurd h9 (by decide)) (fun _ => ?_)
  refine lv_aload_n hx hb dX3_releaseParts_8 rfl (lv_at hl 2 rfl) ?_
  refine lv_iload_n hx hb dX3_releaseParts_9 rfl (lv_at hl 0 rfl) ?_
  refine va_aldq hx hb hK hP 0 0 rfl rfl (by unfold vp_in; decide) dX3_releaseParts_10 ?_
  refine W.eq (g2 := F0 m 11 ls [.null]) rfl ?_
  refine lv_ifnullN (tgt := 34) hx hb dX3_releaseParts_11 (by decide) ?_
  refine lv_iinc (k := 0) (v := 1) (lv' := [(2, .int 1), (0, .ref h0), (1, .ref h1)]) hx hb dX3_releaseParts_34 hl rfl (by decide) (by decide) rfl (fun ls hl => ?_)
  refine lv_goto (tgt := 2) hx hb dX3_releaseParts_37 (by decide) ?_
  refine lv_iload_n hx hb dX3_releaseParts_2 rfl (lv_at hl 0 rfl) ?_
  refine lv_aload_n hx hb dX3_releaseParts_3 rfl (lv_at hl 2 rfl) ?_
  refine va_alen (v := 64) hx hb hK hP 0 0 rfl rfl (show Int32.ofNat 64 = 64 by decide) dX3_releaseParts_4 ?_
  refine lv_icmp_ge (tgt := 40) hx hb dX3_releaseParts_5 (by decide) (fun h9 => absurd h9 (by decide)) (fun _ => ?_)
  refine lv_aload_n hx hb dX3_releaseParts_8 rfl (lv_at hl 2 rfl) ?_
  refine lv_iload_n hx hb dX3_releaseParts_9 rfl (lv_at hl 0 rfl) ?_
  refine va_aldq hx hb hK hP 0 0 rfl rfl (by unfold vp_in; decide) dX3_releaseParts_10 ?_
  refine W.eq (g2 := F0 m 11 ls [.null]) rfl ?_
  refine lv_ifnullN (tgt := 34) hx hb dX3_releaseParts_11 (by decide) ?_
  refine lv_iinc (k := 0) (v := 2) (lv' := [(2, .int 2), (0, .ref h0), (1, .ref h1)]) hx hb dX3_releaseParts_34 hl rfl (by decide) (by decide) rfl (fun ls hl => ?_)
  refine lv_goto (tgt := 2) hx hb dX3_releaseParts_37 (by decide) ?_
  refine lv_iload_n hx hb dX3_releaseParts_2 rfl (lv_at hl 0 rfl) ?_
  refine lv_aload_n hx hb dX3_releaseParts_3 rfl (lv_at hl 2 rfl) ?_
  refine va_alen (v := 64) hx hb hK hP 0 0 rfl rfl (show Int32.ofNat 64 = 64 by decide) dX3_releaseParts_4 ?_
  refine lv_icmp_ge (tgt := 40) hx hb dX3_releaseParts_5 (by decide) (fun h9 => absurd h9 (by decide)) (fun _ => ?_)
  refine lv_aload_n hx hb dX3_releaseParts_8 rfl (lv_at hl 2 rfl) ?_
  refine lv_iload_n hx hb dX3_releaseParts_9 rfl (lv_at hl 0 rfl) ?_
  refine va_aldq hx hb hK hP 0 0 rfl rfl (by unfold vp_in; decide) dX3_releaseParts_10 ?_
  refine W.eq (g2 := F0 m 11 ls [.null]) rfl ?_
  refine lv_ifnullN (tgt := 34) hx hb dX3_releaseParts_11 (by decide) ?_
  refine lv_iinc (k := 0) (v := 3) (lv' := [(2, .int 3), (0, .ref h0), (1, .ref h1)]) hx hb dX3_releaseParts_34 hl rfl (by decide) (by decide) rfl (fun ls hl => ?_)
  refine lv_goto (tgt := 2) hx hb dX3_releaseParts_37 (by decide) ?_
  refine lv_iload_n hx hb dX3_releaseParts_2 rfl (lv_at hl 0 rfl) ?_
  refine lv_aload_n hx hb dX3_releaseParts_3 rfl (lv_at hl 2 rfl) ?_
  refine va_alen (v := 64) hx hb hK hP 0 0 rfl rfl (show Int32.ofNat 64 = 64 by decide) dX3_releaseParts_4 ?_
  refine lv_icmp_ge (tgt := 40) hx hb dX3_releaseParts_5 (by decide) (fun h9 => absurd h9 (by decide)) (fun _ => ?_)
  refine lv_aload_n hx hb dX3_releaseParts_8 rfl (lv_at hl 2 rfl) ?_
  refine lv_iload_n hx hb dX3_releaseParts_9 rfl (lv_at hl 0 rfl) ?_
  refine va_aldq hx hb hK hP 0 0 rfl rfl (by unfold vp_in; decide) dX3_releaseParts_10 ?_
  refine W.eq (g2 := F0 m 11 ls [.null]) rfl ?_
  refine lv_ifnullN (tgt := 34) hx hb dX3_releaseParts_11 (by decide) ?_
  refine lv_iinc (k := 0) (v := 4) (lv' := [(2, .int 4), (0, .ref h0), (1, .ref h1)]) hx hb dX3_releaseParts_34 hl rfl (by decide) (by decide) rfl (fun ls hl => ?_)
  refine lv_goto (tgt := 2) hx hb dX3_releaseParts_37 (by decide) ?_
  refine lv_iload_n hx hb dX3_releaseParts_2 rfl (lv_at hl 0 rfl) ?_
  refine lv_aload_n hx hb dX3_releaseParts_3 rfl (lv_at hl 2 rfl) ?_
  refine va_alen (v := 64) hx hb hK hP 0 0 rfl rfl (show Int32.ofNat 64 = 64 by decide) dX3_releaseParts_4 ?_
  refine lv_icmp_ge (tgt := 40) hx hb dX3_releaseParts_5 (by decide) (fun h9 => absurd h9 (by decide)) (fun _ => ?_)
  refine lv_aload_n hx hb dX3_releaseParts_8 rfl (lv_at hl 2 rfl) ?_
  refine lv_iload_n hx hb dX3_releaseParts_9 rfl (lv_at hl 0 rfl) ?_
  refine va_aldq hx hb hK hP 0 0 rfl rfl (by unfold vp_in; decide) dX3_releaseParts_10 ?_
  refine W.eq (g2 := F0 m 11 ls [.null]) rfl ?_
  refine lv_ifnullN (tgt := 34) hx hb dX3_releaseParts_11 (by decide) ?_
  refine lv_iinc (k := 0) (v := 5) (lv' := [(2, .int 5), (0, .ref h0), (1, .ref h1)]) hx hb dX3_releaseParts_34 hl rfl (by decide) (by decide) rfl (fun ls hl => ?_)
  refine lv_goto (tgt := 2) hx hb dX3_releaseParts_37 (by decide) ?_
  refine lv_iload_n hx hb dX3_releaseParts_2 rfl (lv_at hl 0 rfl) ?_
  refine lv_aload_n hx hb dX3_releaseParts_3 rfl (lv_at hl 2 rfl) ?_
  refine va_alen (v := 64) hx hb hK hP 0 0 rfl rfl (show Int32.ofNat 64 = 64 by decide) dX3_releaseParts_4 ?_
  refine lv_icmp_ge (tgt := 40) hx hb dX3_releaseParts_5 (by decide) (fun h9 => absurd h9 (by decide)) (fun _ => ?_)
  refine lv_aload_n hx hb dX3_releaseParts_8 rfl (lv_at hl 2 rfl) ?_
  refine lv_iload_n hx hb dX3_releaseParts_9 rfl (lv_at hl 0 rfl) ?_
  refine va_aldq hx hb hK hP 0 0 rfl rfl (by unfold vp_in; decide) dX3_releaseParts_10 ?_
  refine W.eq (g2 := F0 m 11 ls [.null]) rfl ?_
  refine lv_ifnullN (tgt := 34) hx hb dX3_releaseParts_11 (by decide) ?_
  refine lv_iinc (k := 0) (v := 6) (lv' := [(2, .int 6), (0, .ref h0), (1, .ref h1)]) hx hb dX3_releaseParts_34 hl rfl (by decide) (by decide) rfl (fun ls hl => ?_)
  refine lv_goto (tgt := 2) hx hb dX3_releaseParts_37 (by decide) ?_
  refine lv_iload_n hx hb dX3_releaseParts_2 rfl (lv_at hl 0 rfl) ?_
  refine lv_aload_n hx hb dX3_releaseParts_3 rfl (lv_at hl 2 rfl) ?_
  refine va_alen (v := 64) hx hb hK hP 0 0 rfl rfl (show Int32.ofNat 64 = 64 by decide) dX3_releaseParts_4 ?_
  refine lv_icmp_ge (tgt := 40) hx hb dX3_releaseParts_5 (by decide) (fun h9 => absurd h9 (by decide)) (fun _ => ?_)
  refine lv_aload_n hx hb dX3_releaseParts_8 rfl (lv_at hl 2 rfl) ?_
  refine lv_iload_n hx hb dX3_releaseParts_9 rfl (lv_at hl 0 rfl) ?_
  refine va_aldq hx hb hK hP 0 0 rfl rfl (by unfold vp_in; decide) dX3_releaseParts_10 ?_
  refine W.eq (g2 := F0 m 11 ls [.null]) rfl ?_
  refine lv_ifnullN (tgt := 34) hx hb dX3_releaseParts_11 (by decide) ?_
  refine lv_iinc (k := 0) (v := 7) (lv' := [(2, .int 7), (0, .ref h0), (1, .ref h1)]) hx hb dX3_releaseParts_34 hl rfl (by decide) (by decide) rfl (fun ls hl => ?_)
  refine lv_goto (tgt := 2) hx hb dX3_releaseParts_37 (by decide) ?_
  refine lv_iload_n hx hb dX3_releaseParts_2 rfl (lv_at hl 0 rfl) ?_
  refine lv_aload_n hx hb dX3_releaseParts_3 rfl (lv_at hl 2 rfl) ?_
  refine va_alen (v := 64) hx hb hK hP 0 0 rfl rfl (show Int32.ofNat 64 = 64 by decide) dX3_releaseParts_4 ?_
  refine lv_icmp_ge (tgt := 40) hx hb dX3_releaseParts_5 (by decide) (fun h9 => absurd h9 (by decide)) (fun _ => ?_)
  refine lv_aload_n hx hb dX3_releaseParts_8 rfl (lv_at hl 2 rfl) ?_
  refine lv_iload_n hx hb dX3_releaseParts_9 rfl (lv_at hl 0 rfl) ?_
  refine va_aldq hx hb hK hP 0 0 rfl rfl (by unfold vp_in; decide) dX3_releaseParts_10 ?_
  refine W.eq (g2 := F0 m 11 ls [.null]) rfl ?_
  refine lv_ifnullN (tgt := 34) hx hb dX3_releaseParts_11 (by decide) ?_
  refine lv_iinc (k := 0) (v := 8) (lv' := [(2, .int 8), (0, .ref h0), (1, .ref h1)]) hx hb dX3_releaseParts_34 hl rfl (by decide) (by decide) rfl (fun ls hl => ?_)
  refine lv_goto (tgt := 2) hx hb dX3_releaseParts_37 (by decide) ?_
  refine lv_iload_n hx hb dX3_releaseParts_2 rfl (lv_at hl 0 rfl) ?_
  refine lv_aload_n hx hb dX3_releaseParts_3 rfl (lv_at hl 2 rfl) ?_
  refine va_alen (v := 64) hx hb hK hP 0 0 rfl rfl (show Int32.ofNat 64 = 64 by decide) dX3_releaseParts_4 ?_
  refine lv_icmp_ge (tgt := 40) hx hb dX3_releaseParts_5 (by decide) (fun h9 => absurd h9 (by decide)) (fun _ => ?_)
  refine lv_aload_n hx hb dX3_releaseParts_8 rfl (lv_at hl 2 rfl) ?_
  refine lv_iload_n hx hb dX3_releaseParts_9 rfl (lv_at hl 0 rfl) ?_
  refine va_aldq hx hb hK hP 0 0 rfl rfl (by unfold vp_in; decide) dX3_releaseParts_10 ?_
  refine W.eq (g2 := F0 m 11 ls [.null]) rfl ?_
  refine lv_ifnullN (tgt := 34) hx hb dX3_releaseParts_11 (by decide) ?_
  refine lv_iinc (k := 0) (v := 9) (lv' := [(2, .int 9), (0, .ref h0), (1, .ref h1)]) hx hb dX3_releaseParts_34 hl rfl (by decide) (by decide) rfl (fun ls hl => ?_)
  refine lv_goto (tgt := 2) hx hb dX3_releaseParts_37 (by decide) ?_
  refine lv_iload_n hx hb dX3_releaseParts_2 rfl (lv_at hl 0 rfl) ?_
  refine lv_aload_n hx hb dX3_releaseParts_3 rfl (lv_at hl 2 rfl) ?_
  refine va_alen (v := 64) hx hb hK hP 0 0 rfl rfl (show Int32.ofNat 64 = 64 by decide) dX3_releaseParts_4 ?_
  refine lv_icmp_ge (tgt := 40) hx hb dX3_releaseParts_5 (by decide) (fun h9 => absurd h9 (by decide)) (fun _ => ?_)
  refine lv_aload_n hx hb dX3_releaseParts_8 rfl (lv_at hl 2 rfl) ?_
  refine lv_iload_n hx hb dX3_releaseParts_9 rfl (lv_at hl 0 rfl) ?_
  refine va_aldq hx hb hK hP 0 0 rfl rfl (by unfold vp_in; decide) dX3_releaseParts_10 ?_
  refine W.eq (g2 := F0 m 11 ls [.null]) rfl ?_
  refine lv_ifnullN (tgt := 34) hx hb dX3_releaseParts_11 (by decide) ?_
  refine lv_iinc (k := 0) (v := 10) (lv' := [(2, .int 10), (0, .ref h0), (1, .ref h1)]) hx hb dX3_releaseParts_34 hl rfl (by decide) (by decide) rfl (fun ls hl => ?_)
  refine lv_goto (tgt := 2) hx hb dX3_releaseParts_37 (by decide) ?_
  refine lv_iload_n hx hb dX3_releaseParts_2 rfl (lv_at hl 0 rfl) ?_
  refine lv_aload_n hx hb dX3_releaseParts_3 rfl (lv_at hl 2 rfl) ?_
  refine va_alen (v := 64) hx hb hK hP 0 0 rfl rfl (show Int32.ofNat 64 = 64 by decide) dX3_releaseParts_4 ?_
  refine lv_icmp_ge (tgt := 40) hx hb dX3_releaseParts_5 (by decide) (fun h9 => absurd h9 (by decide)) (fun _ => ?_)
  refine lv_aload_n hx hb dX3_releaseParts_8 rfl (lv_at hl 2 rfl) ?_
  refine lv_iload_n hx hb dX3_releaseParts_9 rfl (lv_at hl 0 rfl) ?_
  refine va_aldq hx hb hK hP 0 0 rfl rfl (by unfold vp_in; decide) dX3_releaseParts_10 ?_
  refine W.eq (g2 := F0 m 11 ls [.null]) rfl ?_
  refine lv_ifnullN (tgt := 34) hx hb dX3_releaseParts_11 (by decide) ?_
  refine lv_iinc (k := 0) (v := 11) (lv' := [(2, .int 11), (0, .ref h0), (1, .ref h1)]) hx hb dX3_releaseParts_34 hl rfl (by decide) (by decide) rfl (fun ls hl => ?_)
  refine lv_goto (tgt := 2) hx hb dX3_releaseParts_37 (by decide) ?_
  refine lv_iload_n hx hb dX3_releaseParts_2 rfl (lv_at hl 0 rfl) ?_
  refine lv_aload_n hx hb dX3_releaseParts_3 rfl (lv_at hl 2 rfl) ?_
  refine va_alen (v := 64) hx hb hK hP 0 0 rfl rfl (show Int32.ofNat 64 = 64 by decide) dX3_releaseParts_4 ?_
  refine lv_icmp_ge (tgt := 40) hx hb dX3_releaseParts_5 (by decide) (fun h9 => absurd h9 (by decide)) (fun _ => ?_)
  refine lv_aload_n hx hb dX3_releaseParts_8 rfl (lv_at hl 2 rfl) ?_
  refine lv_iload_n hx hb dX3_releaseParts_9 rfl (lv_at hl 0 rfl) ?_
  refine va_aldq hx hb hK hP 0 0 rfl rfl (by unfold vp_in; decide) dX3_releaseParts_10 ?_
  refine W.eq (g2 := F0 m 11 ls [.null]) rfl ?_
  refine lv_ifnullN (tgt := 34) hx hb dX3_releaseParts_11 (by decide) ?_
  refine lv_iinc (k := 0) (v := 12) (lv' := [(2, .int 12), (0, .ref h0), (1, .ref h1)]) hx hb dX3_releaseParts_34 hl rfl (by decide) (by decide) rfl (fun ls hl => ?_)
  refine lv_goto (tgt := 2) hx hb dX3_releaseParts_37 (by decide) ?_
  refine lv_iload_n hx hb dX3_releaseParts_2 rfl (lv_at hl 0 rfl) ?_
  refine lv_aload_n hx hb dX3_releaseParts_3 rfl (lv_at hl 2 rfl) ?_
  refine va_alen (v := 64) hx hb hK hP 0 0 rfl rfl (show Int32.ofNat 64 = 64 by decide) dX3_releaseParts_4 ?_
  refine lv_icmp_ge (tgt := 40) hx hb dX3_releaseParts_5 (by decide) (fun h9 => absurd h9 (by decide)) (fun _ => ?_)
  refine lv_aload_n hx hb dX3_releaseParts_8 rfl (lv_at hl 2 rfl) ?_
  refine lv_iload_n hx hb dX3_releaseParts_9 rfl (lv_at hl 0 rfl) ?_
  refine va_aldq hx hb hK hP 0 0 rfl rfl (by unfold vp_in; decide) dX3_releaseParts_10 ?_
  refine W.eq (g2 := F0 m 11 ls [.null]) rfl ?_
  refine lv_ifnullN (tgt := 34) hx hb dX3_releaseParts_11 (by decide) ?_
  refine lv_iinc (k := 0) (v := 13) (lv' := [(2, .int 13), (0, .ref h0), (1, .ref h1)]) hx hb dX3_releaseParts_34 hl rfl (by decide) (by decide) rfl (fun ls hl => ?_)
  refine lv_goto (tgt := 2) hx hb dX3_releaseParts_37 (by decide) ?_
  refine lv_iload_n hx hb dX3_releaseParts_2 rfl (lv_at hl 0 rfl) ?_
  refine lv_aload_n hx hb dX3_releaseParts_3 rfl (lv_at hl 2 rfl) ?_
  refine va_alen (v := 64) hx hb hK hP 0 0 rfl rfl (show Int32.ofNat 64 = 64 by decide) dX3_releaseParts_4 ?_
  refine lv_icmp_ge (tgt := 40) hx hb dX3_releaseParts_5 (by decide) (fun h9 => absurd h9 (by decide)) (fun _ => ?_)
  refine lv_aload_n hx hb dX3_releaseParts_8 rfl (lv_at hl 2 rfl) ?_
  refine lv_iload_n hx hb dX3_releaseParts_9 rfl (lv_at hl 0 rfl) ?_
  refine va_aldq hx hb hK hP 0 0 rfl rfl (by unfold vp_in; decide) dX3_releaseParts_10 ?_
  refine W.eq (g2 := F0 m 11 ls [.null]) rfl ?_
  refine lv_ifnullN (tgt := 34) hx hb dX3_releaseParts_11 (by decide) ?_
  refine lv_iinc (k := 0) (v := 14) (lv' := [(2, .int 14), (0, .ref h0), (1, .ref h1)]) hx hb dX3_releaseParts_34 hl rfl (by decide) (by decide) rfl (fun ls hl => ?_)
  refine lv_goto (tgt := 2) hx hb dX3_releaseParts_37 (by decide) ?_
  refine lv_iload_n hx hb dX3_releaseParts_2 rfl (lv_at hl 0 rfl) ?_
  refine lv_aload_n hx hb dX3_releaseParts_3 rfl (lv_at hl 2 rfl) ?_
  refine va_alen (v := 64) hx hb hK hP 0 0 rfl rfl (show Int32.ofNat 64 = 64 by decide) dX3_releaseParts_4 ?_
  refine lv_icmp_ge (tgt := 40) hx hb dX3_releaseParts_5 (by decide) (fun h9 => absurd h9 (by decide)) (fun _ => ?_)
  refine lv_aload_n hx hb dX3_releaseParts_8 rfl (lv_at hl 2 rfl) ?_
  refine lv_iload_n hx hb dX3_releaseParts_9 rfl (lv_at hl 0 rfl) ?_
  refine va_aldq hx hb hK hP 0 0 rfl rfl (by unfold vp_in; decide) dX3_releaseParts_10 ?_
  refine W.eq (g2 := F0 m 11 ls [.null]) rfl ?_
  refine lv_ifnullN (tgt := 34) hx hb dX3_releaseParts_11 (by decide) ?_
  refine lv_iinc (k := 0) (v := 15) (lv' := [(2, .int 15), (0, .ref h0), (1, .ref h1)]) hx hb dX3_releaseParts_34 hl rfl (by decide) (by decide) rfl (fun ls hl => ?_)
  refine lv_goto (tgt := 2) hx hb dX3_releaseParts_37 (by decide) ?_
  refine lv_iload_n hx hb dX3_releaseParts_2 rfl (lv_at hl 0 rfl) ?_
  refine lv_aload_n hx hb dX3_releaseParts_3 rfl (lv_at hl 2 rfl) ?_
  refine va_alen (v := 64) hx hb hK hP 0 0 rfl rfl (show Int32.ofNat 64 = 64 by decide) dX3_releaseParts_4 ?_
  refine lv_icmp_ge (tgt := 40) hx hb dX3_releaseParts_5 (by decide) (fun h9 => absurd h9 (by decide)) (fun _ => ?_)
  refine lv_aload_n hx hb dX3_releaseParts_8 rfl (lv_at hl 2 rfl) ?_
  refine lv_iload_n hx hb dX3_releaseParts_9 rfl (lv_at hl 0 rfl) ?_
  refine va_aldq hx hb hK hP 0 0 rfl rfl (by unfold vp_in; decide) dX3_releaseParts_10 ?_
  refine W.eq (g2 := F0 m 11 ls [.null]) rfl ?_
  refine lv_ifnullN (tgt := 34) hx hb dX3_releaseParts_11 (by decide) ?_
  refine lv_iinc (k := 0) (v := 16) (lv' := [(2, .int 16), (0, .ref h0), (1, .ref h1)]) hx hb dX3_releaseParts_34 hl rfl (by decide) (by decide) rfl (fun ls hl => ?_)
  refine lv_goto (tgt := 2) hx hb dX3_releaseParts_37 (by decide) ?_
  refine lv_iload_n hx hb dX3_releaseParts_2 rfl (lv_at hl 0 rfl) ?_
  refine lv_aload_n hx hb dX3_releaseParts_3 rfl (lv_at hl 2 rfl) ?_
  refine va_alen (v := 64) hx hb hK hP 0 0 rfl rfl (show Int32.ofNat 64 = 64 by decide) dX3_releaseParts_4 ?_
  refine lv_icmp_ge (tgt := 40) hx hb dX3_releaseParts_5 (by decide) (fun h9 => absurd h9 (by decide)) (fun _ => ?_)
  refine lv_aload_n hx hb dX3_releaseParts_8 rfl (lv_at hl 2 rfl) ?_
  refine lv_iload_n hx hb dX3_releaseParts_9 rfl (lv_at hl 0 rfl) ?_
  refine va_aldq hx hb hK hP 0 0 rfl rfl (by unfold vp_in; decide) dX3_releaseParts_10 ?_
  refine W.eq (g2 := F0 m 11 ls [.null]) rfl ?_
  refine lv_ifnullN (tgt := 34) hx hb dX3_releaseParts_11 (by decide) ?_
  refine lv_iinc (k := 0) (v := 17) (lv' := [(2, .int 17), (0, .ref h0), (1, .ref h1)]) hx hb dX3_releaseParts_34 hl rfl (by decide) (by decide) rfl (fun ls hl => ?_)
  refine lv_goto (tgt := 2) hx hb dX3_releaseParts_37 (by decide) ?_
  refine lv_iload_n hx hb dX3_releaseParts_2 rfl (lv_at hl 0 rfl) ?_
  refine lv_aload_n hx hb dX3_releaseParts_3 rfl (lv_at hl 2 rfl) ?_
  refine va_alen (v := 64) hx hb hK hP 0 0 rfl rfl (show Int32.ofNat 64 = 64 by decide) dX3_releaseParts_4 ?_
  refine lv_icmp_ge (tgt := 40) hx hb dX3_releaseParts_5 (by decide) (fun h9 => absurd h9 (by decide)) (fun _ => ?_)
  refine lv_aload_n hx hb dX3_releaseParts_8 rfl (lv_at hl 2 rfl) ?_
  refine lv_iload_n hx hb dX3_releaseParts_9 rfl (lv_at hl 0 rfl) ?_
  refine va_aldq hx hb hK hP 0 0 rfl rfl (by unfold vp_in; decide) dX3_releaseParts_10 ?_
  refine W.eq (g2 := F0 m 11 ls [.null]) rfl ?_
  refine lv_ifnullN (tgt := 34) hx hb dX3_releaseParts_11 (by decide) ?_
  refine lv_iinc (k := 0) (v := 18) (lv' := [(2, .int 18), (0, .ref h0), (1, .ref h1)]) hx hb dX3_releaseParts_34 hl rfl (by decide) (by decide) rfl (fun ls hl => ?_)
  refine lv_goto (tgt := 2) hx hb dX3_releaseParts_37 (by decide) ?_
  refine lv_iload_n hx hb dX3_releaseParts_2 rfl (lv_at hl 0 rfl) ?_
  refine lv_aload_n hx hb dX3_releaseParts_3 rfl (lv_at hl 2 rfl) ?_
  refine va_alen (v := 64) hx hb hK hP 0 0 rfl rfl (show Int32.ofNat 64 = 64 by decide) dX3_releaseParts_4 ?_
  refine lv_icmp_ge (tgt := 40) hx hb dX3_releaseParts_5 (by decide) (fun h9 => absurd h9 (by decide)) (fun _ => ?_)
  refine lv_aload_n hx hb dX3_releaseParts_8 rfl (lv_at hl 2 rfl) ?_
  refine lv_iload_n hx hb dX3_releaseParts_9 rfl (lv_at hl 0 rfl) ?_
  refine va_aldq hx hb hK hP 0 0 rfl rfl (by unfold vp_in; decide) dX3_releaseParts_10 ?_
  refine W.eq (g2 := F0 m 11 ls [.null]) rfl ?_
  refine lv_ifnullN (tgt := 34) hx hb dX3_releaseParts_11 (by decide) ?_
  refine lv_iinc (k := 0) (v := 19) (lv' := [(2, .int 19), (0, .ref h0), (1, .ref h1)]) hx hb dX3_releaseParts_34 hl rfl (by decide) (by decide) rfl (fun ls hl => ?_)
  refine lv_goto (tgt := 2) hx hb dX3_releaseParts_37 (by decide) ?_
  refine lv_iload_n hx hb dX3_releaseParts_2 rfl (lv_at hl 0 rfl) ?_
  refine lv_aload_n hx hb dX3_releaseParts_3 rfl (lv_at hl 2 rfl) ?_
  refine va_alen (v := 64) hx hb hK hP 0 0 rfl rfl (show Int32.ofNat 64 = 64 by decide) dX3_releaseParts_4 ?_
  refine lv_icmp_ge (tgt := 40) hx hb dX3_releaseParts_5 (by decide) (fun h9 => absurd h9 (by decide)) (fun _ => ?_)
  refine lv_aload_n hx hb dX3_releaseParts_8 rfl (lv_at hl 2 rfl) ?_
  refine lv_iload_n hx hb dX3_releaseParts_9 rfl (lv_at hl 0 rfl) ?_
  refine va_aldq hx hb hK hP 0 0 rfl rfl (by unfold vp_in; decide) dX3_releaseParts_10 ?_
  refine W.eq (g2 := F0 m 11 ls [.null]) rfl ?_
  refine lv_ifnullN (tgt := 34) hx hb dX3_releaseParts_11 (by decide) ?_
  refine lv_iinc (k := 0) (v := 20) (lv' := [(2, .int 20), (0, .ref h0), (1, .ref h1)]) hx hb dX3_releaseParts_34 hl rfl (by decide) (by decide) rfl (fun ls hl => ?_)
  refine lv_goto (tgt := 2) hx hb dX3_releaseParts_37 (by decide) ?_
  refine lv_iload_n hx hb dX3_releaseParts_2 rfl (lv_at hl 0 rfl) ?_
  refine lv_aload_n hx hb dX3_releaseParts_3 rfl (lv_at hl 2 rfl) ?_
  refine va_alen (v := 64) hx hb hK hP 0 0 rfl rfl (show Int32.ofNat 64 = 64 by decide) dX3_releaseParts_4 ?_
  refine lv_icmp_ge (tgt := 40) hx hb dX3_releaseParts_5 (by decide) (fun h9 => absurd h9 (by decide)) (fun _ => ?_)
  refine lv_aload_n hx hb dX3_releaseParts_8 rfl (lv_at hl 2 rfl) ?_
  refine lv_iload_n hx hb dX3_releaseParts_9 rfl (lv_at hl 0 rfl) ?_
  refine va_aldq hx hb hK hP 0 0 rfl rfl (by unfold vp_in; decide) dX3_releaseParts_10 ?_
  refine W.eq (g2 := F0 m 11 ls [.null]) rfl ?_
  refine lv_ifnullN (tgt := 34) hx hb dX3_releaseParts_11 (by decide) ?_
  refine lv_iinc (k := 0) (v := 21) (lv' := [(2, .int 21), (0, .ref h0), (1, .ref h1)]) hx hb dX3_releaseParts_34 hl rfl (by decide) (by decide) rfl (fun ls hl => ?_)
  refine lv_goto (tgt := 2) hx hb dX3_releaseParts_37 (by decide) ?_
  refine lv_iload_n hx hb dX3_releaseParts_2 rfl (lv_at hl 0 rfl) ?_
  refine lv_aload_n hx hb dX3_releaseParts_3 rfl (lv_at hl 2 rfl) ?_
  refine va_alen (v := 64) hx hb hK hP 0 0 rfl rfl (show Int32.ofNat 64 = 64 by decide) dX3_releaseParts_4 ?_
  refine lv_icmp_ge (tgt := 40) hx hb dX3_releaseParts_5 (by decide) (fun h9 => absurd h9 (by decide)) (fun _ => ?_)
  refine lv_aload_n hx hb dX3_releaseParts_8 rfl (lv_at hl 2 rfl) ?_
  refine lv_iload_n hx hb dX3_releaseParts_9 rfl (lv_at hl 0 rfl) ?_
  refine va_aldq hx hb hK hP 0 0 rfl rfl (by unfold vp_in; decide) dX3_releaseParts_10 ?_
  refine W.eq (g2 := F0 m 11 ls [.null]) rfl ?_
  refine lv_ifnullN (tgt := 34) hx hb dX3_releaseParts_11 (by decide) ?_
  refine lv_iinc (k := 0) (v := 22) (lv' := [(2, .int 22), (0, .ref h0), (1, .ref h1)]) hx hb dX3_releaseParts_34 hl rfl (by decide) (by decide) rfl (fun ls hl => ?_)
  refine lv_goto (tgt := 2) hx hb dX3_releaseParts_37 (by decide) ?_
  refine lv_iload_n hx hb dX3_releaseParts_2 rfl (lv_at hl 0 rfl) ?_
  refine lv_aload_n hx hb dX3_releaseParts_3 rfl (lv_at hl 2 rfl) ?_
  refine va_alen (v := 64) hx hb hK hP 0 0 rfl rfl (show Int32.ofNat 64 = 64 by decide) dX3_releaseParts_4 ?_
  refine lv_icmp_ge (tgt := 40) hx hb dX3_releaseParts_5 (by decide) (fun h9 => absurd h9 (by decide)) (fun _ => ?_)
  refine lv_aload_n hx hb dX3_releaseParts_8 rfl (lv_at hl 2 rfl) ?_
  refine lv_iload_n hx hb dX3_releaseParts_9 rfl (lv_at hl 0 rfl) ?_
  refine va_aldq hx hb hK hP 0 0 rfl rfl (by unfold vp_in; decide) dX3_releaseParts_10 ?_
  refine W.eq (g2 := F0 m 11 ls [.null]) rfl ?_
  refine lv_ifnullN (tgt := 34) hx hb dX3_releaseParts_11 (by decide) ?_
  refine lv_iinc (k := 0) (v := 23) (lv' := [(2, .int 23), (0, .ref h0), (1, .ref h1)]) hx hb dX3_releaseParts_34 hl rfl (by decide) (by decide) rfl (fun ls hl => ?_)
  refine lv_goto (tgt := 2) hx hb dX3_releaseParts_37 (by decide) ?_
  refine lv_iload_n hx hb dX3_releaseParts_2 rfl (lv_at hl 0 rfl) ?_
  refine lv_aload_n hx hb dX3_releaseParts_3 rfl (lv_at hl 2 rfl) ?_
  refine va_alen (v := 64) hx hb hK hP 0 0 rfl rfl (show Int32.ofNat 64 = 64 by decide) dX3_releaseParts_4 ?_
  refine lv_icmp_ge (tgt := 40) hx hb dX3_releaseParts_5 (by decide) (fun h9 => absurd h9 (by decide)) (fun _ => ?_)
  refine lv_aload_n hx hb dX3_releaseParts_8 rfl (lv_at hl 2 rfl) ?_
  refine lv_iload_n hx hb dX3_releaseParts_9 rfl (lv_at hl 0 rfl) ?_
  refine va_aldq hx hb hK hP 0 0 rfl rfl (by unfold vp_in; decide) dX3_releaseParts_10 ?_
  refine W.eq (g2 := F0 m 11 ls [.null]) rfl ?_
  refine lv_ifnullN (tgt := 34) hx hb dX3_releaseParts_11 (by decide) ?_
  refine lv_iinc (k := 0) (v := 24) (lv' := [(2, .int 24), (0, .ref h0), (1, .ref h1)]) hx hb dX3_releaseParts_34 hl rfl (by decide) (by decide) rfl (fun ls hl => ?_)
  refine lv_goto (tgt := 2) hx hb dX3_releaseParts_37 (by decide) ?_
  refine lv_iload_n hx hb dX3_releaseParts_2 rfl (lv_at hl 0 rfl) ?_
  refine lv_aload_n hx hb dX3_releaseParts_3 rfl (lv_at hl 2 rfl) ?_
  refine va_alen (v := 64) hx hb hK hP 0 0 rfl rfl (show Int32.ofNat 64 = 64 by decide) dX3_releaseParts_4 ?_
  refine lv_icmp_ge (tgt := 40) hx hb dX3_releaseParts_5 (by decide) (fun h9 => absurd h9 (by decide)) (fun _ => ?_)
  refine lv_aload_n hx hb dX3_releaseParts_8 rfl (lv_at hl 2 rfl) ?_
  refine lv_iload_n hx hb dX3_releaseParts_9 rfl (lv_at hl 0 rfl) ?_
  refine va_aldq hx hb hK hP 0 0 rfl rfl (by unfold vp_in; decide) dX3_releaseParts_10 ?_
  refine W.eq (g2 := F0 m 11 ls [.null]) rfl ?_
  refine lv_ifnullN (tgt := 34) hx hb dX3_releaseParts_11 (by decide) ?_
  refine lv_iinc (k := 0) (v := 25) (lv' := [(2, .int 25), (0, .ref h0), (1, .ref h1)]) hx hb dX3_releaseParts_34 hl rfl (by decide) (by decide) rfl (fun ls hl => ?_)
  refine lv_goto (tgt := 2) hx hb dX3_releaseParts_37 (by decide) ?_
  refine lv_iload_n hx hb dX3_releaseParts_2 rfl (lv_at hl 0 rfl) ?_
  refine lv_aload_n hx hb dX3_releaseParts_3 rfl (lv_at hl 2 rfl) ?_
  refine va_alen (v := 64) hx hb hK hP 0 0 rfl rfl (show Int32.ofNat 64 = 64 by decide) dX3_releaseParts_4 ?_
  refine lv_icmp_ge (tgt := 40) hx hb dX3_releaseParts_5 (by decide) (fun h9 => absurd h9 (by decide)) (fun _ => ?_)
  refine lv_aload_n hx hb dX3_releaseParts_8 rfl (lv_at hl 2 rfl) ?_
  refine lv_iload_n hx hb dX3_releaseParts_9 rfl (lv_at hl 0 rfl) ?_
  refine va_aldq hx hb hK hP 0 0 rfl rfl (by unfold vp_in; decide) dX3_releaseParts_10 ?_
  refine W.eq (g2 := F0 m 11 ls [.null]) rfl ?_
  refine lv_ifnullN (tgt := 34) hx hb dX3_releaseParts_11 (by decide) ?_
  refine lv_iinc (k := 0) (v := 26) (lv' := [(2, .int 26), (0, .ref h0), (1, .ref h1)]) hx hb dX3_releaseParts_34 hl rfl (by decide) (by decide) rfl (fun ls hl => ?_)
  refine lv_goto (tgt := 2) hx hb dX3_releaseParts_37 (by decide) ?_
  refine lv_iload_n hx hb dX3_releaseParts_2 rfl (lv_at hl 0 rfl) ?_
  refine lv_aload_n hx hb dX3_releaseParts_3 rfl (lv_at hl 2 rfl) ?_
  refine va_alen (v := 64) hx hb hK hP 0 0 rfl rfl (show Int32.ofNat 64 = 64 by decide) dX3_releaseParts_4 ?_
  refine lv_icmp_ge (tgt := 40) hx hb dX3_releaseParts_5 (by decide) (fun h9 => absurd h9 (by decide)) (fun _ => ?_)
  refine lv_aload_n hx hb dX3_releaseParts_8 rfl (lv_at hl 2 rfl) ?_
  refine lv_iload_n hx hb dX3_releaseParts_9 rfl (lv_at hl 0 rfl) ?_
  refine va_aldq hx hb hK hP 0 0 rfl rfl (by unfold vp_in; decide) dX3_releaseParts_10 ?_
  refine W.eq (g2 := F0 m 11 ls [.null]) rfl ?_
  refine lv_ifnullN (tgt := 34) hx hb dX3_releaseParts_11 (by decide) ?_
  refine lv_iinc (k := 0) (v := 27) (lv' := [(2, .int 27), (0, .ref h0), (1, .ref h1)]) hx hb dX3_releaseParts_34 hl rfl (by decide) (by decide) rfl (fun ls hl => ?_)
  refine lv_goto (tgt := 2) hx hb dX3_releaseParts_37 (by decide) ?_
  refine lv_iload_n hx hb dX3_releaseParts_2 rfl (lv_at hl 0 rfl) ?_
  refine lv_aload_n hx hb dX3_releaseParts_3 rfl (lv_at hl 2 rfl) ?_
  refine va_alen (v := 64) hx hb hK hP 0 0 rfl rfl (show Int32.ofNat 64 = 64 by decide) dX3_releaseParts_4 ?_
  refine lv_icmp_ge (tgt := 40) hx hb dX3_releaseParts_5 (by decide) (fun h9 => absurd h9 (by decide)) (fun _ => ?_)
  refine lv_aload_n hx hb dX3_releaseParts_8 rfl (lv_at hl 2 rfl) ?_
  refine lv_iload_n hx hb dX3_releaseParts_9 rfl (lv_at hl 0 rfl) ?_
  refine va_aldq hx hb hK hP 0 0 rfl rfl (by unfold vp_in; decide) dX3_releaseParts_10 ?_
  refine W.eq (g2 := F0 m 11 ls [.null]) rfl ?_
  refine lv_ifnullN (tgt := 34) hx hb dX3_releaseParts_11 (by decide) ?_
  refine lv_iinc (k := 0) (v := 28) (lv' := [(2, .int 28), (0, .ref h0), (1, .ref h1)]) hx hb dX3_releaseParts_34 hl rfl (by decide) (by decide) rfl (fun ls hl => ?_)
  refine lv_goto (tgt := 2) hx hb dX3_releaseParts_37 (by decide) ?_
  refine lv_iload_n hx hb dX3_releaseParts_2 rfl (lv_at hl 0 rfl) ?_
  refine lv_aload_n hx hb dX3_releaseParts_3 rfl (lv_at hl 2 rfl) ?_
  refine va_alen (v := 64) hx hb hK hP 0 0 rfl rfl (show Int32.ofNat 64 = 64 by decide) dX3_releaseParts_4 ?_
  refine lv_icmp_ge (tgt := 40) hx hb dX3_releaseParts_5 (by decide) (fun h9 => absurd h9 (by decide)) (fun _ => ?_)
  refine lv_aload_n hx hb dX3_releaseParts_8 rfl (lv_at hl 2 rfl) ?_
  refine lv_iload_n hx hb dX3_releaseParts_9 rfl (lv_at hl 0 rfl) ?_
  refine va_aldq hx hb hK hP 0 0 rfl rfl (by unfold vp_in; decide) dX3_releaseParts_10 ?_
  refine W.eq (g2 := F0 m 11 ls [.null]) rfl ?_
  refine lv_ifnullN (tgt := 34) hx hb dX3_releaseParts_11 (by decide) ?_
  refine lv_iinc (k := 0) (v := 29) (lv' := [(2, .int 29), (0, .ref h0), (1, .ref h1)]) hx hb dX3_releaseParts_34 hl rfl (by decide) (by decide) rfl (fun ls hl => ?_)
  refine lv_goto (tgt := 2) hx hb dX3_releaseParts_37 (by decide) ?_
  refine lv_iload_n hx hb dX3_releaseParts_2 rfl (lv_at hl 0 rfl) ?_
  refine lv_aload_n hx hb dX3_releaseParts_3 rfl (lv_at hl 2 rfl) ?_
  refine va_alen (v := 64) hx hb hK hP 0 0 rfl rfl (show Int32.ofNat 64 = 64 by decide) dX3_releaseParts_4 ?_
  refine lv_icmp_ge (tgt := 40) hx hb dX3_releaseParts_5 (by decide) (fun h9 => absurd h9 (by decide)) (fun _ => ?_)
  refine lv_aload_n hx hb dX3_releaseParts_8 rfl (lv_at hl 2 rfl) ?_
  refine lv_iload_n hx hb dX3_releaseParts_9 rfl (lv_at hl 0 rfl) ?_
  refine va_aldq hx hb hK hP 0 0 rfl rfl (by unfold vp_in; decide) dX3_releaseParts_10 ?_
  refine W.eq (g2 := F0 m 11 ls [.null]) rfl ?_
  refine lv_ifnullN (tgt := 34) hx hb dX3_releaseParts_11 (by decide) ?_
  refine lv_iinc (k := 0) (v := 30) (lv' := [(2, .int 30), (0, .ref h0), (1, .ref h1)]) hx hb dX3_releaseParts_34 hl rfl (by decide) (by decide) rfl (fun ls hl => ?_)
  refine lv_goto (tgt := 2) hx hb dX3_releaseParts_37 (by decide) ?_
  refine lv_iload_n hx hb dX3_releaseParts_2 rfl (lv_at hl 0 rfl) ?_
  refine lv_aload_n hx hb dX3_releaseParts_3 rfl (lv_at hl 2 rfl) ?_
  refine va_alen (v := 64) hx hb hK hP 0 0 rfl rfl (show Int32.ofNat 64 = 64 by decide) dX3_releaseParts_4 ?_
  refine lv_icmp_ge (tgt := 40) hx hb dX3_releaseParts_5 (by decide) (fun h9 => absurd h9 (by decide)) (fun _ => ?_)
  refine lv_aload_n hx hb dX3_releaseParts_8 rfl (lv_at hl 2 rfl) ?_
  refine lv_iload_n hx hb dX3_releaseParts_9 rfl (lv_at hl 0 rfl) ?_
  refine va_aldq hx hb hK hP 0 0 rfl rfl (by unfold vp_in; decide) dX3_releaseParts_10 ?_
  refine W.eq (g2 := F0 m 11 ls [.null]) rfl ?_
  refine lv_ifnullN (tgt := 34) hx hb dX3_releaseParts_11 (by decide) ?_
  refine lv_iinc (k := 0) (v := 31) (lv' := [(2, .int 31), (0, .ref h0), (1, .ref h1)]) hx hb dX3_releaseParts_34 hl rfl (by decide) (by decide) rfl (fun ls hl => ?_)
  refine lv_goto (tgt := 2) hx hb dX3_releaseParts_37 (by decide) ?_
  refine lv_iload_n hx hb dX3_releaseParts_2 rfl (lv_at hl 0 rfl) ?_
  refine lv_aload_n hx hb dX3_releaseParts_3 rfl (lv_at hl 2 rfl) ?_
  refine va_alen (v := 64) hx hb hK hP 0 0 rfl rfl (show Int32.ofNat 64 = 64 by decide) dX3_releaseParts_4 ?_
  refine lv_icmp_ge (tgt := 40) hx hb dX3_releaseParts_5 (by decide) (fun h9 => absurd h9 (by decide)) (fun _ => ?_)
  refine lv_aload_n hx hb dX3_releaseParts_8 rfl (lv_at hl 2 rfl) ?_
  refine lv_iload_n hx hb dX3_releaseParts_9 rfl (lv_at hl 0 rfl) ?_
  refine va_aldq hx hb hK hP 0 0 rfl rfl (by unfold vp_in; decide) dX3_releaseParts_10 ?_
  refine W.eq (g2 := F0 m 11 ls [.null]) rfl ?_
  refine lv_ifnullN (tgt := 34) hx hb dX3_releaseParts_11 (by decide) ?_
  refine lv_iinc (k := 0) (v := 32) (lv' := [(2, .int 32), (0, .ref h0), (1, .ref h1)]) hx hb dX3_releaseParts_34 hl rfl (by decide) (by decide) rfl (fun ls hl => ?_)
  refine lv_goto (tgt := 2) hx hb dX3_releaseParts_37 (by decide) ?_
  refine lv_iload_n hx hb dX3_releaseParts_2 rfl (lv_at hl 0 rfl) ?_
  refine lv_aload_n hx hb dX3_releaseParts_3 rfl (lv_at hl 2 rfl) ?_
  refine va_alen (v := 64) hx hb hK hP 0 0 rfl rfl (show Int32.ofNat 64 = 64 by decide) dX3_releaseParts_4 ?_
  refine lv_icmp_ge (tgt := 40) hx hb dX3_releaseParts_5 (by decide) (fun h9 => absurd h9 (by decide)) (fun _ => ?_)
  refine lv_aload_n hx hb dX3_releaseParts_8 rfl (lv_at hl 2 rfl) ?_
  refine lv_iload_n hx hb dX3_releaseParts_9 rfl (lv_at hl 0 rfl) ?_
  refine va_aldq hx hb hK hP 0 0 rfl rfl (by unfold vp_in; decide) dX3_releaseParts_10 ?_
  refine W.eq (g2 := F0 m 11 ls [.null]) rfl ?_
  refine lv_ifnullN (tgt := 34) hx hb dX3_releaseParts_11 (by decide) ?_
  refine lv_iinc (k := 0) (v := 33) (lv' := [(2, .int 33), (0, .ref h0), (1, .ref h1)]) hx hb dX3_releaseParts_34 hl rfl (by decide) (by decide) rfl (fun ls hl => ?_)
  refine lv_goto (tgt := 2) hx hb dX3_releaseParts_37 (by decide) ?_
  refine lv_iload_n hx hb dX3_releaseParts_2 rfl (lv_at hl 0 rfl) ?_
  refine lv_aload_n hx hb dX3_releaseParts_3 rfl (lv_at hl 2 rfl) ?_
  refine va_alen (v := 64) hx hb hK hP 0 0 rfl rfl (show Int32.ofNat 64 = 64 by decide) dX3_releaseParts_4 ?_
  refine lv_icmp_ge (tgt := 40) hx hb dX3_releaseParts_5 (by decide) (fun h9 => absurd h9 (by decide)) (fun _ => ?_)
  refine lv_aload_n hx hb dX3_releaseParts_8 rfl (lv_at hl 2 rfl) ?_
  refine lv_iload_n hx hb dX3_releaseParts_9 rfl (lv_at hl 0 rfl) ?_
  refine va_aldq hx hb hK hP 0 0 rfl rfl (by unfold vp_in; decide) dX3_releaseParts_10 ?_
  refine W.eq (g2 := F0 m 11 ls [.null]) rfl ?_
  refine lv_ifnullN (tgt := 34) hx hb dX3_releaseParts_11 (by decide) ?_
  refine lv_iinc (k := 0) (v := 34) (lv' := [(2, .int 34), (0, .ref h0), (1, .ref h1)]) hx hb dX3_releaseParts_34 hl rfl (by decide) (by decide) rfl (fun ls hl => ?_)
  refine lv_goto (tgt := 2) hx hb dX3_releaseParts_37 (by decide) ?_
  refine lv_iload_n hx hb dX3_releaseParts_2 rfl (lv_at hl 0 rfl) ?_
  refine lv_aload_n hx hb dX3_releaseParts_3 rfl (lv_at hl 2 rfl) ?_
  refine va_alen (v := 64) hx hb hK hP 0 0 rfl rfl (show Int32.ofNat 64 = 64 by decide) dX3_releaseParts_4 ?_
  refine lv_icmp_ge (tgt := 40) hx hb dX3_releaseParts_5 (by decide) (fun h9 => absurd h9 (by decide)) (fun _ => ?_)
  refine lv_aload_n hx hb dX3_releaseParts_8 rfl (lv_at hl 2 rfl) ?_
  refine lv_iload_n hx hb dX3_releaseParts_9 rfl (lv_at hl 0 rfl) ?_
  refine va_aldq hx hb hK hP 0 0 rfl rfl (by unfold vp_in; decide) dX3_releaseParts_10 ?_
  refine W.eq (g2 := F0 m 11 ls [.null]) rfl ?_
  refine lv_ifnullN (tgt := 34) hx hb dX3_releaseParts_11 (by decide) ?_
  refine lv_iinc (k := 0) (v := 35) (lv' := [(2, .int 35), (0, .ref h0), (1, .ref h1)]) hx hb dX3_releaseParts_34 hl rfl (by decide) (by decide) rfl (fun ls hl => ?_)
  refine lv_goto (tgt := 2) hx hb dX3_releaseParts_37 (by decide) ?_
  refine lv_iload_n hx hb dX3_releaseParts_2 rfl (lv_at hl 0 rfl) ?_
  refine lv_aload_n hx hb dX3_releaseParts_3 rfl (lv_at hl 2 rfl) ?_
  refine va_alen (v := 64) hx hb hK hP 0 0 rfl rfl (show Int32.ofNat 64 = 64 by decide) dX3_releaseParts_4 ?_
  refine lv_icmp_ge (tgt := 40) hx hb dX3_releaseParts_5 (by decide) (fun h9 => absurd h9 (by decide)) (fun _ => ?_)
  refine lv_aload_n hx hb dX3_releaseParts_8 rfl (lv_at hl 2 rfl) ?_
  refine lv_iload_n hx hb dX3_releaseParts_9 rfl (lv_at hl 0 rfl) ?_
  refine va_aldq hx hb hK hP 0 0 rfl rfl (by unfold vp_in; decide) dX3_releaseParts_10 ?_
  refine W.eq (g2 := F0 m 11 ls [.null]) rfl ?_
  refine lv_ifnullN (tgt := 34) hx hb dX3_releaseParts_11 (by decide) ?_
  refine lv_iinc (k := 0) (v := 36) (lv' := [(2, .int 36), (0, .ref h0), (1, .ref h1)]) hx hb dX3_releaseParts_34 hl rfl (by decide) (by decide) rfl (fun ls hl => ?_)
  refine lv_goto (tgt := 2) hx hb dX3_releaseParts_37 (by decide) ?_
  refine lv_iload_n hx hb dX3_releaseParts_2 rfl (lv_at hl 0 rfl) ?_
  refine lv_aload_n hx hb dX3_releaseParts_3 rfl (lv_at hl 2 rfl) ?_
  refine va_alen (v := 64) hx hb hK hP 0 0 rfl rfl (show Int32.ofNat 64 = 64 by decide) dX3_releaseParts_4 ?_
  refine lv_icmp_ge (tgt := 40) hx hb dX3_releaseParts_5 (by decide) (fun h9 => absurd h9 (by decide)) (fun _ => ?_)
  refine lv_aload_n hx hb dX3_releaseParts_8 rfl (lv_at hl 2 rfl) ?_
  refine lv_iload_n hx hb dX3_releaseParts_9 rfl (lv_at hl 0 rfl) ?_
  refine va_aldq hx hb hK hP 0 0 rfl rfl (by unfold vp_in; decide) dX3_releaseParts_10 ?_
  refine W.eq (g2 := F0 m 11 ls [.null]) rfl ?_
  refine lv_ifnullN (tgt := 34) hx hb dX3_releaseParts_11 (by decide) ?_
  refine lv_iinc (k := 0) (v := 37) (lv' := [(2, .int 37), (0, .ref h0), (1, .ref h1)]) hx hb dX3_releaseParts_34 hl rfl (by decide) (by decide) rfl (fun ls hl => ?_)
  refine lv_goto (tgt := 2) hx hb dX3_releaseParts_37 (by decide) ?_
  refine lv_iload_n hx hb dX3_releaseParts_2 rfl (lv_at hl 0 rfl) ?_
  refine lv_aload_n hx hb dX3_releaseParts_3 rfl (lv_at hl 2 rfl) ?_
  refine va_alen (v := 64) hx hb hK hP 0 0 rfl rfl (show Int32.ofNat 64 = 64 by decide) dX3_releaseParts_4 ?_
  refine lv_icmp_ge (tgt := 40) hx hb dX3_releaseParts_5 (by decide) (fun h9 => absurd h9 (by decide)) (fun _ => ?_)
  refine lv_aload_n hx hb dX3_releaseParts_8 rfl (lv_at hl 2 rfl) ?_
  refine lv_iload_n hx hb dX3_releaseParts_9 rfl (lv_at hl 0 rfl) ?_
  refine va_aldq hx hb hK hP 0 0 rfl rfl (by unfold vp_in; decide) dX3_releaseParts_10 ?_
  refine W.eq (g2 := F0 m 11 ls [.null]) rfl ?_
  refine lv_ifnullN (tgt := 34) hx hb dX3_releaseParts_11 (by decide) ?_
  refine lv_iinc (k := 0) (v := 38) (lv' := [(2, .int 38), (0, .ref h0), (1, .ref h1)]) hx hb dX3_releaseParts_34 hl rfl (by decide) (by decide) rfl (fun ls hl => ?_)
  refine lv_goto (tgt := 2) hx hb dX3_releaseParts_37 (by decide) ?_
  refine lv_iload_n hx hb dX3_releaseParts_2 rfl (lv_at hl 0 rfl) ?_
  refine lv_aload_n hx hb dX3_releaseParts_3 rfl (lv_at hl 2 rfl) ?_
  refine va_alen (v := 64) hx hb hK hP 0 0 rfl rfl (show Int32.ofNat 64 = 64 by decide) dX3_releaseParts_4 ?_
  refine lv_icmp_ge (tgt := 40) hx hb dX3_releaseParts_5 (by decide) (fun h9 => absurd h9 (by decide)) (fun _ => ?_)
  refine lv_aload_n hx hb dX3_releaseParts_8 rfl (lv_at hl 2 rfl) ?_
  refine lv_iload_n hx hb dX3_releaseParts_9 rfl (lv_at hl 0 rfl) ?_
  refine va_aldq hx hb hK hP 0 0 rfl rfl (by unfold vp_in; decide) dX3_releaseParts_10 ?_
  refine W.eq (g2 := F0 m 11 ls [.null]) rfl ?_
  refine lv_ifnullN (tgt := 34) hx hb dX3_releaseParts_11 (by decide) ?_
  refine lv_iinc (k := 0) (v := 39) (lv' := [(2, .int 39), (0, .ref h0), (1, .ref h1)]) hx hb dX3_releaseParts_34 hl rfl (by decide) (by decide) rfl (fun ls hl => ?_)
  refine lv_goto (tgt := 2) hx hb dX3_releaseParts_37 (by decide) ?_
  refine lv_iload_n hx hb dX3_releaseParts_2 rfl (lv_at hl 0 rfl) ?_
  refine lv_aload_n hx hb dX3_releaseParts_3 rfl (lv_at hl 2 rfl) ?_
  refine va_alen (v := 64) hx hb hK hP 0 0 rfl rfl (show Int32.ofNat 64 = 64 by decide) dX3_releaseParts_4 ?_
  refine lv_icmp_ge (tgt := 40) hx hb dX3_releaseParts_5 (by decide) (fun h9 => absurd h9 (by decide)) (fun _ => ?_)
  refine lv_aload_n hx hb dX3_releaseParts_8 rfl (lv_at hl 2 rfl) ?_
  refine lv_iload_n hx hb dX3_releaseParts_9 rfl (lv_at hl 0 rfl) ?_
  refine va_aldq hx hb hK hP 0 0 rfl rfl (by unfold vp_in; decide) dX3_releaseParts_10 ?_
  refine W.eq (g2 := F0 m 11 ls [.null]) rfl ?_
  refine lv_ifnullN (tgt := 34) hx hb dX3_releaseParts_11 (by decide) ?_
  refine lv_iinc (k := 0) (v := 40) (lv' := [(2, .int 40), (0, .ref h0), (1, .ref h1)]) hx hb dX3_releaseParts_34 hl rfl (by decide) (by decide) rfl (fun ls hl => ?_)
  refine lv_goto (tgt := 2) hx hb dX3_releaseParts_37 (by decide) ?_
  refine lv_iload_n hx hb dX3_releaseParts_2 rfl (lv_at hl 0 rfl) ?_
  refine lv_aload_n hx hb dX3_releaseParts_3 rfl (lv_at hl 2 rfl) ?_
  refine va_alen (v := 64) hx hb hK hP 0 0 rfl rfl (show Int32.ofNat 64 = 64 by decide) dX3_releaseParts_4 ?_
  refine lv_icmp_ge (tgt := 40) hx hb dX3_releaseParts_5 (by decide) (fun h9 => absurd h9 (by decide)) (fun _ => ?_)
  refine lv_aload_n hx hb dX3_releaseParts_8 rfl (lv_at hl 2 rfl) ?_
  refine lv_iload_n hx hb dX3_releaseParts_9 rfl (lv_at hl 0 rfl) ?_
  refine va_aldq hx hb hK hP 0 0 rfl rfl (by unfold vp_in; decide) dX3_releaseParts_10 ?_
  refine W.eq (g2 := F0 m 11 ls [.null]) rfl ?_
  refine lv_ifnullN (tgt := 34) hx hb dX3_releaseParts_11 (by decide) ?_
  refine lv_iinc (k := 0) (v := 41) (lv' := [(2, .int 41), (0, .ref h0), (1, .ref h1)]) hx hb dX3_releaseParts_34 hl rfl (by decide) (by decide) rfl (fun ls hl => ?_)
  refine lv_goto (tgt := 2) hx hb dX3_releaseParts_37 (by decide) ?_
  refine lv_iload_n hx hb dX3_releaseParts_2 rfl (lv_at hl 0 rfl) ?_
  refine lv_aload_n hx hb dX3_releaseParts_3 rfl (lv_at hl 2 rfl) ?_
  refine va_alen (v := 64) hx hb hK hP 0 0 rfl rfl (show Int32.ofNat 64 = 64 by decide) dX3_releaseParts_4 ?_
  refine lv_icmp_ge (tgt := 40) hx hb dX3_releaseParts_5 (by decide) (fun h9 => absurd h9 (by decide)) (fun _ => ?_)
  refine lv_aload_n hx hb dX3_releaseParts_8 rfl (lv_at hl 2 rfl) ?_
  refine lv_iload_n hx hb dX3_releaseParts_9 rfl (lv_at hl 0 rfl) ?_
  refine va_aldq hx hb hK hP 0 0 rfl rfl (by unfold vp_in; decide) dX3_releaseParts_10 ?_
  refine W.eq (g2 := F0 m 11 ls [.null]) rfl ?_
  refine lv_ifnullN (tgt := 34) hx hb dX3_releaseParts_11 (by decide) ?_
  refine lv_iinc (k := 0) (v := 42) (lv' := [(2, .int 42), (0, .ref h0), (1, .ref h1)]) hx hb dX3_releaseParts_34 hl rfl (by decide) (by decide) rfl (fun ls hl => ?_)
  refine lv_goto (tgt := 2) hx hb dX3_releaseParts_37 (by decide) ?_
  refine lv_iload_n hx hb dX3_releaseParts_2 rfl (lv_at hl 0 rfl) ?_
  refine lv_aload_n hx hb dX3_releaseParts_3 rfl (lv_at hl 2 rfl) ?_
  refine va_alen (v := 64) hx hb hK hP 0 0 rfl rfl (show Int32.ofNat 64 = 64 by decide) dX3_releaseParts_4 ?_
  refine lv_icmp_ge (tgt := 40) hx hb dX3_releaseParts_5 (by decide) (fun h9 => absurd h9 (by decide)) (fun _ => ?_)
  refine lv_aload_n hx hb dX3_releaseParts_8 rfl (lv_at hl 2 rfl) ?_
  refine lv_iload_n hx hb dX3_releaseParts_9 rfl (lv_at hl 0 rfl) ?_
  refine va_aldq hx hb hK hP 0 0 rfl rfl (by unfold vp_in; decide) dX3_releaseParts_10 ?_
  refine W.eq (g2 := F0 m 11 ls [.null]) rfl ?_
  refine lv_ifnullN (tgt := 34) hx hb dX3_releaseParts_11 (by decide) ?_
  refine lv_iinc (k := 0) (v := 43) (lv' := [(2, .int 43), (0, .ref h0), (1, .ref h1)]) hx hb dX3_releaseParts_34 hl rfl (by decide) (by decide) rfl (fun ls hl => ?_)
  refine lv_goto (tgt := 2) hx hb dX3_releaseParts_37 (by decide) ?_
  refine lv_iload_n hx hb dX3_releaseParts_2 rfl (lv_at hl 0 rfl) ?_
  refine lv_aload_n hx hb dX3_releaseParts_3 rfl (lv_at hl 2 rfl) ?_
  refine va_alen (v := 64) hx hb hK hP 0 0 rfl rfl (show Int32.ofNat 64 = 64 by decide) dX3_releaseParts_4 ?_
  refine lv_icmp_ge (tgt := 40) hx hb dX3_releaseParts_5 (by decide) (fun h9 => absurd h9 (by decide)) (fun _ => ?_)
  refine lv_aload_n hx hb dX3_releaseParts_8 rfl (lv_at hl 2 rfl) ?_
  refine lv_iload_n hx hb dX3_releaseParts_9 rfl (lv_at hl 0 rfl) ?_
  refine va_aldq hx hb hK hP 0 0 rfl rfl (by unfold vp_in; decide) dX3_releaseParts_10 ?_
  refine W.eq (g2 := F0 m 11 ls [.null]) rfl ?_
  refine lv_ifnullN (tgt := 34) hx hb dX3_releaseParts_11 (by decide) ?_
  refine lv_iinc (k := 0) (v := 44) (lv' := [(2, .int 44), (0, .ref h0), (1, .ref h1)]) hx hb dX3_releaseParts_34 hl rfl (by decide) (by decide) rfl (fun ls hl => ?_)
  refine lv_goto (tgt := 2) hx hb dX3_releaseParts_37 (by decide) ?_
  refine lv_iload_n hx hb dX3_releaseParts_2 rfl (lv_at hl 0 rfl) ?_
  refine lv_aload_n hx hb dX3_releaseParts_3 rfl (lv_at hl 2 rfl) ?_
  refine va_alen (v := 64) hx hb hK hP 0 0 rfl rfl (show Int32.ofNat 64 = 64 by decide) dX3_releaseParts_4 ?_
  refine lv_icmp_ge (tgt := 40) hx hb dX3_releaseParts_5 (by decide) (fun h9 => absurd h9 (by decide)) (fun _ => ?_)
  refine lv_aload_n hx hb dX3_releaseParts_8 rfl (lv_at hl 2 rfl) ?_
  refine lv_iload_n hx hb dX3_releaseParts_9 rfl (lv_at hl 0 rfl) ?_
  refine va_aldq hx hb hK hP 0 0 rfl rfl (by unfold vp_in; decide) dX3_releaseParts_10 ?_
  refine W.eq (g2 := F0 m 11 ls [.null]) rfl ?_
  refine lv_ifnullN (tgt := 34) hx hb dX3_releaseParts_11 (by decide) ?_
  refine lv_iinc (k := 0) (v := 45) (lv' := [(2, .int 45), (0, .ref h0), (1, .ref h1)]) hx hb dX3_releaseParts_34 hl rfl (by decide) (by decide) rfl (fun ls hl => ?_)
  refine lv_goto (tgt := 2) hx hb dX3_releaseParts_37 (by decide) ?_
  refine lv_iload_n hx hb dX3_releaseParts_2 rfl (lv_at hl 0 rfl) ?_
  refine lv_aload_n hx hb dX3_releaseParts_3 rfl (lv_at hl 2 rfl) ?_
  refine va_alen (v := 64) hx hb hK hP 0 0 rfl rfl (show Int32.ofNat 64 = 64 by decide) dX3_releaseParts_4 ?_
  refine lv_icmp_ge (tgt := 40) hx hb dX3_releaseParts_5 (by decide) (fun h9 => absurd h9 (by decide)) (fun _ => ?_)
  refine lv_aload_n hx hb dX3_releaseParts_8 rfl (lv_at hl 2 rfl) ?_
  refine lv_iload_n hx hb dX3_releaseParts_9 rfl (lv_at hl 0 rfl) ?_
  refine va_aldq hx hb hK hP 0 0 rfl rfl (by unfold vp_in; decide) dX3_releaseParts_10 ?_
  refine W.eq (g2 := F0 m 11 ls [.null]) rfl ?_
  refine lv_ifnullN (tgt := 34) hx hb dX3_releaseParts_11 (by decide) ?_
  refine lv_iinc (k := 0) (v := 46) (lv' := [(2, .int 46), (0, .ref h0), (1, .ref h1)]) hx hb dX3_releaseParts_34 hl rfl (by decide) (by decide) rfl (fun ls hl => ?_)
  refine lv_goto (tgt := 2) hx hb dX3_releaseParts_37 (by decide) ?_
  refine lv_iload_n hx hb dX3_releaseParts_2 rfl (lv_at hl 0 rfl) ?_
  refine lv_aload_n hx hb dX3_releaseParts_3 rfl (lv_at hl 2 rfl) ?_
  refine va_alen (v := 64) hx hb hK hP 0 0 rfl rfl (show Int32.ofNat 64 = 64 by decide) dX3_releaseParts_4 ?_
  refine lv_icmp_ge (tgt := 40) hx hb dX3_releaseParts_5 (by decide) (fun h9 => absurd h9 (by decide)) (fun _ => ?_)
  refine lv_aload_n hx hb dX3_releaseParts_8 rfl (lv_at hl 2 rfl) ?_
  refine lv_iload_n hx hb dX3_releaseParts_9 rfl (lv_at hl 0 rfl) ?_
  refine va_aldq hx hb hK hP 0 0 rfl rfl (by unfold vp_in; decide) dX3_releaseParts_10 ?_
  refine W.eq (g2 := F0 m 11 ls [.null]) rfl ?_
  refine lv_ifnullN (tgt := 34) hx hb dX3_releaseParts_11 (by decide) ?_
  refine lv_iinc (k := 0) (v := 47) (lv' := [(2, .int 47), (0, .ref h0), (1, .ref h1)]) hx hb dX3_releaseParts_34 hl rfl (by decide) (by decide) rfl (fun ls hl => ?_)
  refine lv_goto (tgt := 2) hx hb dX3_releaseParts_37 (by decide) ?_
  refine lv_iload_n hx hb dX3_releaseParts_2 rfl (lv_at hl 0 rfl) ?_
  refine lv_aload_n hx hb dX3_releaseParts_3 rfl (lv_at hl 2 rfl) ?_
  refine va_alen (v := 64) hx hb hK hP 0 0 rfl rfl (show Int32.ofNat 64 = 64 by decide) dX3_releaseParts_4 ?_
  refine lv_icmp_ge (tgt := 40) hx hb dX3_releaseParts_5 (by decide) (fun h9 => absurd h9 (by decide)) (fun _ => ?_)
  refine lv_aload_n hx hb dX3_releaseParts_8 rfl (lv_at hl 2 rfl) ?_
  refine lv_iload_n hx hb dX3_releaseParts_9 rfl (lv_at hl 0 rfl) ?_
  refine va_aldq hx hb hK hP 0 0 rfl rfl (by unfold vp_in; decide) dX3_releaseParts_10 ?_
  refine W.eq (g2 := F0 m 11 ls [.null]) rfl ?_
  refine lv_ifnullN (tgt := 34) hx hb dX3_releaseParts_11 (by decide) ?_
  refine lv_iinc (k := 0) (v := 48) (lv' := [(2, .int 48), (0, .ref h0), (1, .ref h1)]) hx hb dX3_releaseParts_34 hl rfl (by decide) (by decide) rfl (fun ls hl => ?_)
  refine lv_goto (tgt := 2) hx hb dX3_releaseParts_37 (by decide) ?_
  refine lv_iload_n hx hb dX3_releaseParts_2 rfl (lv_at hl 0 rfl) ?_
  refine lv_aload_n hx hb dX3_releaseParts_3 rfl (lv_at hl 2 rfl) ?_
  refine va_alen (v := 64) hx hb hK hP 0 0 rfl rfl (show Int32.ofNat 64 = 64 by decide) dX3_releaseParts_4 ?_
  refine lv_icmp_ge (tgt := 40) hx hb dX3_releaseParts_5 (by decide) (fun h9 => absurd h9 (by decide)) (fun _ => ?_)
  refine lv_aload_n hx hb dX3_releaseParts_8 rfl (lv_at hl 2 rfl) ?_
  refine lv_iload_n hx hb dX3_releaseParts_9 rfl (lv_at hl 0 rfl) ?_
  refine va_aldq hx hb hK hP 0 0 rfl rfl (by unfold vp_in; decide) dX3_releaseParts_10 ?_
  refine W.eq (g2 := F0 m 11 ls [.null]) rfl ?_
  refine lv_ifnullN (tgt := 34) hx hb dX3_releaseParts_11 (by decide) ?_
  refine lv_iinc (k := 0) (v := 49) (lv' := [(2, .int 49), (0, .ref h0), (1, .ref h1)]) hx hb dX3_releaseParts_34 hl rfl (by decide) (by decide) rfl (fun ls hl => ?_)
  refine lv_goto (tgt := 2) hx hb dX3_releaseParts_37 (by decide) ?_
  refine lv_iload_n hx hb dX3_releaseParts_2 rfl (lv_at hl 0 rfl) ?_
  refine lv_aload_n hx hb dX3_releaseParts_3 rfl (lv_at hl 2 rfl) ?_
  refine va_alen (v := 64) hx hb hK hP 0 0 rfl rfl (show Int32.ofNat 64 = 64 by decide) dX3_releaseParts_4 ?_
  refine lv_icmp_ge (tgt := 40) hx hb dX3_releaseParts_5 (by decide) (fun h9 => absurd h9 (by decide)) (fun _ => ?_)
  refine lv_aload_n hx hb dX3_releaseParts_8 rfl (lv_at hl 2 rfl) ?_
  refine lv_iload_n hx hb dX3_releaseParts_9 rfl (lv_at hl 0 rfl) ?_
  refine va_aldq hx hb hK hP 0 0 rfl rfl (by unfold vp_in; decide) dX3_releaseParts_10 ?_
  refine W.eq (g2 := F0 m 11 ls [.null]) rfl ?_
  refine lv_ifnullN (tgt := 34) hx hb dX3_releaseParts_11 (by decide) ?_
  refine lv_iinc (k := 0) (v := 50) (lv' := [(2, .int 50), (0, .ref h0), (1, .ref h1)]) hx hb dX3_releaseParts_34 hl rfl (by decide) (by decide) rfl (fun ls hl => ?_)
  refine lv_goto (tgt := 2) hx hb dX3_releaseParts_37 (by decide) ?_
  refine lv_iload_n hx hb dX3_releaseParts_2 rfl (lv_at hl 0 rfl) ?_
  refine lv_aload_n hx hb dX3_releaseParts_3 rfl (lv_at hl 2 rfl) ?_
  refine va_alen (v := 64) hx hb hK hP 0 0 rfl rfl (show Int32.ofNat 64 = 64 by decide) dX3_releaseParts_4 ?_
  refine lv_icmp_ge (tgt := 40) hx hb dX3_releaseParts_5 (by decide) (fun h9 => absurd h9 (by decide)) (fun _ => ?_)
  refine lv_aload_n hx hb dX3_releaseParts_8 rfl (lv_at hl 2 rfl) ?_
  refine lv_iload_n hx hb dX3_releaseParts_9 rfl (lv_at hl 0 rfl) ?_
  refine va_aldq hx hb hK hP 0 0 rfl rfl (by unfold vp_in; decide) dX3_releaseParts_10 ?_
  refine W.eq (g2 := F0 m 11 ls [.null]) rfl ?_
  refine lv_ifnullN (tgt := 34) hx hb dX3_releaseParts_11 (by decide) ?_
  refine lv_iinc (k := 0) (v := 51) (lv' := [(2, .int 51), (0, .ref h0), (1, .ref h1)]) hx hb dX3_releaseParts_34 hl rfl (by decide) (by decide) rfl (fun ls hl => ?_)
  refine lv_goto (tgt := 2) hx hb dX3_releaseParts_37 (by decide) ?_
  refine lv_iload_n hx hb dX3_releaseParts_2 rfl (lv_at hl 0 rfl) ?_
  refine lv_aload_n hx hb dX3_releaseParts_3 rfl (lv_at hl 2 rfl) ?_
  refine va_alen (v := 64) hx hb hK hP 0 0 rfl rfl (show Int32.ofNat 64 = 64 by decide) dX3_releaseParts_4 ?_
  refine lv_icmp_ge (tgt := 40) hx hb dX3_releaseParts_5 (by decide) (fun h9 => absurd h9 (by decide)) (fun _ => ?_)
  refine lv_aload_n hx hb dX3_releaseParts_8 rfl (lv_at hl 2 rfl) ?_
  refine lv_iload_n hx hb dX3_releaseParts_9 rfl (lv_at hl 0 rfl) ?_
  refine va_aldq hx hb hK hP 0 0 rfl rfl (by unfold vp_in; decide) dX3_releaseParts_10 ?_
  refine W.eq (g2 := F0 m 11 ls [.null]) rfl ?_
  refine lv_ifnullN (tgt := 34) hx hb dX3_releaseParts_11 (by decide) ?_
  refine lv_iinc (k := 0) (v := 52) (lv' := [(2, .int 52), (0, .ref h0), (1, .ref h1)]) hx hb dX3_releaseParts_34 hl rfl (by decide) (by decide) rfl (fun ls hl => ?_)
  refine lv_goto (tgt := 2) hx hb dX3_releaseParts_37 (by decide) ?_
  refine lv_iload_n hx hb dX3_releaseParts_2 rfl (lv_at hl 0 rfl) ?_
  refine lv_aload_n hx hb dX3_releaseParts_3 rfl (lv_at hl 2 rfl) ?_
  refine va_alen (v := 64) hx hb hK hP 0 0 rfl rfl (show Int32.ofNat 64 = 64 by decide) dX3_releaseParts_4 ?_
  refine lv_icmp_ge (tgt := 40) hx hb dX3_releaseParts_5 (by decide) (fun h9 => absurd h9 (by decide)) (fun _ => ?_)
  refine lv_aload_n hx hb dX3_releaseParts_8 rfl (lv_at hl 2 rfl) ?_
  refine lv_iload_n hx hb dX3_releaseParts_9 rfl (lv_at hl 0 rfl) ?_
  refine va_aldq hx hb hK hP 0 0 rfl rfl (by unfold vp_in; decide) dX3_releaseParts_10 ?_
  refine W.eq (g2 := F0 m 11 ls [.null]) rfl ?_
  refine lv_ifnullN (tgt := 34) hx hb dX3_releaseParts_11 (by decide) ?_
  refine lv_iinc (k := 0) (v := 53) (lv' := [(2, .int 53), (0, .ref h0), (1, .ref h1)]) hx hb dX3_releaseParts_34 hl rfl (by decide) (by decide) rfl (fun ls hl => ?_)
  refine lv_goto (tgt := 2) hx hb dX3_releaseParts_37 (by decide) ?_
  refine lv_iload_n hx hb dX3_releaseParts_2 rfl (lv_at hl 0 rfl) ?_
  refine lv_aload_n hx hb dX3_releaseParts_3 rfl (lv_at hl 2 rfl) ?_
  refine va_alen (v := 64) hx hb hK hP 0 0 rfl rfl (show Int32.ofNat 64 = 64 by decide) dX3_releaseParts_4 ?_
  refine lv_icmp_ge (tgt := 40) hx hb dX3_releaseParts_5 (by decide) (fun h9 => absurd h9 (by decide)) (fun _ => ?_)
  refine lv_aload_n hx hb dX3_releaseParts_8 rfl (lv_at hl 2 rfl) ?_
  refine lv_iload_n hx hb dX3_releaseParts_9 rfl (lv_at hl 0 rfl) ?_
  refine va_aldq hx hb hK hP 0 0 rfl rfl (by unfold vp_in; decide) dX3_releaseParts_10 ?_
  refine W.eq (g2 := F0 m 11 ls [.null]) rfl ?_
  refine lv_ifnullN (tgt := 34) hx hb dX3_releaseParts_11 (by decide) ?_
  refine lv_iinc (k := 0) (v := 54) (lv' := [(2, .int 54), (0, .ref h0), (1, .ref h1)]) hx hb dX3_releaseParts_34 hl rfl (by decide) (by decide) rfl (fun ls hl => ?_)
  refine lv_goto (tgt := 2) hx hb dX3_releaseParts_37 (by decide) ?_
  refine lv_iload_n hx hb dX3_releaseParts_2 rfl (lv_at hl 0 rfl) ?_
  refine lv_aload_n hx hb dX3_releaseParts_3 rfl (lv_at hl 2 rfl) ?_
  refine va_alen (v := 64) hx hb hK hP 0 0 rfl rfl (show Int32.ofNat 64 = 64 by decide) dX3_releaseParts_4 ?_
  refine lv_icmp_ge (tgt := 40) hx hb dX3_releaseParts_5 (by decide) (fun h9 => absurd h9 (by decide)) (fun _ => ?_)
  refine lv_aload_n hx hb dX3_releaseParts_8 rfl (lv_at hl 2 rfl) ?_
  refine lv_iload_n hx hb dX3_releaseParts_9 rfl (lv_at hl 0 rfl) ?_
  refine va_aldq hx hb hK hP 0 0 rfl rfl (by unfold vp_in; decide) dX3_releaseParts_10 ?_
  refine W.eq (g2 := F0 m 11 ls [.null]) rfl ?_
  refine lv_ifnullN (tgt := 34) hx hb dX3_releaseParts_11 (by decide) ?_
  refine lv_iinc (k := 0) (v := 55) (lv' := [(2, .int 55), (0, .ref h0), (1, .ref h1)]) hx hb dX3_releaseParts_34 hl rfl (by decide) (by decide) rfl (fun ls hl => ?_)
  refine lv_goto (tgt := 2) hx hb dX3_releaseParts_37 (by decide) ?_
  refine lv_iload_n hx hb dX3_releaseParts_2 rfl (lv_at hl 0 rfl) ?_
  refine lv_aload_n hx hb dX3_releaseParts_3 rfl (lv_at hl 2 rfl) ?_
  refine va_alen (v := 64) hx hb hK hP 0 0 rfl rfl (show Int32.ofNat 64 = 64 by decide) dX3_releaseParts_4 ?_
  refine lv_icmp_ge (tgt := 40) hx hb dX3_releaseParts_5 (by decide) (fun h9 => absurd h9 (by decide)) (fun _ => ?_)
  refine lv_aload_n hx hb dX3_releaseParts_8 rfl (lv_at hl 2 rfl) ?_
  refine lv_iload_n hx hb dX3_releaseParts_9 rfl (lv_at hl 0 rfl) ?_
  refine va_aldq hx hb hK hP 0 0 rfl rfl (by unfold vp_in; decide) dX3_releaseParts_10 ?_
  refine W.eq (g2 := F0 m 11 ls [.null]) rfl ?_
  refine lv_ifnullN (tgt := 34) hx hb dX3_releaseParts_11 (by decide) ?_
  refine lv_iinc (k := 0) (v := 56) (lv' := [(2, .int 56), (0, .ref h0), (1, .ref h1)]) hx hb dX3_releaseParts_34 hl rfl (by decide) (by decide) rfl (fun ls hl => ?_)
  refine lv_goto (tgt := 2) hx hb dX3_releaseParts_37 (by decide) ?_
  refine lv_iload_n hx hb dX3_releaseParts_2 rfl (lv_at hl 0 rfl) ?_
  refine lv_aload_n hx hb dX3_releaseParts_3 rfl (lv_at hl 2 rfl) ?_
  refine va_alen (v := 64) hx hb hK hP 0 0 rfl rfl (show Int32.ofNat 64 = 64 by decide) dX3_releaseParts_4 ?_
  refine lv_icmp_ge (tgt := 40) hx hb dX3_releaseParts_5 (by decide) (fun h9 => absurd h9 (by decide)) (fun _ => ?_)
  refine lv_aload_n hx hb dX3_releaseParts_8 rfl (lv_at hl 2 rfl) ?_
  refine lv_iload_n hx hb dX3_releaseParts_9 rfl (lv_at hl 0 rfl) ?_
  refine va_aldq hx hb hK hP 0 0 rfl rfl (by unfold vp_in; decide) dX3_releaseParts_10 ?_
  refine W.eq (g2 := F0 m 11 ls [.null]) rfl ?_
  refine lv_ifnullN (tgt := 34) hx hb dX3_releaseParts_11 (by decide) ?_
  refine lv_iinc (k := 0) (v := 57) (lv' := [(2, .int 57), (0, .ref h0), (1, .ref h1)]) hx hb dX3_releaseParts_34 hl rfl (by decide) (by decide) rfl (fun ls hl => ?_)
  refine lv_goto (tgt := 2) hx hb dX3_releaseParts_37 (by decide) ?_
  refine lv_iload_n hx hb dX3_releaseParts_2 rfl (lv_at hl 0 rfl) ?_
  refine lv_aload_n hx hb dX3_releaseParts_3 rfl (lv_at hl 2 rfl) ?_
  refine va_alen (v := 64) hx hb hK hP 0 0 rfl rfl (show Int32.ofNat 64 = 64 by decide) dX3_releaseParts_4 ?_
  refine lv_icmp_ge (tgt := 40) hx hb dX3_releaseParts_5 (by decide) (fun h9 => absurd h9 (by decide)) (fun _ => ?_)
  refine lv_aload_n hx hb dX3_releaseParts_8 rfl (lv_at hl 2 rfl) ?_
  refine lv_iload_n hx hb dX3_releaseParts_9 rfl (lv_at hl 0 rfl) ?_
  refine va_aldq hx hb hK hP 0 0 rfl rfl (by unfold vp_in; decide) dX3_releaseParts_10 ?_
  refine W.eq (g2 := F0 m 11 ls [.null]) rfl ?_
  refine lv_ifnullN (tgt := 34) hx hb dX3_releaseParts_11 (by decide) ?_
  refine lv_iinc (k := 0) (v := 58) (lv' := [(2, .int 58), (0, .ref h0), (1, .ref h1)]) hx hb dX3_releaseParts_34 hl rfl (by decide) (by decide) rfl (fun ls hl => ?_)
  refine lv_goto (tgt := 2) hx hb dX3_releaseParts_37 (by decide) ?_
  refine lv_iload_n hx hb dX3_releaseParts_2 rfl (lv_at hl 0 rfl) ?_
  refine lv_aload_n hx hb dX3_releaseParts_3 rfl (lv_at hl 2 rfl) ?_
  refine va_alen (v := 64) hx hb hK hP 0 0 rfl rfl (show Int32.ofNat 64 = 64 by decide) dX3_releaseParts_4 ?_
  refine lv_icmp_ge (tgt := 40) hx hb dX3_releaseParts_5 (by decide) (fun h9 => absurd h9 (by decide)) (fun _ => ?_)
  refine lv_aload_n hx hb dX3_releaseParts_8 rfl (lv_at hl 2 rfl) ?_
  refine lv_iload_n hx hb dX3_releaseParts_9 rfl (lv_at hl 0 rfl) ?_
  refine va_aldq hx hb hK hP 0 0 rfl rfl (by unfold vp_in; decide) dX3_releaseParts_10 ?_
  refine W.eq (g2 := F0 m 11 ls [.null]) rfl ?_
  refine lv_ifnullN (tgt := 34) hx hb dX3_releaseParts_11 (by decide) ?_
  refine lv_iinc (k := 0) (v := 59) (lv' := [(2, .int 59), (0, .ref h0), (1, .ref h1)]) hx hb dX3_releaseParts_34 hl rfl (by decide) (by decide) rfl (fun ls hl => ?_)
  refine lv_goto (tgt := 2) hx hb dX3_releaseParts_37 (by decide) ?_
  refine lv_iload_n hx hb dX3_releaseParts_2 rfl (lv_at hl 0 rfl) ?_
  refine lv_aload_n hx hb dX3_releaseParts_3 rfl (lv_at hl 2 rfl) ?_
  refine va_alen (v := 64) hx hb hK hP 0 0 rfl rfl (show Int32.ofNat 64 = 64 by decide) dX3_releaseParts_4 ?_
  refine lv_icmp_ge (tgt := 40) hx hb dX3_releaseParts_5 (by decide) (fun h9 => absurd h9 (by decide)) (fun _ => ?_)
  refine lv_aload_n hx hb dX3_releaseParts_8 rfl (lv_at hl 2 rfl) ?_
  refine lv_iload_n hx hb dX3_releaseParts_9 rfl (lv_at hl 0 rfl) ?_
  refine va_aldq hx hb hK hP 0 0 rfl rfl (by unfold vp_in; decide) dX3_releaseParts_10 ?_
  refine W.eq (g2 := F0 m 11 ls [.null]) rfl ?_
  refine lv_ifnullN (tgt := 34) hx hb dX3_releaseParts_11 (by decide) ?_
  refine lv_iinc (k := 0) (v := 60) (lv' := [(2, .int 60), (0, .ref h0), (1, .ref h1)]) hx hb dX3_releaseParts_34 hl rfl (by decide) (by decide) rfl (fun ls hl => ?_)
  refine lv_goto (tgt := 2) hx hb dX3_releaseParts_37 (by decide) ?_
  refine lv_iload_n hx hb dX3_releaseParts_2 rfl (lv_at hl 0 rfl) ?_
  refine lv_aload_n hx hb dX3_releaseParts_3 rfl (lv_at hl 2 rfl) ?_
  refine va_alen (v := 64) hx hb hK hP 0 0 rfl rfl (show Int32.ofNat 64 = 64 by decide) dX3_releaseParts_4 ?_
  refine lv_icmp_ge (tgt := 40) hx hb dX3_releaseParts_5 (by decide) (fun h9 => absurd h9 (by decide)) (fun _ => ?_)
  refine lv_aload_n hx hb dX3_releaseParts_8 rfl (lv_at hl 2 rfl) ?_
  refine lv_iload_n hx hb dX3_releaseParts_9 rfl (lv_at hl 0 rfl) ?_
  refine va_aldq hx hb hK hP 0 0 rfl rfl (by unfold vp_in; decide) dX3_releaseParts_10 ?_
  refine W.eq (g2 := F0 m 11 ls [.null]) rfl ?_
  refine lv_ifnullN (tgt := 34) hx hb dX3_releaseParts_11 (by decide) ?_
  refine lv_iinc (k := 0) (v := 61) (lv' := [(2, .int 61), (0, .ref h0), (1, .ref h1)]) hx hb dX3_releaseParts_34 hl rfl (by decide) (by decide) rfl (fun ls hl => ?_)
  refine lv_goto (tgt := 2) hx hb dX3_releaseParts_37 (by decide) ?_
  refine lv_iload_n hx hb dX3_releaseParts_2 rfl (lv_at hl 0 rfl) ?_
  refine lv_aload_n hx hb dX3_releaseParts_3 rfl (lv_at hl 2 rfl) ?_
  refine va_alen (v := 64) hx hb hK hP 0 0 rfl rfl (show Int32.ofNat 64 = 64 by decide) dX3_releaseParts_4 ?_
  refine lv_icmp_ge (tgt := 40) hx hb dX3_releaseParts_5 (by decide) (fun h9 => absurd h9 (by decide)) (fun _ => ?_)
  refine lv_aload_n hx hb dX3_releaseParts_8 rfl (lv_at hl 2 rfl) ?_
  refine lv_iload_n hx hb dX3_releaseParts_9 rfl (lv_at hl 0 rfl) ?_
  refine va_aldq hx hb hK hP 0 0 rfl rfl (by unfold vp_in; decide) dX3_releaseParts_10 ?_
  refine W.eq (g2 := F0 m 11 ls [.null]) rfl ?_
  refine lv_ifnullN (tgt := 34) hx hb dX3_releaseParts_11 (by decide) ?_
  refine lv_iinc (k := 0) (v := 62) (lv' := [(2, .int 62), (0, .ref h0), (1, .ref h1)]) hx hb dX3_releaseParts_34 hl rfl (by decide) (by decide) rfl (fun ls hl => ?_)
  refine lv_goto (tgt := 2) hx hb dX3_releaseParts_37 (by decide) ?_
  refine lv_iload_n hx hb dX3_releaseParts_2 rfl (lv_at hl 0 rfl) ?_
  refine lv_aload_n hx hb dX3_releaseParts_3 rfl (lv_at hl 2 rfl) ?_
  refine va_alen (v := 64) hx hb hK hP 0 0 rfl rfl (show Int32.ofNat 64 = 64 by decide) dX3_releaseParts_4 ?_
  refine lv_icmp_ge (tgt := 40) hx hb dX3_releaseParts_5 (by decide) (fun h9 => absurd h9 (by decide)) (fun _ => ?_)
  refine lv_aload_n hx hb dX3_releaseParts_8 rfl (lv_at hl 2 rfl) ?_
  refine lv_iload_n hx hb dX3_releaseParts_9 rfl (lv_at hl 0 rfl) ?_
  refine va_aldq hx hb hK hP 0 0 rfl rfl (by unfold vp_in; decide) dX3_releaseParts_10 ?_
  refine W.eq (g2 := F0 m 11 ls [.null]) rfl ?_
  refine lv_ifnullN (tgt := 34) hx hb dX3_releaseParts_11 (by decide) ?_
  refine lv_iinc (k := 0) (v := 63) (lv' := [(2, .int 63), (0, .ref h0), (1, .ref h1)]) hx hb dX3_releaseParts_34 hl rfl (by decide) (by decide) rfl (fun ls hl => ?_)
  refine lv_goto (tgt := 2) hx hb dX3_releaseParts_37 (by decide) ?_
  refine lv_iload_n hx hb dX3_releaseParts_2 rfl (lv_at hl 0 rfl) ?_
  refine lv_aload_n hx hb dX3_releaseParts_3 rfl (lv_at hl 2 rfl) ?_
  refine va_alen (v := 64) hx hb hK hP 0 0 rfl rfl (show Int32.ofNat 64 = 64 by decide) dX3_releaseParts_4 ?_
  refine lv_icmp_ge (tgt := 40) hx hb dX3_releaseParts_5 (by decide) (fun h9 => absurd h9 (by decide)) (fun _ => ?_)
  refine lv_aload_n hx hb dX3_releaseParts_8 rfl (lv_at hl 2 rfl) ?_
  refine lv_iload_n hx hb dX3_releaseParts_9 rfl (lv_at hl 0 rfl) ?_
  refine va_aldq hx hb hK hP 0 0 rfl rfl (by unfold vp_in; decide) dX3_releaseParts_10 ?_
  refine W.eq (g2 := F0 m 11 ls [.null]) rfl ?_
  refine lv_ifnullN (tgt := 34) hx hb dX3_releaseParts_11 (by decide) ?_
  refine lv_iinc (k := 0) (v := 64) (lv' := [(2, .int 64), (0, .ref h0), (1, .ref h1)]) hx hb dX3_releaseParts_34 hl rfl (by decide) (by decide) rfl (fun ls hl => ?_)
  refine lv_goto (tgt := 2) hx hb dX3_releaseParts_37 (by decide) ?_
  refine lv_iload_n hx hb dX3_releaseParts_2 rfl (lv_at hl 0 rfl) ?_
  refine lv_aload_n hx hb dX3_releaseParts_3 rfl (lv_at hl 2 rfl) ?_
  refine va_alen (v := 64) hx hb hK hP 0 0 rfl rfl (show Int32.ofNat 64 = 64 by decide) dX3_releaseParts_4 ?_
  refine lv_icmp_ge (tgt := 40) hx hb dX3_releaseParts_5 (by decide) (fun _ => ?_) (fun h9 => absurd (by decide) h9)
  have hP9 := hP.sub (ws' := [(h1, .inl (cB, 64, .inr (.inr (.inr (.inr (fun _ => none))))))]) [0] rfl
  have hD9 := hD.sub (ws' := [(h1, .inl (cB, 64, .inr (.inr (.inr (.inr (fun _ => none))))))]) [0] (by decide) rfl
  have hK9 := hK.sub (tys' := [(cB, .object RX10)]) [0] rfl
  refine W.widen (k := 0) (n := 0) (by decide) (by decide) ?_
  exact W.vret hx hb hr (fun t ht hW => ⟨⟨(), rfl, trivial, by rw [ht]; exact hP9, va_K.moved hW.alike hK9, hD9⟩, hS.F ht⟩) hS.2.2 dX3_releaseParts_40

abbrev ar_X3_giveUp (dC : Nat → ClassId) (dI : Nat → Nat → Nat) (A : Nat → Prop) (h0 h1 h2 : Nat) (cB : ClassId) (b1 b2 b3 b4 b5 b6 b7 b8 b9 : Value) (_ : Unit) (t : State) : Prop := va_P (dC, dI) vwCl [(h0, .inr (3, [.ref h2, b1, b2, .int 0, b4, b5, b6, b7, b8, b9])), (h2, .inl (cB, 64, .inr (.inr (.inr (.inr (fun _ => none))))))] t.heap ∧ va_K (dC, dI) vwCl [(cB, .object RX10)] t ∧ va_D A [(h0, .inr (3, [.ref h2, b1, b2, .int 0, b4, b5, b6, b7, b8, b9])), (h2, .inl (cB, 64, .inr (.inr (.inr (.inr (fun _ => none))))))]
theorem dX3_giveUp_0 : decode cX3_giveUp 0 = .ok (.aload_n 0, 1) := by decide +kernel
theorem dX3_giveUp_1 : decode cX3_giveUp 1 = .ok (.iconst 0, 1) := by decide +kernel
theorem dX3_giveUp_2 : decode cX3_giveUp 2 = .ok (.putfield 27, 3) := by decide +kernel
theorem dX3_giveUp_5 : decode cX3_giveUp 5 = .ok (.aload_n 1, 1) := by decide +kernel
theorem dX3_giveUp_6 : decode cX3_giveUp 6 = .ok (.aload_n 0, 1) := by decide +kernel
theorem dX3_giveUp_7 : decode cX3_giveUp 7 = .ok (.getfield 11, 3) := by decide +kernel
theorem dX3_giveUp_10 : decode cX3_giveUp 10 = .ok (.invokestatic 70, 3) := by decide +kernel
theorem dX3_giveUp_13 : decode cX3_giveUp 13 = .ok (.return_, 1) := by decide +kernel
def ww_X3_giveUp : List Cond := [.fieldLink RX3 27 "StreamHouse$Disk" "open" "I", .fieldLink RX3 11 "StreamHouse$Disk" "parts" "[LStreamHouse$Task;", .initialized RX3, .methodLink RX3 70 yX3_releaseParts, .static yX3_releaseParts]
def wv_X3_giveUp : List Cond := .code yX3_giveUp cX3_giveUp 2 none :: (ww_X3_giveUp ++ (u_ws RX3 TX3 10 ++ (wv_X3_releaseParts ++ [])))
theorem wm_X3_giveUp {w : Cond} (i : Nat) (h : ww_X3_giveUp[i]? = some w) : w ∈ wv_X3_giveUp := List.mem_cons_of_mem _ (List.mem_append_left _ (List.mem_of_getElem? h))
set_option maxRecDepth 100000 in
theorem gw_X3_giveUp : wv_X3_giveUp.all goodWord = true := by decide +kernel
theorem wh_X3_giveUp_X3 : ∀ w ∈ u_ws RX3 TX3 10, w ∈ wv_X3_giveUp := fun w h => List.mem_cons_of_mem _ (List.mem_append_right _ (List.mem_append_left _ h))
theorem wg_X3_giveUp_X3_releaseParts : GoodIn wv_X3_giveUp wv_X3_releaseParts := goodIn_sub (fun w h => List.mem_cons_of_mem _ (List.mem_append_right _ (List.mem_append_right _ (List.mem_append_left _ h)))) gw_X3_releaseParts
theorem wt_X3_giveUp_X3_releaseParts : GoodIn wv_X3_giveUp (va_wsS RX3 70 yX3_releaseParts wv_X3_releaseParts) := goodIn_app (goodIn_sub (fun w h => by simp only [List.mem_cons, List.not_mem_nil, or_false] at h; rcases h with rfl | rfl | rfl <;> first | exact wm_X3_giveUp 3 rfl | exact wm_X3_giveUp 4 rfl | exact wm_X3_giveUp 2 rfl) (by decide +kernel)) wg_X3_giveUp_X3_releaseParts
set_option maxHeartbeats 4000000 in
set_option maxRecDepth 100000 in
/-- giveUp -/
theorem r_X3_giveUp (l : Launch) (dC : Nat → ClassId) (dI : Nat → Nat → Nat) (h0 h1 h2 : Nat) (cB : ClassId) (b1 b2 b3 b4 b5 b6 b7 b8 b9 : Value) (sz : Nat) : Met l yX3_giveUp wv_X3_giveUp ({ frames := 1, cells := 0, slots := 0, locals := 22 }) (va_Pc [.ref h0, .ref h1] (fun U => U.heap.size = sz ∧ va_P (dC, dI) vwCl [(h0, .inr (3, [.ref h2, b1, b2, b3, b4, b5, b6, b7, b8, b9])), (h2, .inl (cB, 64, .inr (.inr (.inr (.inr (fun _ => none))))))] U.heap ∧ va_K (dC, dI) vwCl [(cB, .object RX10)] U ∧ va_D (fun _ => True) [(h0, .inr (3, [.ref h2, b1, b2, b3, b4, b5, b6, b7, b8, b9])), (h2, .inl (cB, 64, .inr (.inr (.inr (.inr (fun _ => none))))))])) (va_Qv (fun _ : Unit => True) (ar_X3_giveUp dC dI (va_A [(h0, .inr (3, [.ref h2, b1, b2, b3, b4, b5, b6, b7, b8, b9])), (h2, .inl (cB, 64, .inr (.inr (.inr (.inr (fun _ => none))))))] sz) h0 h1 h2 cB b1 b2 b3 b4 b5 b6 b7 b8 b9) (va_A [(h0, .inr (3, [.ref h2, b1, b2, b3, b4, b5, b6, b7, b8, b9])), (h2, .inl (cB, 64, .inr (.inr (.inr (.inr (fun _ => none))))))] sz)) 0 0 (va_A [(h0, .inr (3, [.ref h2, b1, b2, b3, b4, b5, b6, b7, b8, b9])), (h2, .inl (cB, 64, .inr (.inr (.inr (.inr (fun _ => none))))))] sz) := by
  refine Met.ofW (cc := cX3_giveUp) (maxL := 2) (ret := none) (by decide) rfl ?_
  intro p e s m args below meth c s₁ B hml hv
  obtain ⟨rfl, hsz, hP, hK, hD0⟩ := hv
  have hx := B.exec
  have hb := B.bytes
  have hr := B.returns
  have hts := atoms_spec (ws := wv_X3_giveUp) B.pre
  have hown : s.vm.findClass RX3 = some m.cls := findClass_of_methodNamed B.named
  have hlocks := B.notSynchronized
  subst hsz
  have hD := hD0.self (sz := s.heap.size)
  generalize hAe : va_A [(h0, .inr (3, [.ref h2, b1, b2, b3, b4, b5, b6, b7, b8, b9])), (h2, .inl (cB, 64, .inr (.inr (.inr (.inr (fun _ => none))))))] s.heap.size = A at hD ⊢
  have hA : ∀ q : Nat, s.heap.size ≤ q → A q := fun q h => by rw [← hAe]; exact Or.inr h
  have hS : va_S A s.heap s.heap [] := va_S.rf
  have hP : va_P (dC, dI) vwCl [(h0, .inr (3, [.ref h2, b1, b2, b3, b4, b5, b6, b7, b8, b9])), (h2, .inl (cB, 64, .inr (.inr (.inr (.inr (fun _ => none))))))] s.heap := hP
  have hl := lv_entry ([.ref h0, .ref h1]) (n := 2) (Nat.le_of_ble_eq_true rfl)
  rw [lg_entry_eq]
  generalize (lg_sl ([.ref h0, .ref h1]) ++ List.replicate (2 - (lg_sl ([.ref h0, .ref h1])).length) Slot.unset).toArray = ls at hl ⊢
  have hl : lv_has ls 2 [(0, .ref h0), (1, .ref h1)] := hl
  refine lv_aload_n hx hb dX3_giveUp_0 rfl (lv_at hl 0 rfl) ?_
  refine lv_iconst (v := 0) hx hb dX3_giveUp_1 (by decide) ?_
  refine va_put (D := (dC, dI)) (ci := 3) (v := .int 0) (ty := .int) (C := RX3) (T := TX3) (N := 10) hx hb hts wh_X3_giveUp_X3 tyX3 tyX3_ok nmX3 hown hK hP hD hS 0 rfl rfl 3 (by decide) (hts (.fieldLink RX3 27 "StreamHouse$Disk" "open" "I") (wm_X3_giveUp 0 rfl)) (fun _ h9 => h9) rfl (by decide +kernel) rfl rfl (Nat.le_of_ble_eq_true rfl) dX3_giveUp_2 (fun H locs hP hD hS => ?_)
  have hP : va_P (dC, dI) vwCl [(h0, .inr (3, [.ref h2, b1, b2, .int 0, b4, b5, b6, b7, b8, b9])), (h2, .inl (cB, 64, .inr (.inr (.inr (.inr (fun _ => none))))))] H := hP
  have hD : va_D A [(h0, .inr (3, [.ref h2, b1, b2, .int 0, b4, b5, b6, b7, b8, b9])), (h2, .inl (cB, 64, .inr (.inr (.inr (.inr (fun _ => none))))))] := hD
  refine lv_aload_n hx hb dX3_giveUp_5 rfl (lv_at hl 1 rfl) ?_
  refine lv_aload_n hx hb dX3_giveUp_6 rfl (lv_at hl 0 rfl) ?_
  refine va_get (D := (dC, dI)) (ci := 3) (v := .ref h2) (C := RX3) (T := TX3) (N := 10) hx hb hts wh_X3_giveUp_X3 hown hK hP 0 rfl rfl 0 (by decide) (hts (.fieldLink RX3 11 "StreamHouse$Disk" "parts" "[LStreamHouse$Task;") (wm_X3_giveUp 1 rfl)) (fun _ h9 => h9) rfl dX3_giveUp_7 ?_
  have hPc := hP.sub (ws' := [(h2, .inl (cB, 64, .inr (.inr (.inr (.inr (fun _ => none))))))]) [1] rfl
  have hDc := hD.sub (ws' := [(h2, .inl (cB, 64, .inr (.inr (.inr (.inr (fun _ => none))))))]) [1] (by decide) rfl
  have hKc := hK.sub (tys' := [(cB, .object RX10)]) [0] rfl
  have hFc := va_free (wc := [(h2, .inl (cB, 64, .inr (.inr (.inr (.inr (fun _ => none))))))]) hD hS hA [1] rfl
  have h_1 : 0 ≤ 0 := by decide
  have h_2 : 0 ≤ 0 := by decide
  refine va_callv (va_runS (As := [.ref h1, .ref h2]) (rest := []) ⟨hx, hb, hml, hown, hts⟩ (r_X3_releaseParts l dC dI h1 h2 cB _) (va_cwS 2 hts wt_X3_giveUp_X3_releaseParts rfl rfl rfl (by decide +kernel) ⟨Nat.le_of_ble_eq_true rfl, Nat.le_of_ble_eq_true rfl⟩) ⟨fun a U g mk q => by obtain ⟨q0, q1, qP, qK, qD⟩ := q; exact ⟨q0, q1, qP, va_K.moved (u := U) (U := U.calling g mk a) (Vm.Alike.refl U.vm) qK, qD⟩, fun U hU hW => ⟨rfl, by rw [hU], by rw [hU]; exact hPc, va_K.moved hW.alike hKc, hDc.weaken (fun _ _ _ _ => trivial)⟩⟩ rfl rfl hl.1 rfl (lv_room (Nat.le_of_ble_eq_true rfl)) dX3_giveUp_10 ⟨h_1, h_2⟩) hS (fun q _ h => hFc q h) hFc (fun u3 t H1 locs ht hvm hw hB hz1 hk1 hS => ?_)
  obtain ⟨hP1, hK1, hD1⟩ := hB
  rw [ht] at hP1
  have hK1 := va_K.moved hvm.symm hK1
  obtain ⟨hP, hD⟩ := va_join (wr := [(h0, .inr (3, [.ref h2, b1, b2, .int 0, b4, b5, b6, b7, b8, b9]))]) (w1 := [(h2, .inl (cB, 64, .inr (.inr (.inr (.inr (fun _ => none))))))]) hP hD [1] [0] rfl rfl (by decide) (by decide) hk1 hFc hP1 hD1
  have hK := (hK.sub (tys' := []) [] rfl).app hK1
  generalize H1 = H at hP hS ⊢
  have hP : va_P (dC, dI) vwCl [(h0, .inr (3, [.ref h2, b1, b2, .int 0, b4, b5, b6, b7, b8, b9])), (h2, .inl (cB, 64, .inr (.inr (.inr (.inr (fun _ => none))))))] H := hP
  have hD : va_D A [(h0, .inr (3, [.ref h2, b1, b2, .int 0, b4, b5, b6, b7, b8, b9])), (h2, .inl (cB, 64, .inr (.inr (.inr (.inr (fun _ => none))))))] := hD
  have hK : va_K (dC, dI) vwCl [(cB, .object RX10)] s := hK
  refine W.widen (k := 0) (n := 0) (by decide) (by decide) ?_
  have hP9 := hP.sub (ws' := [(h0, .inr (3, [.ref h2, b1, b2, .int 0, b4, b5, b6, b7, b8, b9])), (h2, .inl (cB, 64, .inr (.inr (.inr (.inr (fun _ => none))))))]) [0, 1] rfl
  have hD9 := hD.sub (ws' := [(h0, .inr (3, [.ref h2, b1, b2, .int 0, b4, b5, b6, b7, b8, b9])), (h2, .inl (cB, 64, .inr (.inr (.inr (.inr (fun _ => none))))))]) [0, 1] (by decide) rfl
  have hK9 := hK.sub (tys' := [(cB, .object RX10)]) [0] rfl
  refine W.widen (k := 0) (n := 0) (by decide) (by decide) ?_
  exact W.vret hx hb hr (fun t ht hW => ⟨⟨(), rfl, trivial, by rw [ht]; exact hP9, va_K.moved hW.alike hK9, hD9⟩, hS.F ht⟩) hS.2.2 dX3_giveUp_13

abbrev ar_X3_forgetMarks (dC : Nat → ClassId) (dI : Nat → Nat → Nat) (A : Nat → Prop) (h0 h1 h2 h3 : Nat) (cB cC : ClassId) (b2 b3 b4 b5 b6 b7 b8 b9 : Value) (_ : Unit) (t : State) : Prop := va_P (dC, dI) vwCl [(h0, .inr (3, [.ref h2, .ref h3, .int 0, .int 0, .int 0, b5, b6, b7, b8, b9])), (h2, .inl (cB, 64, .inr (.inr (.inr (.inr (fun _ => none)))))), (h3, .inl (cC, 64, .inr (.inr (.inr (.inr (fun _ => none))))))] t.heap ∧ va_K (dC, dI) vwCl [(cB, .object RX10), (cC, .object RX10)] t ∧ va_D A [(h0, .inr (3, [.ref h2, .ref h3, .int 0, .int 0, .int 0, b5, b6, b7, b8, b9])), (h2, .inl (cB, 64, .inr (.inr (.inr (.inr (fun _ => none)))))), (h3, .inl (cC, 64, .inr (.inr (.inr (.inr (fun _ => none))))))]
theorem dX3_forgetMarks_0 : decode cX3_forgetMarks 0 = .ok (.aload_n 0, 1) := by decide +kernel
theorem dX3_forgetMarks_1 : decode cX3_forgetMarks 1 = .ok (.aload_n 1, 1) := by decide +kernel
theorem dX3_forgetMarks_2 : decode cX3_forgetMarks 2 = .ok (.invokevirtual 74, 3) := by decide +kernel
theorem dX3_forgetMarks_5 : decode cX3_forgetMarks 5 = .ok (.aload_n 1, 1) := by decide +kernel
theorem dX3_forgetMarks_6 : decode cX3_forgetMarks 6 = .ok (.aload_n 0, 1) := by decide +kernel
theorem dX3_forgetMarks_7 : decode cX3_forgetMarks 7 = .ok (.getfield 17, 3) := by decide +kernel
theorem dX3_forgetMarks_10 : decode cX3_forgetMarks 10 = .ok (.invokestatic 70, 3) := by decide +kernel
theorem dX3_forgetMarks_13 : decode cX3_forgetMarks 13 = .ok (.aload_n 0, 1) := by decide +kernel
theorem dX3_forgetMarks_14 : decode cX3_forgetMarks 14 = .ok (.iconst 0, 1) := by decide +kernel
theorem dX3_forgetMarks_15 : decode cX3_forgetMarks 15 = .ok (.putfield 24, 3) := by decide +kernel
theorem dX3_forgetMarks_18 : decode cX3_forgetMarks 18 = .ok (.aload_n 0, 1) := by decide +kernel
theorem dX3_forgetMarks_19 : decode cX3_forgetMarks 19 = .ok (.iconst 0, 1) := by decide +kernel
theorem dX3_forgetMarks_20 : decode cX3_forgetMarks 20 = .ok (.putfield 64, 3) := by decide +kernel
theorem dX3_forgetMarks_23 : decode cX3_forgetMarks 23 = .ok (.return_, 1) := by decide +kernel
def ww_X3_forgetMarks : List Cond := [.initialized RX3, .methodLink RX3 74 yX3_giveUp, .instanceMethod yX3_giveUp, .selects RX3 yX3_giveUp yX3_giveUp, .fieldLink RX3 17 "StreamHouse$Disk" "sealed" "[LStreamHouse$Task;", .methodLink RX3 70 yX3_releaseParts, .static yX3_releaseParts, .fieldLink RX3 24 "StreamHouse$Disk" "asked" "I", .fieldLink RX3 64 "StreamHouse$Disk" "latest" "I"]
def wv_X3_forgetMarks : List Cond := .code yX3_forgetMarks cX3_forgetMarks 2 none :: (ww_X3_forgetMarks ++ (wv_X3_giveUp ++ (u_ws RX3 TX3 10 ++ (wv_X3_releaseParts ++ []))))
theorem wm_X3_forgetMarks {w : Cond} (i : Nat) (h : ww_X3_forgetMarks[i]? = some w) : w ∈ wv_X3_forgetMarks := List.mem_cons_of_mem _ (List.mem_append_left _ (List.mem_of_getElem? h))
set_option maxRecDepth 100000 in
theorem gw_X3_forgetMarks : wv_X3_forgetMarks.all goodWord = true := by decide +kernel
theorem wg_X3_forgetMarks_X3_giveUp : GoodIn wv_X3_forgetMarks wv_X3_giveUp := goodIn_sub (fun w h => List.mem_cons_of_mem _ (List.mem_append_right _ (List.mem_append_left _ h))) gw_X3_giveUp
theorem wV_X3_forgetMarks_X3_giveUp_74 : GoodIn wv_X3_forgetMarks (wsV RX3 74 RX3 yX3_giveUp wv_X3_giveUp) := goodIn_app (goodIn_sub (fun w h => by simp only [List.mem_cons, List.not_mem_nil, or_false] at h; rcases h with rfl | rfl | rfl | rfl <;> first | exact wm_X3_forgetMarks 1 rfl | exact wm_X3_forgetMarks 2 rfl | exact wm_X3_forgetMarks 3 rfl | exact wm_X3_forgetMarks 0 rfl) (by decide +kernel)) wg_X3_forgetMarks_X3_giveUp
theorem wh_X3_forgetMarks_X3 : ∀ w ∈ u_ws RX3 TX3 10, w ∈ wv_X3_forgetMarks := fun w h => List.mem_cons_of_mem _ (List.mem_append_right _ (List.mem_append_right _ (List.mem_append_left _ h)))
theorem wg_X3_forgetMarks_X3_releaseParts : GoodIn wv_X3_forgetMarks wv_X3_releaseParts := goodIn_sub (fun w h => List.mem_cons_of_mem _ (List.mem_append_right _ (List.mem_append_right _ (List.mem_append_right _ (List.mem_append_left _ h))))) gw_X3_releaseParts
theorem wt_X3_forgetMarks_X3_releaseParts : GoodIn wv_X3_forgetMarks (va_wsS RX3 70 yX3_releaseParts wv_X3_releaseParts) := goodIn_app (goodIn_sub (fun w h => by simp only [List.mem_cons, List.not_mem_nil, or_false] at h; rcases h with rfl | rfl | rfl <;> first | exact wm_X3_forgetMarks 5 rfl | exact wm_X3_forgetMarks 6 rfl | exact wm_X3_forgetMarks 0 rfl) (by decide +kernel)) wg_X3_forgetMarks_X3_releaseParts
set_option maxHeartbeats 4000000 in
set_option maxRecDepth 100000 in
/-- forgetMarks -/
theorem r_X3_forgetMarks (l : Launch) (dC : Nat → ClassId) (dI : Nat → Nat → Nat) (h0 h1 h2 h3 : Nat) (cB cC : ClassId) (b2 b3 b4 b5 b6 b7 b8 b9 : Value) (sz : Nat) : Met l yX3_forgetMarks wv_X3_forgetMarks ({ frames := 2, cells := 0, slots := 0, locals := 43 }) (va_Pc [.ref h0, .ref h1] (fun U => U.heap.size = sz ∧ va_P (dC, dI) vwCl [(h0, .inr (3, [.ref h2, .ref h3, b2, b3, b4, b5, b6, b7, b8, b9])), (h2, .inl (cB, 64, .inr (.inr (.inr (.inr (fun _ => none)))))), (h3, .inl (cC, 64, .inr (.inr (.inr (.inr (fun _ => none))))))] U.heap ∧ va_K (dC, dI) vwCl [(cB, .object RX10), (cC, .object RX10)] U ∧ va_D (fun _ => True) [(h0, .inr (3, [.ref h2, .ref h3, b2, b3, b4, b5, b6, b7, b8, b9])), (h2, .inl (cB, 64, .inr (.inr (.inr (.inr (fun _ => none)))))), (h3, .inl (cC, 64, .inr (.inr (.inr (.inr (fun _ => none))))))])) (va_Qv (fun _ : Unit => True) (ar_X3_forgetMarks dC dI (va_A [(h0, .inr (3, [.ref h2, .ref h3, b2, b3, b4, b5, b6, b7, b8, b9])), (h2, .inl (cB, 64, .inr (.inr (.inr (.inr (fun _ => none)))))), (h3, .inl (cC, 64, .inr (.inr (.inr (.inr (fun _ => none))))))] sz) h0 h1 h2 h3 cB cC b2 b3 b4 b5 b6 b7 b8 b9) (va_A [(h0, .inr (3, [.ref h2, .ref h3, b2, b3, b4, b5, b6, b7, b8, b9])), (h2, .inl (cB, 64, .inr (.inr (.inr (.inr (fun _ => none)))))), (h3, .inl (cC, 64, .inr (.inr (.inr (.inr (fun _ => none))))))] sz)) 0 0 (va_A [(h0, .inr (3, [.ref h2, .ref h3, b2, b3, b4, b5, b6, b7, b8, b9])), (h2, .inl (cB, 64, .inr (.inr (.inr (.inr (fun _ => none)))))), (h3, .inl (cC, 64, .inr (.inr (.inr (.inr (fun _ => none))))))] sz) := by
  refine Met.ofW (cc := cX3_forgetMarks) (maxL := 2) (ret := none) (by decide) rfl ?_
  intro p e s m args below meth c s₁ B hml hv
  obtain ⟨rfl, hsz, hP, hK, hD0⟩ := hv
  have hx := B.exec
  have hb := B.bytes
  have hr := B.returns
  have hts := atoms_spec (ws := wv_X3_forgetMarks) B.pre
  have hown : s.vm.findClass RX3 = some m.cls := findClass_of_methodNamed B.named
  have hlocks := B.notSynchronized
  subst hsz
  have hD := hD0.self (sz := s.heap.size)
  generalize hAe : va_A [(h0, .inr (3, [.ref h2, .ref h3, b2, b3, b4, b5, b6, b7, b8, b9])), (h2, .inl (cB, 64, .inr (.inr (.inr (.inr (fun _ => none)))))), (h3, .inl (cC, 64, .inr (.inr (.inr (.inr (fun _ => none))))))] s.heap.size = A at hD ⊢
  have hA : ∀ q : Nat, s.heap.size ≤ q → A q := fun q h => by rw [← hAe]; exact Or.inr h
  have hS : va_S A s.heap s.heap [] := va_S.rf
  have hP : va_P (dC, dI) vwCl [(h0, .inr (3, [.ref h2, .ref h3, b2, b3, b4, b5, b6, b7, b8, b9])), (h2, .inl (cB, 64, .inr (.inr (.inr (.inr (fun _ => none)))))), (h3, .inl (cC, 64, .inr (.inr (.inr (.inr (fun _ => none))))))] s.heap := hP
  have hl := lv_entry ([.ref h0, .ref h1]) (n := 2) (Nat.le_of_ble_eq_true rfl)
  rw [lg_entry_eq]
  generalize (lg_sl ([.ref h0, .ref h1]) ++ List.replicate (2 - (lg_sl ([.ref h0, .ref h1])).length) Slot.unset).toArray = ls at hl ⊢
  have hl : lv_has ls 2 [(0, .ref h0), (1, .ref h1)] := hl
  refine lv_aload_n hx hb dX3_forgetMarks_0 rfl (lv_at hl 0 rfl) ?_
  refine lv_aload_n hx hb dX3_forgetMarks_1 rfl (lv_at hl 1 rfl) ?_
  have hPc := hP.sub (ws' := [(h0, .inr (3, [.ref h2, .ref h3, b2, b3, b4, b5, b6, b7, b8, b9])), (h2, .inl (cB, 64, .inr (.inr (.inr (.inr (fun _ => none))))))]) [0, 1] rfl
  have hDc := hD.sub (ws' := [(h0, .inr (3, [.ref h2, .ref h3, b2, b3, b4, b5, b6, b7, b8, b9])), (h2, .inl (cB, 64, .inr (.inr (.inr (.inr (fun _ => none))))))]) [0, 1] (by decide) rfl
  have hKc := hK.sub (tys' := [(cB, .object RX10)]) [0] rfl
  have hFc := va_free (wc := [(h0, .inr (3, [.ref h2, .ref h3, b2, b3, b4, b5, b6, b7, b8, b9])), (h2, .inl (cB, 64, .inr (.inr (.inr (.inr (fun _ => none))))))]) hD hS hA [0, 1] rfl
  have h_1 : 0 ≤ 0 := by decide
  have h_2 : 0 ≤ 0 := by decide
  refine va_callv (va_runV (As := [.ref h1]) (rest := []) ⟨hx, hb, hml, hown, hts⟩ (r_X3_giveUp l dC dI h0 h1 h2 cB (.ref h3) b2 b3 b4 b5 b6 b7 b8 b9 _) (cwV 1 hts wV_X3_forgetMarks_X3_giveUp_74 rfl rfl rfl (by decide +kernel) ⟨Nat.le_of_ble_eq_true rfl, Nat.le_of_ble_eq_true rfl⟩) ⟨fun a U g mk q => by obtain ⟨q0, q1, qP, qK, qD⟩ := q; exact ⟨q0, q1, qP, va_K.moved (u := U) (U := U.calling g mk a) (Vm.Alike.refl U.vm) qK, qD⟩, va_recv hKc hPc (ci := 3) (q0 := 0) rfl rfl, fun U hU hW => ⟨rfl, by rw [hU], by rw [hU]; exact hPc, va_K.moved hW.alike hKc, hDc.weaken (fun _ _ _ _ => trivial)⟩⟩ rfl rfl hl.1 rfl (lv_room (Nat.le_of_ble_eq_true rfl)) dX3_forgetMarks_2 ⟨h_1, h_2⟩) hS (fun q _ h => hFc q h) hFc (fun u3 t H1 locs ht hvm hw hB hz1 hk1 hS => ?_)
  obtain ⟨hP1, hK1, hD1⟩ := hB
  rw [ht] at hP1
  have hK1 := va_K.moved hvm.symm hK1
  obtain ⟨hP, hD⟩ := va_join (wr := [(h3, .inl (cC, 64, .inr (.inr (.inr (.inr (fun _ => none))))))]) (w1 := [(h0, .inr (3, [.ref h2, .ref h3, b2, .int 0, b4, b5, b6, b7, b8, b9])), (h2, .inl (cB, 64, .inr (.inr (.inr (.inr (fun _ => none))))))]) hP hD [0, 1] [2] rfl rfl (by decide) (by decide) hk1 hFc hP1 hD1
  have hK := (hK.sub (tys' := [(cC, .object RX10)]) [1] rfl).app hK1
  generalize H1 = H at hP hS ⊢
  have hP : va_P (dC, dI) vwCl [(h3, .inl (cC, 64, .inr (.inr (.inr (.inr (fun _ => none)))))), (h0, .inr (3, [.ref h2, .ref h3, b2, .int 0, b4, b5, b6, b7, b8, b9])), (h2, .inl (cB, 64, .inr (.inr (.inr (.inr (fun _ => none))))))] H := hP
  have hD : va_D A [(h3, .inl (cC, 64, .inr (.inr (.inr (.inr (fun _ => none)))))), (h0, .inr (3, [.ref h2, .ref h3, b2, .int 0, b4, b5, b6, b7, b8, b9])), (h2, .inl (cB, 64, .inr (.inr (.inr (.inr (fun _ => none))))))] := hD
  have hK : va_K (dC, dI) vwCl [(cC, .object RX10), (cB, .object RX10)] s := hK
  refine W.widen (k := 0) (n := 0) (by decide) (by decide) ?_
  refine lv_aload_n hx hb dX3_forgetMarks_5 rfl (lv_at hl 1 rfl) ?_
  refine lv_aload_n hx hb dX3_forgetMarks_6 rfl (lv_at hl 0 rfl) ?_
  refine va_get (D := (dC, dI)) (ci := 3) (v := .ref h3) (C := RX3) (T := TX3) (N := 10) hx hb hts wh_X3_forgetMarks_X3 hown hK hP 1 rfl rfl 1 (by decide) (hts (.fieldLink RX3 17 "StreamHouse$Disk" "sealed" "[LStreamHouse$Task;") (wm_X3_forgetMarks 4 rfl)) (fun _ h9 => h9) rfl dX3_forgetMarks_7 ?_
  have hPc := hP.sub (ws' := [(h3, .inl (cC, 64, .inr (.inr (.inr (.inr (fun _ => none))))))]) [0] rfl
  have hDc := hD.sub (ws' := [(h3, .inl (cC, 64, .inr (.inr (.inr (.inr (fun _ => none))))))]) [0] (by decide) rfl
  have hKc := hK.sub (tys' := [(cC, .object RX10)]) [0] rfl
  have hFc := va_free (wc := [(h3, .inl (cC, 64, .inr (.inr (.inr (.inr (fun _ => none))))))]) hD hS hA [0] rfl
  have h_4 : 0 ≤ 0 := by decide
  have h_5 : 0 ≤ 0 := by decide
  refine va_callv (va_runS (As := [.ref h1, .ref h3]) (rest := []) ⟨hx, hb, hml, hown, hts⟩ (r_X3_releaseParts l dC dI h1 h3 cC _) (va_cwS 2 hts wt_X3_forgetMarks_X3_releaseParts rfl rfl rfl (by decide +kernel) ⟨Nat.le_of_ble_eq_true rfl, Nat.le_of_ble_eq_true rfl⟩) ⟨fun a U g mk q => by obtain ⟨q0, q1, qP, qK, qD⟩ := q; exact ⟨q0, q1, qP, va_K.moved (u := U) (U := U.calling g mk a) (Vm.Alike.refl U.vm) qK, qD⟩, fun U hU hW => ⟨rfl, by rw [hU], by rw [hU]; exact hPc, va_K.moved hW.alike hKc, hDc.weaken (fun _ _ _ _ => trivial)⟩⟩ rfl rfl hl.1 rfl (lv_room (Nat.le_of_ble_eq_true rfl)) dX3_forgetMarks_10 ⟨h_4, h_5⟩) hS (fun q _ h => hFc q h) hFc (fun u6 t H1 locs ht hvm hw hB hz1 hk1 hS => ?_)
  obtain ⟨hP1, hK1, hD1⟩ := hB
  rw [ht] at hP1
  have hK1 := va_K.moved hvm.symm hK1
  obtain ⟨hP, hD⟩ := va_join (wr := [(h0, .inr (3, [.ref h2, .ref h3, b2, .int 0, b4, b5, b6, b7, b8, b9])), (h2, .inl (cB, 64, .inr (.inr (.inr (.inr (fun _ => none))))))]) (w1 := [(h3, .inl (cC, 64, .inr (.inr (.inr (.inr (fun _ => none))))))]) hP hD [0] [1, 2] rfl rfl (by decide) (by decide) hk1 hFc hP1 hD1
  have hK := (hK.sub (tys' := [(cB, .object RX10)]) [1] rfl).app hK1
  generalize H1 = H at hP hS ⊢
  have hP : va_P (dC, dI) vwCl [(h0, .inr (3, [.ref h2, .ref h3, b2, .int 0, b4, b5, b6, b7, b8, b9])), (h2, .inl (cB, 64, .inr (.inr (.inr (.inr (fun _ => none)))))), (h3, .inl (cC, 64, .inr (.inr (.inr (.inr (fun _ => none))))))] H := hP
  have hD : va_D A [(h0, .inr (3, [.ref h2, .ref h3, b2, .int 0, b4, b5, b6, b7, b8, b9])), (h2, .inl (cB, 64, .inr (.inr (.inr (.inr (fun _ => none)))))), (h3, .inl (cC, 64, .inr (.inr (.inr (.inr (fun _ => none))))))] := hD
  have hK : va_K (dC, dI) vwCl [(cB, .object RX10), (cC, .object RX10)] s := hK
  refine W.widen (k := 0) (n := 0) (by decide) (by decide) ?_
  refine lv_aload_n hx hb dX3_forgetMarks_13 rfl (lv_at hl 0 rfl) ?_
  refine lv_iconst (v := 0) hx hb dX3_forgetMarks_14 (by decide) ?_
  refine va_put (D := (dC, dI)) (ci := 3) (v := .int 0) (ty := .int) (C := RX3) (T := TX3) (N := 10) hx hb hts wh_X3_forgetMarks_X3 tyX3 tyX3_ok nmX3 hown hK hP hD hS 0 rfl rfl 2 (by decide) (hts (.fieldLink RX3 24 "StreamHouse$Disk" "asked" "I") (wm_X3_forgetMarks 7 rfl)) (fun _ h9 => h9) rfl (by decide +kernel) rfl rfl (Nat.le_of_ble_eq_true rfl) dX3_forgetMarks_15 (fun H locs hP hD hS => ?_)
  have hP : va_P (dC, dI) vwCl [(h0, .inr (3, [.ref h2, .ref h3, .int 0, .int 0, b4, b5, b6, b7, b8, b9])), (h2, .inl (cB, 64, .inr (.inr (.inr (.inr (fun _ => none)))))), (h3, .inl (cC, 64, .inr (.inr (.inr (.inr (fun _ => none))))))] H := hP
  have hD : va_D A [(h0, .inr (3, [.ref h2, .ref h3, .int 0, .int 0, b4, b5, b6, b7, b8, b9])), (h2, .inl (cB, 64, .inr (.inr (.inr (.inr (fun _ => none)))))), (h3, .inl (cC, 64, .inr (.inr (.inr (.inr (fun _ => none))))))] := hD
  refine lv_aload_n hx hb dX3_forgetMarks_18 rfl (lv_at hl 0 rfl) ?_
  refine lv_iconst (v := 0) hx hb dX3_forgetMarks_19 (by decide) ?_
  refine va_put (D := (dC, dI)) (ci := 3) (v := .int 0) (ty := .int) (C := RX3) (T := TX3) (N := 10) hx hb hts wh_X3_forgetMarks_X3 tyX3 tyX3_ok nmX3 hown hK hP hD hS 0 rfl rfl 4 (by decide) (hts (.fieldLink RX3 64 "StreamHouse$Disk" "latest" "I") (wm_X3_forgetMarks 8 rfl)) (fun _ h9 => h9) rfl (by decide +kernel) rfl rfl (Nat.le_of_ble_eq_true rfl) dX3_forgetMarks_20 (fun H locs hP hD hS => ?_)
  have hP : va_P (dC, dI) vwCl [(h0, .inr (3, [.ref h2, .ref h3, .int 0, .int 0, .int 0, b5, b6, b7, b8, b9])), (h2, .inl (cB, 64, .inr (.inr (.inr (.inr (fun _ => none)))))), (h3, .inl (cC, 64, .inr (.inr (.inr (.inr (fun _ => none))))))] H := hP
  have hD : va_D A [(h0, .inr (3, [.ref h2, .ref h3, .int 0, .int 0, .int 0, b5, b6, b7, b8, b9])), (h2, .inl (cB, 64, .inr (.inr (.inr (.inr (fun _ => none)))))), (h3, .inl (cC, 64, .inr (.inr (.inr (.inr (fun _ => none))))))] := hD
  have hP9 := hP.sub (ws' := [(h0, .inr (3, [.ref h2, .ref h3, .int 0, .int 0, .int 0, b5, b6, b7, b8, b9])), (h2, .inl (cB, 64, .inr (.inr (.inr (.inr (fun _ => none)))))), (h3, .inl (cC, 64, .inr (.inr (.inr (.inr (fun _ => none))))))]) [0, 1, 2] rfl
  have hD9 := hD.sub (ws' := [(h0, .inr (3, [.ref h2, .ref h3, .int 0, .int 0, .int 0, b5, b6, b7, b8, b9])), (h2, .inl (cB, 64, .inr (.inr (.inr (.inr (fun _ => none)))))), (h3, .inl (cC, 64, .inr (.inr (.inr (.inr (fun _ => none))))))]) [0, 1, 2] (by decide) rfl
  have hK9 := hK.sub (tys' := [(cB, .object RX10), (cC, .object RX10)]) [0, 1] rfl
  refine W.widen (k := 0) (n := 0) (by decide) (by decide) ?_
  exact W.vret hx hb hr (fun t ht hW => ⟨⟨(), rfl, trivial, by rw [ht]; exact hP9, va_K.moved hW.alike hK9, hD9⟩, hS.F ht⟩) hS.2.2 dX3_forgetMarks_23

abbrev ar_X3_powerReturns (dC : Nat → ClassId) (dI : Nat → Nat → Nat) (A : Nat → Prop) (h0 : Nat) (b0 b1 b2 b3 b4 b5 b6 b7 b8 b9 : Value) (_ : Unit) (t : State) : Prop := va_P (dC, dI) vwCl [(h0, .inr (3, [b0, b1, b2, b3, b4, b5, b6, b7, .int ((-1)), .int 0]))] t.heap ∧ va_K (dC, dI) vwCl [] t ∧ va_D A [(h0, .inr (3, [b0, b1, b2, b3, b4, b5, b6, b7, .int ((-1)), .int 0]))]
theorem dX3_powerReturns_0 : decode cX3_powerReturns 0 = .ok (.aload_n 0, 1) := by decide +kernel
theorem dX3_powerReturns_1 : decode cX3_powerReturns 1 = .ok (.iconst 0, 1) := by decide +kernel
theorem dX3_powerReturns_2 : decode cX3_powerReturns 2 = .ok (.putfield 36, 3) := by decide +kernel
theorem dX3_powerReturns_5 : decode cX3_powerReturns 5 = .ok (.aload_n 0, 1) := by decide +kernel
theorem dX3_powerReturns_6 : decode cX3_powerReturns 6 = .ok (.iconst (-1), 1) := by decide +kernel
theorem dX3_powerReturns_7 : decode cX3_powerReturns 7 = .ok (.putfield 20, 3) := by decide +kernel
theorem dX3_powerReturns_10 : decode cX3_powerReturns 10 = .ok (.return_, 1) := by decide +kernel
def ww_X3_powerReturns : List Cond := [.fieldLink RX3 36 "StreamHouse$Disk" "down" "Z", .fieldLink RX3 20 "StreamHouse$Disk" "powerLeft" "I"]
def wv_X3_powerReturns : List Cond := .code yX3_powerReturns cX3_powerReturns 1 none :: (ww_X3_powerReturns ++ (u_ws RX3 TX3 10 ++ []))
theorem wm_X3_powerReturns {w : Cond} (i : Nat) (h : ww_X3_powerReturns[i]? = some w) : w ∈ wv_X3_powerReturns := List.mem_cons_of_mem _ (List.mem_append_left _ (List.mem_of_getElem? h))
set_option maxRecDepth 100000 in
theorem gw_X3_powerReturns : wv_X3_powerReturns.all goodWord = true := by decide +kernel
theorem wh_X3_powerReturns_X3 : ∀ w ∈ u_ws RX3 TX3 10, w ∈ wv_X3_powerReturns := fun w h => List.mem_cons_of_mem _ (List.mem_append_right _ (List.mem_append_left _ h))
set_option maxHeartbeats 4000000 in
set_option maxRecDepth 100000 in
/-- powerReturns -/
theorem r_X3_powerReturns (l : Launch) (dC : Nat → ClassId) (dI : Nat → Nat → Nat) (h0 : Nat) (b0 b1 b2 b3 b4 b5 b6 b7 b8 b9 : Value) (sz : Nat) : Met l yX3_powerReturns wv_X3_powerReturns ({ frames := 0, cells := 0, slots := 0, locals := 0 }) (va_Pc [.ref h0] (fun U => U.heap.size = sz ∧ va_P (dC, dI) vwCl [(h0, .inr (3, [b0, b1, b2, b3, b4, b5, b6, b7, b8, b9]))] U.heap ∧ va_K (dC, dI) vwCl [] U ∧ va_D (fun _ => True) [(h0, .inr (3, [b0, b1, b2, b3, b4, b5, b6, b7, b8, b9]))])) (va_Qv (fun _ : Unit => True) (ar_X3_powerReturns dC dI (va_A [(h0, .inr (3, [b0, b1, b2, b3, b4, b5, b6, b7, b8, b9]))] sz) h0 b0 b1 b2 b3 b4 b5 b6 b7 b8 b9) (va_A [(h0, .inr (3, [b0, b1, b2, b3, b4, b5, b6, b7, b8, b9]))] sz)) 0 0 (va_A [(h0, .inr (3, [b0, b1, b2, b3, b4, b5, b6, b7, b8, b9]))] sz) := by
  refine Met.ofW (cc := cX3_powerReturns) (maxL := 1) (ret := none) (by decide) rfl ?_
  intro p e s m args below meth c s₁ B hml hv
  obtain ⟨rfl, hsz, hP, hK, hD0⟩ := hv
  have hx := B.exec
  have hb := B.bytes
  have hr := B.returns
  have hts := atoms_spec (ws := wv_X3_powerReturns) B.pre
  have hown : s.vm.findClass RX3 = some m.cls := findClass_of_methodNamed B.named
  have hlocks := B.notSynchronized
  subst hsz
  have hD := hD0.self (sz := s.heap.size)
  generalize hAe : va_A [(h0, .inr (3, [b0, b1, b2, b3, b4, b5, b6, b7, b8, b9]))] s.heap.size = A at hD ⊢
  have hA : ∀ q : Nat, s.heap.size ≤ q → A q := fun q h => by rw [← hAe]; exact Or.inr h
  have hS : va_S A s.heap s.heap [] := va_S.rf
  have hP : va_P (dC, dI) vwCl [(h0, .inr (3, [b0, b1, b2, b3, b4, b5, b6, b7, b8, b9]))] s.heap := hP
  have hl := lv_entry ([.ref h0]) (n := 1) (Nat.le_of_ble_eq_true rfl)
  rw [lg_entry_eq]
  generalize (lg_sl ([.ref h0]) ++ List.replicate (1 - (lg_sl ([.ref h0])).length) Slot.unset).toArray = ls at hl ⊢
  have hl : lv_has ls 1 [(0, .ref h0)] := hl
  refine lv_aload_n hx hb dX3_powerReturns_0 rfl (lv_at hl 0 rfl) ?_
  refine lv_iconst (v := 0) hx hb dX3_powerReturns_1 (by decide) ?_
  refine va_put (D := (dC, dI)) (ci := 3) (v := .int 0) (ty := .boolean) (C := RX3) (T := TX3) (N := 10) hx hb hts wh_X3_powerReturns_X3 tyX3 tyX3_ok nmX3 hown hK hP hD hS 0 rfl rfl 9 (by decide) (hts (.fieldLink RX3 36 "StreamHouse$Disk" "down" "Z") (wm_X3_powerReturns 0 rfl)) (fun _ h9 => h9) rfl (by decide +kernel) rfl rfl (Nat.le_of_ble_eq_true rfl) dX3_powerReturns_2 (fun H locs hP hD hS => ?_)
  have hP : va_P (dC, dI) vwCl [(h0, .inr (3, [b0, b1, b2, b3, b4, b5, b6, b7, b8, .int 0]))] H := hP
  have hD : va_D A [(h0, .inr (3, [b0, b1, b2, b3, b4, b5, b6, b7, b8, .int 0]))] := hD
  refine lv_aload_n hx hb dX3_powerReturns_5 rfl (lv_at hl 0 rfl) ?_
  refine lv_iconst (v := (-1)) hx hb dX3_powerReturns_6 (by decide) ?_
  refine va_put (D := (dC, dI)) (ci := 3) (v := .int ((-1))) (ty := .int) (C := RX3) (T := TX3) (N := 10) hx hb hts wh_X3_powerReturns_X3 tyX3 tyX3_ok nmX3 hown hK hP hD hS 0 rfl rfl 8 (by decide) (hts (.fieldLink RX3 20 "StreamHouse$Disk" "powerLeft" "I") (wm_X3_powerReturns 1 rfl)) (fun _ h9 => h9) rfl (by decide +kernel) rfl rfl (Nat.le_of_ble_eq_true rfl) dX3_powerReturns_7 (fun H locs hP hD hS => ?_)
  have hP : va_P (dC, dI) vwCl [(h0, .inr (3, [b0, b1, b2, b3, b4, b5, b6, b7, .int ((-1)), .int 0]))] H := hP
  have hD : va_D A [(h0, .inr (3, [b0, b1, b2, b3, b4, b5, b6, b7, .int ((-1)), .int 0]))] := hD
  have hP9 := hP.sub (ws' := [(h0, .inr (3, [b0, b1, b2, b3, b4, b5, b6, b7, .int ((-1)), .int 0]))]) [0] rfl
  have hD9 := hD.sub (ws' := [(h0, .inr (3, [b0, b1, b2, b3, b4, b5, b6, b7, .int ((-1)), .int 0]))]) [0] (by decide) rfl
  have hK9 := hK.sub (tys' := []) [] rfl
  refine W.widen (k := 0) (n := 0) (by decide) (by decide) ?_
  exact W.vret hx hb hr (fun t ht hW => ⟨⟨(), rfl, trivial, by rw [ht]; exact hP9, va_K.moved hW.alike hK9, hD9⟩, hS.F ht⟩) hS.2.2 dX3_powerReturns_10

abbrev ar_X4_forget (dC : Nat → ClassId) (dI : Nat → Nat → Nat) (A : Nat → Prop) (h0 h1 h2 h3 : Nat) (cB cC cD : ClassId) (g1 g2 g3 : Nat → Int32) (b0 b1 b2 b3 b5 b6 b7 b8 b9 b10 b11 : Value) (_ : Unit) (t : State) : Prop := va_P (dC, dI) vwCl [(h0, .inr (4, [b0, .int 0, .int 0, b3, .ref h1, b5, b6, .int 0, b8, b9, b10, b11, .ref h2, .ref h3])), (h1, .inl (cB, 4, .inl (upd (upd (upd (upd g1 0 (-1)) 1 (-1)) 2 (-1)) 3 (-1)))), (h2, .inl (cC, 4, .inl (upd (upd (upd (upd g2 0 0) 1 0) 2 0) 3 0))), (h3, .inl (cD, 4, .inl (upd (upd (upd (upd g3 0 (vp_nar .boolean 0)) 1 (vp_nar .boolean 0)) 2 (vp_nar .boolean 0)) 3 (vp_nar .boolean 0))))] t.heap ∧ va_K (dC, dI) vwCl [(cD, .boolean), (cB, .int), (cC, .int)] t ∧ va_D A [(h0, .inr (4, [b0, .int 0, .int 0, b3, .ref h1, b5, b6, .int 0, b8, b9, b10, b11, .ref h2, .ref h3])), (h1, .inl (cB, 4, .inl (upd (upd (upd (upd g1 0 (-1)) 1 (-1)) 2 (-1)) 3 (-1)))), (h2, .inl (cC, 4, .inl (upd (upd (upd (upd g2 0 0) 1 0) 2 0) 3 0))), (h3, .inl (cD, 4, .inl (upd (upd (upd (upd g3 0 (vp_nar .boolean 0)) 1 (vp_nar .boolean 0)) 2 (vp_nar .boolean 0)) 3 (vp_nar .boolean 0))))]
theorem dX4_forget_0 : decode cX4_forget 0 = .ok (.aload_n 0, 1) := by decide +kernel
theorem dX4_forget_1 : decode cX4_forget 1 = .ok (.iconst 0, 1) := by decide +kernel
theorem dX4_forget_2 : decode cX4_forget 2 = .ok (.putfield 53, 3) := by decide +kernel
theorem dX4_forget_5 : decode cX4_forget 5 = .ok (.aload_n 0, 1) := by decide +kernel
theorem dX4_forget_6 : decode cX4_forget 6 = .ok (.iconst 0, 1) := by decide +kernel
theorem dX4_forget_7 : decode cX4_forget 7 = .ok (.putfield 57, 3) := by decide +kernel
theorem dX4_forget_10 : decode cX4_forget 10 = .ok (.aload_n 0, 1) := by decide +kernel
theorem dX4_forget_11 : decode cX4_forget 11 = .ok (.iconst 0, 1) := by decide +kernel
theorem dX4_forget_12 : decode cX4_forget 12 = .ok (.putfield 60, 3) := by decide +kernel
theorem dX4_forget_15 : decode cX4_forget 15 = .ok (.aload_n 0, 1) := by decide +kernel
theorem dX4_forget_16 : decode cX4_forget 16 = .ok (.getfield 21, 3) := by decide +kernel
theorem dX4_forget_19 : decode cX4_forget 19 = .ok (.iconst (-1), 1) := by decide +kernel
theorem dX4_forget_20 : decode cX4_forget 20 = .ok (.invokestatic 47, 3) := by decide +kernel
theorem dX4_forget_23 : decode cX4_forget 23 = .ok (.aload_n 0, 1) := by decide +kernel
theorem dX4_forget_24 : decode cX4_forget 24 = .ok (.getfield 39, 3) := by decide +kernel
theorem dX4_forget_27 : decode cX4_forget 27 = .ok (.iconst 0, 1) := by decide +kernel
theorem dX4_forget_28 : decode cX4_forget 28 = .ok (.invokestatic 47, 3) := by decide +kernel
theorem dX4_forget_31 : decode cX4_forget 31 = .ok (.iconst 0, 1) := by decide +kernel
theorem dX4_forget_32 : decode cX4_forget 32 = .ok (.istore_n 1, 1) := by decide +kernel
theorem dX4_forget_33 : decode cX4_forget 33 = .ok (.iload_n 1, 1) := by decide +kernel
theorem dX4_forget_34 : decode cX4_forget 34 = .ok (.iconst 4, 1) := by decide +kernel
theorem dX4_forget_35 : decode cX4_forget 35 = .ok (.if_icmp .ge 16, 3) := by decide +kernel
theorem dX4_forget_38 : decode cX4_forget 38 = .ok (.aload_n 0, 1) := by decide +kernel
theorem dX4_forget_39 : decode cX4_forget 39 = .ok (.getfield 42, 3) := by decide +kernel
theorem dX4_forget_42 : decode cX4_forget 42 = .ok (.iload_n 1, 1) := by decide +kernel
theorem dX4_forget_43 : decode cX4_forget 43 = .ok (.iconst 0, 1) := by decide +kernel
theorem dX4_forget_44 : decode cX4_forget 44 = .ok (.bastore, 1) := by decide +kernel
theorem dX4_forget_45 : decode cX4_forget 45 = .ok (.iinc 1 1, 3) := by decide +kernel
theorem dX4_forget_48 : decode cX4_forget 48 = .ok (.goto (-15), 3) := by decide +kernel
theorem dX4_forget_51 : decode cX4_forget 51 = .ok (.return_, 1) := by decide +kernel
def ww_X4_forget : List Cond := [.fieldLink RX4 53 "StreamHouse$Job" "count" "I", .fieldLink RX4 57 "StreamHouse$Job" "outputs" "I", .fieldLink RX4 60 "StreamHouse$Job" "length" "I", .fieldLink RX4 21 "StreamHouse$Job" "sourceOps" "[I", .initialized RJ7, .methodLink RX4 47 yJ7_fill_53178, .static yJ7_fill_53178, .fieldLink RX4 39 "StreamHouse$Job" "givenCount" "[I", .fieldLink RX4 42 "StreamHouse$Job" "closed" "[Z"]
def wv_X4_forget : List Cond := .code yX4_forget cX4_forget 2 none :: (ww_X4_forget ++ (u_ws RX4 TX4 14 ++ (wv_J7_fill_53178 ++ [])))
theorem wm_X4_forget {w : Cond} (i : Nat) (h : ww_X4_forget[i]? = some w) : w ∈ wv_X4_forget := List.mem_cons_of_mem _ (List.mem_append_left _ (List.mem_of_getElem? h))
set_option maxRecDepth 100000 in
theorem gw_X4_forget : wv_X4_forget.all goodWord = true := by decide +kernel
theorem wh_X4_forget_X4 : ∀ w ∈ u_ws RX4 TX4 14, w ∈ wv_X4_forget := fun w h => List.mem_cons_of_mem _ (List.mem_append_right _ (List.mem_append_left _ h))
theorem wg_X4_forget_J7_fill_53178 : GoodIn wv_X4_forget wv_J7_fill_53178 := goodIn_sub (fun w h => List.mem_cons_of_mem _ (List.mem_append_right _ (List.mem_append_right _ (List.mem_append_left _ h)))) gw_J7_fill_53178
theorem wt_X4_forget_J7_fill_53178 : GoodIn wv_X4_forget (va_wsS RX4 47 yJ7_fill_53178 wv_J7_fill_53178) := goodIn_app (goodIn_sub (fun w h => by simp only [List.mem_cons, List.not_mem_nil, or_false] at h; rcases h with rfl | rfl | rfl <;> first | exact wm_X4_forget 5 rfl | exact wm_X4_forget 6 rfl | exact wm_X4_forget 4 rfl) (by decide +kernel)) wg_X4_forget_J7_fill_53178
set_option maxHeartbeats 4000000 in
set_option maxRecDepth 100000 in
/-- Job.forget() -/
theorem r_X4_forget (l : Launch) (dC : Nat → ClassId) (dI : Nat → Nat → Nat) (h0 h1 h2 h3 : Nat) (cB cC cD : ClassId) (g1 g2 g3 : Nat → Int32) (b0 b1 b2 b3 b5 b6 b7 b8 b9 b10 b11 : Value) (sz : Nat) : Met l yX4_forget wv_X4_forget ({ frames := 1, cells := 0, slots := 0, locals := 23 }) (va_Pc [.ref h0] (fun U => U.heap.size = sz ∧ va_P (dC, dI) vwCl [(h0, .inr (4, [b0, b1, b2, b3, .ref h1, b5, b6, b7, b8, b9, b10, b11, .ref h2, .ref h3])), (h1, .inl (cB, 4, .inl g1)), (h2, .inl (cC, 4, .inl g2)), (h3, .inl (cD, 4, .inl g3))] U.heap ∧ va_K (dC, dI) vwCl [(cB, .int), (cC, .int), (cD, .boolean)] U ∧ va_D (fun _ => True) [(h0, .inr (4, [b0, b1, b2, b3, .ref h1, b5, b6, b7, b8, b9, b10, b11, .ref h2, .ref h3])), (h1, .inl (cB, 4, .inl g1)), (h2, .inl (cC, 4, .inl g2)), (h3, .inl (cD, 4, .inl g3))])) (va_Qv (fun _ : Unit => True) (ar_X4_forget dC dI (va_A [(h0, .inr (4, [b0, b1, b2, b3, .ref h1, b5, b6, b7, b8, b9, b10, b11, .ref h2, .ref h3])), (h1, .inl (cB, 4, .inl g1)), (h2, .inl (cC, 4, .inl g2)), (h3, .inl (cD, 4, .inl g3))] sz) h0 h1 h2 h3 cB cC cD g1 g2 g3 b0 b1 b2 b3 b5 b6 b7 b8 b9 b10 b11) (va_A [(h0, .inr (4, [b0, b1, b2, b3, .ref h1, b5, b6, b7, b8, b9, b10, b11, .ref h2, .ref h3])), (h1, .inl (cB, 4, .inl g1)), (h2, .inl (cC, 4, .inl g2)), (h3, .inl (cD, 4, .inl g3))] sz)) 0 0 (va_A [(h0, .inr (4, [b0, b1, b2, b3, .ref h1, b5, b6, b7, b8, b9, b10, b11, .ref h2, .ref h3])), (h1, .inl (cB, 4, .inl g1)), (h2, .inl (cC, 4, .inl g2)), (h3, .inl (cD, 4, .inl g3))] sz) := by
  refine Met.ofW (cc := cX4_forget) (maxL := 2) (ret := none) (by decide) rfl ?_
  intro p e s m args below meth c s₁ B hml hv
  obtain ⟨rfl, hsz, hP, hK, hD0⟩ := hv
  have hx := B.exec
  have hb := B.bytes
  have hr := B.returns
  have hts := atoms_spec (ws := wv_X4_forget) B.pre
  have hown : s.vm.findClass RX4 = some m.cls := findClass_of_methodNamed B.named
  have hlocks := B.notSynchronized
  subst hsz
  have hD := hD0.self (sz := s.heap.size)
  generalize hAe : va_A [(h0, .inr (4, [b0, b1, b2, b3, .ref h1, b5, b6, b7, b8, b9, b10, b11, .ref h2, .ref h3])), (h1, .inl (cB, 4, .inl g1)), (h2, .inl (cC, 4, .inl g2)), (h3, .inl (cD, 4, .inl g3))] s.heap.size = A at hD ⊢
  have hA : ∀ q : Nat, s.heap.size ≤ q → A q := fun q h => by rw [← hAe]; exact Or.inr h
  have hS : va_S A s.heap s.heap [] := va_S.rf
  have hP : va_P (dC, dI) vwCl [(h0, .inr (4, [b0, b1, b2, b3, .ref h1, b5, b6, b7, b8, b9, b10, b11, .ref h2, .ref h3])), (h1, .inl (cB, 4, .inl g1)), (h2, .inl (cC, 4, .inl g2)), (h3, .inl (cD, 4, .inl g3))] s.heap := hP
  have hl := lv_entry ([.ref h0]) (n := 2) (Nat.le_of_ble_eq_true rfl)
  rw [lg_entry_eq]
  generalize (lg_sl ([.ref h0]) ++ List.replicate (2 - (lg_sl ([.ref h0])).length) Slot.unset).toArray = ls at hl ⊢
  have hl : lv_has ls 2 [(0, .ref h0)] := hl
  refine lv_aload_n hx hb dX4_forget_0 rfl (lv_at hl 0 rfl) ?_
  refine lv_iconst (v := 0) hx hb dX4_forget_1 (by decide) ?_
  refine va_put (D := (dC, dI)) (ci := 4) (v := .int 0) (ty := .int) (C := RX4) (T := TX4) (N := 14) hx hb hts wh_X4_forget_X4 tyX4 tyX4_ok nmX4 hown hK hP hD hS 0 rfl rfl 1 (by decide) (hts (.fieldLink RX4 53 "StreamHouse$Job" "count" "I") (wm_X4_forget 0 rfl)) (fun _ h9 => h9) rfl (by decide +kernel) rfl rfl (Nat.le_of_ble_eq_true rfl) dX4_forget_2 (fun H locs hP hD hS => ?_)
  have hP : va_P (dC, dI) vwCl [(h0, .inr (4, [b0, .int 0, b2, b3, .ref h1, b5, b6, b7, b8, b9, b10, b11, .ref h2, .ref h3])), (h1, .inl (cB, 4, .inl g1)), (h2, .inl (cC, 4, .inl g2)), (h3, .inl (cD, 4, .inl g3))] H := hP
  have hD : va_D A [(h0, .inr (4, [b0, .int 0, b2, b3, .ref h1, b5, b6, b7, b8, b9, b10, b11, .ref h2, .ref h3])), (h1, .inl (cB, 4, .inl g1)), (h2, .inl (cC, 4, .inl g2)), (h3, .inl (cD, 4, .inl g3))] := hD
  refine lv_aload_n hx hb dX4_forget_5 rfl (lv_at hl 0 rfl) ?_
  refine lv_iconst (v := 0) hx hb dX4_forget_6 (by decide) ?_
  refine va_put (D := (dC, dI)) (ci := 4) (v := .int 0) (ty := .int) (C := RX4) (T := TX4) (N := 14) hx hb hts wh_X4_forget_X4 tyX4 tyX4_ok nmX4 hown hK hP hD hS 0 rfl rfl 2 (by decide) (hts (.fieldLink RX4 57 "StreamHouse$Job" "outputs" "I") (wm_X4_forget 1 rfl)) (fun _ h9 => h9) rfl (by decide +kernel) rfl rfl (Nat.le_of_ble_eq_true rfl) dX4_forget_7 (fun H locs hP hD hS => ?_)
  have hP : va_P (dC, dI) vwCl [(h0, .inr (4, [b0, .int 0, .int 0, b3, .ref h1, b5, b6, b7, b8, b9, b10, b11, .ref h2, .ref h3])), (h1, .inl (cB, 4, .inl g1)), (h2, .inl (cC, 4, .inl g2)), (h3, .inl (cD, 4, .inl g3))] H := hP
  have hD : va_D A [(h0, .inr (4, [b0, .int 0, .int 0, b3, .ref h1, b5, b6, b7, b8, b9, b10, b11, .ref h2, .ref h3])), (h1, .inl (cB, 4, .inl g1)), (h2, .inl (cC, 4, .inl g2)), (h3, .inl (cD, 4, .inl g3))] := hD
  refine lv_aload_n hx hb dX4_forget_10 rfl (lv_at hl 0 rfl) ?_
  refine lv_iconst (v := 0) hx hb dX4_forget_11 (by decide) ?_
  refine va_put (D := (dC, dI)) (ci := 4) (v := .int 0) (ty := .int) (C := RX4) (T := TX4) (N := 14) hx hb hts wh_X4_forget_X4 tyX4 tyX4_ok nmX4 hown hK hP hD hS 0 rfl rfl 7 (by decide) (hts (.fieldLink RX4 60 "StreamHouse$Job" "length" "I") (wm_X4_forget 2 rfl)) (fun _ h9 => h9) rfl (by decide +kernel) rfl rfl (Nat.le_of_ble_eq_true rfl) dX4_forget_12 (fun H locs hP hD hS => ?_)
  have hP : va_P (dC, dI) vwCl [(h0, .inr (4, [b0, .int 0, .int 0, b3, .ref h1, b5, b6, .int 0, b8, b9, b10, b11, .ref h2, .ref h3])), (h1, .inl (cB, 4, .inl g1)), (h2, .inl (cC, 4, .inl g2)), (h3, .inl (cD, 4, .inl g3))] H := hP
  have hD : va_D A [(h0, .inr (4, [b0, .int 0, .int 0, b3, .ref h1, b5, b6, .int 0, b8, b9, b10, b11, .ref h2, .ref h3])), (h1, .inl (cB, 4, .inl g1)), (h2, .inl (cC, 4, .inl g2)), (h3, .inl (cD, 4, .inl g3))] := hD
  refine lv_aload_n hx hb dX4_forget_15 rfl (lv_at hl 0 rfl) ?_
  refine va_get (D := (dC, dI)) (ci := 4) (v := .ref h1) (C := RX4) (T := TX4) (N := 14) hx hb hts wh_X4_forget_X4 hown hK hP 0 rfl rfl 4 (by decide) (hts (.fieldLink RX4 21 "StreamHouse$Job" "sourceOps" "[I") (wm_X4_forget 3 rfl)) (fun _ h9 => h9) rfl dX4_forget_16 ?_
  refine lv_iconst (v := (-1)) hx hb dX4_forget_19 (by decide) ?_
  have hPc := hP.sub (ws' := [(h1, .inl (cB, 4, .inl g1))]) [1] rfl
  have hDc := hD.sub (ws' := [(h1, .inl (cB, 4, .inl g1))]) [1] (by decide) rfl
  have hKc := hK.sub (tys' := [(cB, .int)]) [0] rfl
  have hFc := va_free (wc := [(h1, .inl (cB, 4, .inl g1))]) hD hS hA [1] rfl
  have h_1 : 0 ≤ 0 := by decide
  have h_2 : 0 ≤ 0 := by decide
  refine va_callv (va_runS (As := [.ref h1, .int ((-1))]) (rest := []) ⟨hx, hb, hml, hown, hts⟩ (c_J7_fill_53178 l dC dI h1 (-1) cB g1 _) (va_cwS 2 hts wt_X4_forget_J7_fill_53178 rfl rfl rfl (by decide +kernel) ⟨Nat.le_of_ble_eq_true rfl, Nat.le_of_ble_eq_true rfl⟩) ⟨fun a U g mk q => by obtain ⟨q0, q1, qP, qK, qD⟩ := q; exact ⟨q0, q1, qP, va_K.moved (u := U) (U := U.calling g mk a) (Vm.Alike.refl U.vm) qK, qD⟩, fun U hU hW => ⟨rfl, by rw [hU], by rw [hU]; exact hPc, va_K.moved hW.alike hKc, hDc.weaken (fun _ _ _ _ => trivial)⟩⟩ rfl rfl hl.1 rfl (lv_room (Nat.le_of_ble_eq_true rfl)) dX4_forget_20 ⟨h_1, h_2⟩) hS (fun q _ h => hFc q h) hFc (fun u3 t H1 locs ht hvm hw hB hz1 hk1 hS => ?_)
  obtain ⟨hP1, hK1, hD1⟩ := hB
  rw [ht] at hP1
  have hK1 := va_K.moved hvm.symm hK1
  obtain ⟨hP, hD⟩ := va_join (wr := [(h0, .inr (4, [b0, .int 0, .int 0, b3, .ref h1, b5, b6, .int 0, b8, b9, b10, b11, .ref h2, .ref h3])), (h2, .inl (cC, 4, .inl g2)), (h3, .inl (cD, 4, .inl g3))]) (w1 := [(h1, .inl (cB, 4, .inl (upd (upd (upd (upd g1 0 (-1)) 1 (-1)) 2 (-1)) 3 (-1))))]) hP hD [1] [0, 2, 3] rfl rfl (by decide) (by decide) hk1 hFc hP1 hD1
  have hK := (hK.sub (tys' := [(cC, .int), (cD, .boolean)]) [1, 2] rfl).app hK1
  generalize H1 = H at hP hS ⊢
  have hP : va_P (dC, dI) vwCl [(h0, .inr (4, [b0, .int 0, .int 0, b3, .ref h1, b5, b6, .int 0, b8, b9, b10, b11, .ref h2, .ref h3])), (h2, .inl (cC, 4, .inl g2)), (h3, .inl (cD, 4, .inl g3)), (h1, .inl (cB, 4, .inl (upd (upd (upd (upd g1 0 (-1)) 1 (-1)) 2 (-1)) 3 (-1))))] H := hP
  have hD : va_D A [(h0, .inr (4, [b0, .int 0, .int 0, b3, .ref h1, b5, b6, .int 0, b8, b9, b10, b11, .ref h2, .ref h3])), (h2, .inl (cC, 4, .inl g2)), (h3, .inl (cD, 4, .inl g3)), (h1, .inl (cB, 4, .inl (upd (upd (upd (upd g1 0 (-1)) 1 (-1)) 2 (-1)) 3 (-1))))] := hD
  have hK : va_K (dC, dI) vwCl [(cC, .int), (cD, .boolean), (cB, .int)] s := hK
  refine W.widen (k := 0) (n := 0) (by decide) (by decide) ?_
  refine lv_aload_n hx hb dX4_forget_23 rfl (lv_at hl 0 rfl) ?_
  refine va_get (D := (dC, dI)) (ci := 4) (v := .ref h2) (C := RX4) (T := TX4) (N := 14) hx hb hts wh_X4_forget_X4 hown hK hP 0 rfl rfl 12 (by decide) (hts (.fieldLink RX4 39 "StreamHouse$Job" "givenCount" "[I") (wm_X4_forget 7 rfl)) (fun _ h9 => h9) rfl dX4_forget_24 ?_
  refine lv_iconst (v := 0) hx hb dX4_forget_27 (by decide) ?_
  have hPc := hP.sub (ws' := [(h2, .inl (cC, 4, .inl g2))]) [1] rfl
  have hDc := hD.sub (ws' := [(h2, .inl (cC, 4, .inl g2))]) [1] (by decide) rfl
  have hKc := hK.sub (tys' := [(cC, .int)]) [0] rfl
  have hFc := va_free (wc := [(h2, .inl (cC, 4, .inl g2))]) hD hS hA [1] rfl
  have h_4 : 0 ≤ 0 := by decide
  have h_5 : 0 ≤ 0 := by decide
  refine va_callv (va_runS (As := [.ref h2, .int 0]) (rest := []) ⟨hx, hb, hml, hown, hts⟩ (c_J7_fill_53178 l dC dI h2 0 cC g2 _) (va_cwS 2 hts wt_X4_forget_J7_fill_53178 rfl rfl rfl (by decide +kernel) ⟨Nat.le_of_ble_eq_true rfl, Nat.le_of_ble_eq_true rfl⟩) ⟨fun a U g mk q => by obtain ⟨q0, q1, qP, qK, qD⟩ := q; exact ⟨q0, q1, qP, va_K.moved (u := U) (U := U.calling g mk a) (Vm.Alike.refl U.vm) qK, qD⟩, fun U hU hW => ⟨rfl, by rw [hU], by rw [hU]; exact hPc, va_K.moved hW.alike hKc, hDc.weaken (fun _ _ _ _ => trivial)⟩⟩ rfl rfl hl.1 rfl (lv_room (Nat.le_of_ble_eq_true rfl)) dX4_forget_28 ⟨h_4, h_5⟩) hS (fun q _ h => hFc q h) hFc (fun u6 t H1 locs ht hvm hw hB hz1 hk1 hS => ?_)
  obtain ⟨hP1, hK1, hD1⟩ := hB
  rw [ht] at hP1
  have hK1 := va_K.moved hvm.symm hK1
  obtain ⟨hP, hD⟩ := va_join (wr := [(h0, .inr (4, [b0, .int 0, .int 0, b3, .ref h1, b5, b6, .int 0, b8, b9, b10, b11, .ref h2, .ref h3])), (h3, .inl (cD, 4, .inl g3)), (h1, .inl (cB, 4, .inl (upd (upd (upd (upd g1 0 (-1)) 1 (-1)) 2 (-1)) 3 (-1))))]) (w1 := [(h2, .inl (cC, 4, .inl (upd (upd (upd (upd g2 0 0) 1 0) 2 0) 3 0)))]) hP hD [1] [0, 2, 3] rfl rfl (by decide) (by decide) hk1 hFc hP1 hD1
  have hK := (hK.sub (tys' := [(cD, .boolean), (cB, .int)]) [1, 2] rfl).app hK1
  generalize H1 = H at hP hS ⊢
  have hP : va_P (dC, dI) vwCl [(h0, .inr (4, [b0, .int 0, .int 0, b3, .ref h1, b5, b6, .int 0, b8, b9, b10, b11, .ref h2, .ref h3])), (h3, .inl (cD, 4, .inl g3)), (h1, .inl (cB, 4, .inl (upd (upd (upd (upd g1 0 (-1)) 1 (-1)) 2 (-1)) 3 (-1)))), (h2, .inl (cC, 4, .inl (upd (upd (upd (upd g2 0 0) 1 0) 2 0) 3 0)))] H := hP
  have hD : va_D A [(h0, .inr (4, [b0, .int 0, .int 0, b3, .ref h1, b5, b6, .int 0, b8, b9, b10, b11, .ref h2, .ref h3])), (h3, .inl (cD, 4, .inl g3)), (h1, .inl (cB, 4, .inl (upd (upd (upd (upd g1 0 (-1)) 1 (-1)) 2 (-1)) 3 (-1)))), (h2, .inl (cC, 4, .inl (upd (upd (upd (upd g2 0 0) 1 0) 2 0) 3 0)))] := hD
  have hK : va_K (dC, dI) vwCl [(cD, .boolean), (cB, .int), (cC, .int)] s := hK
  refine W.widen (k := 0) (n := 0) (by decide) (by decide) ?_
  refine lv_iconst (v := 0) hx hb dX4_forget_31 (by decide) ?_
  refine lv_istore_n (lv' := [(1, .int 0), (0, .ref h0)]) hx hb dX4_forget_32 rfl hl (by decide) rfl (fun ls hl => ?_)
  refine lv_iload_n hx hb dX4_forget_33 rfl (lv_at hl 0 rfl) ?_
  refine lv_iconst (v := 4) hx hb dX4_forget_34 (by decide) ?_
  refine lv_icmp_ge (tgt := 51) hx hb dX4_forget_35 (by decide) (fun h9 => absurd h9 (by decide)) (fun _ => ?_)
  refine lv_aload_n hx hb dX4_forget_38 rfl (lv_at hl 1 rfl) ?_
  refine va_get (D := (dC, dI)) (ci := 4) (v := .ref h3) (C := RX4) (T := TX4) (N := 14) hx hb hts wh_X4_forget_X4 hown hK hP 0 rfl rfl 13 (by decide) (hts (.fieldLink RX4 42 "StreamHouse$Job" "closed" "[Z") (wm_X4_forget 8 rfl)) (fun _ h9 => h9) rfl dX4_forget_39 ?_
  refine lv_iload_n hx hb dX4_forget_42 rfl (lv_at hl 0 rfl) ?_
  refine lv_iconst (v := 0) hx hb dX4_forget_43 (by decide) ?_
  refine va_zast hx hb hK hP hD hS 1 0 rfl rfl (by unfold vp_in; decide) dX4_forget_44 (fun H locs hP hD hS => ?_)
  have hP : va_P (dC, dI) vwCl [(h0, .inr (4, [b0, .int 0, .int 0, b3, .ref h1, b5, b6, .int 0, b8, b9, b10, b11, .ref h2, .ref h3])), (h3, .inl (cD, 4, .inl (upd g3 0 (vp_nar .boolean 0)))), (h1, .inl (cB, 4, .inl (upd (upd (upd (upd g1 0 (-1)) 1 (-1)) 2 (-1)) 3 (-1)))), (h2, .inl (cC, 4, .inl (upd (upd (upd (upd g2 0 0) 1 0) 2 0) 3 0)))] H := hP
  have hD : va_D A [(h0, .inr (4, [b0, .int 0, .int 0, b3, .ref h1, b5, b6, .int 0, b8, b9, b10, b11, .ref h2, .ref h3])), (h3, .inl (cD, 4, .inl (upd g3 0 (vp_nar .boolean 0)))), (h1, .inl (cB, 4, .inl (upd (upd (upd (upd g1 0 (-1)) 1 (-1)) 2 (-1)) 3 (-1)))), (h2, .inl (cC, 4, .inl (upd (upd (upd (upd g2 0 0) 1 0) 2 0) 3 0)))] := hD
  refine lv_iinc (k := 0) (v := 1) (lv' := [(1, .int 1), (0, .ref h0)]) hx hb dX4_forget_45 hl rfl (by decide) (by decide) rfl (fun ls hl => ?_)
  refine lv_goto (tgt := 33) hx hb dX4_forget_48 (by decide) ?_
  refine lv_iload_n hx hb dX4_forget_33 rfl (lv_at hl 0 rfl) ?_
  refine lv_iconst (v := 4) hx hb dX4_forget_34 (by decide) ?_
  refine lv_icmp_ge (tgt := 51) hx hb dX4_forget_35 (by decide) (fun h9 => absurd h9 (by decide)) (fun _ => ?_)
  refine lv_aload_n hx hb dX4_forget_38 rfl (lv_at hl 1 rfl) ?_
  refine va_get (D := (dC, dI)) (ci := 4) (v := .ref h3) (C := RX4) (T := TX4) (N := 14) hx hb hts wh_X4_forget_X4 hown hK hP 0 rfl rfl 13 (by decide) (hts (.fieldLink RX4 42 "StreamHouse$Job" "closed" "[Z") (wm_X4_forget 8 rfl)) (fun _ h9 => h9) rfl dX4_forget_39 ?_
  refine lv_iload_n hx hb dX4_forget_42 rfl (lv_at hl 0 rfl) ?_
  refine lv_iconst (v := 0) hx hb dX4_forget_43 (by decide) ?_
  refine va_zast hx hb hK hP hD hS 1 0 rfl rfl (by unfold vp_in; decide) dX4_forget_44 (fun H locs hP hD hS => ?_)
  have hP : va_P (dC, dI) vwCl [(h0, .inr (4, [b0, .int 0, .int 0, b3, .ref h1, b5, b6, .int 0, b8, b9, b10, b11, .ref h2, .ref h3])), (h3, .inl (cD, 4, .inl (upd (upd g3 0 (vp_nar .boolean 0)) 1 (vp_nar .boolean 0)))), (h1, .inl (cB, 4, .inl (upd (upd (upd (upd g1 0 (-1)) 1 (-1)) 2 (-1)) 3 (-1)))), (h2, .inl (cC, 4, .inl (upd (upd (upd (upd g2 0 0) 1 0) 2 0) 3 0)))] H := hP
  have hD : va_D A [(h0, .inr (4, [b0, .int 0, .int 0, b3, .ref h1, b5, b6, .int 0, b8, b9, b10, b11, .ref h2, .ref h3])), (h3, .inl (cD, 4, .inl (upd (upd g3 0 (vp_nar .boolean 0)) 1 (vp_nar .boolean 0)))), (h1, .inl (cB, 4, .inl (upd (upd (upd (upd g1 0 (-1)) 1 (-1)) 2 (-1)) 3 (-1)))), (h2, .inl (cC, 4, .inl (upd (upd (upd (upd g2 0 0) 1 0) 2 0) 3 0)))] := hD
  refine lv_iinc (k := 0) (v := 2) (lv' := [(1, .int 2), (0, .ref h0)]) hx hb dX4_forget_45 hl rfl (by decide) (by decide) rfl (fun ls hl => ?_)
  refine lv_goto (tgt := 33) hx hb dX4_forget_48 (by decide) ?_
  refine lv_iload_n hx hb dX4_forget_33 rfl (lv_at hl 0 rfl) ?_
  refine lv_iconst (v := 4) hx hb dX4_forget_34 (by decide) ?_
  refine lv_icmp_ge (tgt := 51) hx hb dX4_forget_35 (by decide) (fun h9 => absurd h9 (by decide)) (fun _ => ?_)
  refine lv_aload_n hx hb dX4_forget_38 rfl (lv_at hl 1 rfl) ?_
  refine va_get (D := (dC, dI)) (ci := 4) (v := .ref h3) (C := RX4) (T := TX4) (N := 14) hx hb hts wh_X4_forget_X4 hown hK hP 0 rfl rfl 13 (by decide) (hts (.fieldLink RX4 42 "StreamHouse$Job" "closed" "[Z") (wm_X4_forget 8 rfl)) (fun _ h9 => h9) rfl dX4_forget_39 ?_
  refine lv_iload_n hx hb dX4_forget_42 rfl (lv_at hl 0 rfl) ?_
  refine lv_iconst (v := 0) hx hb dX4_forget_43 (by decide) ?_
  refine va_zast hx hb hK hP hD hS 1 0 rfl rfl (by unfold vp_in; decide) dX4_forget_44 (fun H locs hP hD hS => ?_)
  have hP : va_P (dC, dI) vwCl [(h0, .inr (4, [b0, .int 0, .int 0, b3, .ref h1, b5, b6, .int 0, b8, b9, b10, b11, .ref h2, .ref h3])), (h3, .inl (cD, 4, .inl (upd (upd (upd g3 0 (vp_nar .boolean 0)) 1 (vp_nar .boolean 0)) 2 (vp_nar .boolean 0)))), (h1, .inl (cB, 4, .inl (upd (upd (upd (upd g1 0 (-1)) 1 (-1)) 2 (-1)) 3 (-1)))), (h2, .inl (cC, 4, .inl (upd (upd (upd (upd g2 0 0) 1 0) 2 0) 3 0)))] H := hP
  have hD : va_D A [(h0, .inr (4, [b0, .int 0, .int 0, b3, .ref h1, b5, b6, .int 0, b8, b9, b10, b11, .ref h2, .ref h3])), (h3, .inl (cD, 4, .inl (upd (upd (upd g3 0 (vp_nar .boolean 0)) 1 (vp_nar .boolean 0)) 2 (vp_nar .boolean 0)))), (h1, .inl (cB, 4, .inl (upd (upd (upd (upd g1 0 (-1)) 1 (-1)) 2 (-1)) 3 (-1)))), (h2, .inl (cC, 4, .inl (upd (upd (upd (upd g2 0 0) 1 0) 2 0) 3 0)))] := hD
  refine lv_iinc (k := 0) (v := 3) (lv' := [(1, .int 3), (0, .ref h0)]) hx hb dX4_forget_45 hl rfl (by decide) (by decide) rfl (fun ls hl => ?_)
  refine lv_goto (tgt := 33) hx hb dX4_forget_48 (by decide) ?_
  refine lv_iload_n hx hb dX4_forget_33 rfl (lv_at hl 0 rfl) ?_
  refine lv_iconst (v := 4) hx hb dX4_forget_34 (by decide) ?_
  refine lv_icmp_ge (tgt := 51) hx hb dX4_forget_35 (by decide) (fun h9 => absurd h9 (by decide)) (fun _ => ?_)
  refine lv_aload_n hx hb dX4_forget_38 rfl (lv_at hl 1 rfl) ?_
  refine va_get (D := (dC, dI)) (ci := 4) (v := .ref h3) (C := RX4) (T := TX4) (N := 14) hx hb hts wh_X4_forget_X4 hown hK hP 0 rfl rfl 13 (by decide) (hts (.fieldLink RX4 42 "StreamHouse$Job" "closed" "[Z") (wm_X4_forget 8 rfl)) (fun _ h9 => h9) rfl dX4_forget_39 ?_
  refine lv_iload_n hx hb dX4_forget_42 rfl (lv_at hl 0 rfl) ?_
  refine lv_iconst (v := 0) hx hb dX4_forget_43 (by decide) ?_
  refine va_zast hx hb hK hP hD hS 1 0 rfl rfl (by unfold vp_in; decide) dX4_forget_44 (fun H locs hP hD hS => ?_)
  have hP : va_P (dC, dI) vwCl [(h0, .inr (4, [b0, .int 0, .int 0, b3, .ref h1, b5, b6, .int 0, b8, b9, b10, b11, .ref h2, .ref h3])), (h3, .inl (cD, 4, .inl (upd (upd (upd (upd g3 0 (vp_nar .boolean 0)) 1 (vp_nar .boolean 0)) 2 (vp_nar .boolean 0)) 3 (vp_nar .boolean 0)))), (h1, .inl (cB, 4, .inl (upd (upd (upd (upd g1 0 (-1)) 1 (-1)) 2 (-1)) 3 (-1)))), (h2, .inl (cC, 4, .inl (upd (upd (upd (upd g2 0 0) 1 0) 2 0) 3 0)))] H := hP
  have hD : va_D A [(h0, .inr (4, [b0, .int 0, .int 0, b3, .ref h1, b5, b6, .int 0, b8, b9, b10, b11, .ref h2, .ref h3])), (h3, .inl (cD, 4, .inl (upd (upd (upd (upd g3 0 (vp_nar .boolean 0)) 1 (vp_nar .boolean 0)) 2 (vp_nar .boolean 0)) 3 (vp_nar .boolean 0)))), (h1, .inl (cB, 4, .inl (upd (upd (upd (upd g1 0 (-1)) 1 (-1)) 2 (-1)) 3 (-1)))), (h2, .inl (cC, 4, .inl (upd (upd (upd (upd g2 0 0) 1 0) 2 0) 3 0)))] := hD
  refine lv_iinc (k := 0) (v := 4) (lv' := [(1, .int 4), (0, .ref h0)]) hx hb dX4_forget_45 hl rfl (by decide) (by decide) rfl (fun ls hl => ?_)
  refine lv_goto (tgt := 33) hx hb dX4_forget_48 (by decide) ?_
  refine lv_iload_n hx hb dX4_forget_33 rfl (lv_at hl 0 rfl) ?_
  refine lv_iconst (v := 4) hx hb dX4_forget_34 (by decide) ?_
  refine lv_icmp_ge (tgt := 51) hx hb dX4_forget_35 (by decide) (fun _ => ?_) (fun h9 => absurd (by decide) h9)
  have hP9 := hP.sub (ws' := [(h0, .inr (4, [b0, .int 0, .int 0, b3, .ref h1, b5, b6, .int 0, b8, b9, b10, b11, .ref h2, .ref h3])), (h1, .inl (cB, 4, .inl (upd (upd (upd (upd g1 0 (-1)) 1 (-1)) 2 (-1)) 3 (-1)))), (h2, .inl (cC, 4, .inl (upd (upd (upd (upd g2 0 0) 1 0) 2 0) 3 0))), (h3, .inl (cD, 4, .inl (upd (upd (upd (upd g3 0 (vp_nar .boolean 0)) 1 (vp_nar .boolean 0)) 2 (vp_nar .boolean 0)) 3 (vp_nar .boolean 0))))]) [0, 2, 3, 1] rfl
  have hD9 := hD.sub (ws' := [(h0, .inr (4, [b0, .int 0, .int 0, b3, .ref h1, b5, b6, .int 0, b8, b9, b10, b11, .ref h2, .ref h3])), (h1, .inl (cB, 4, .inl (upd (upd (upd (upd g1 0 (-1)) 1 (-1)) 2 (-1)) 3 (-1)))), (h2, .inl (cC, 4, .inl (upd (upd (upd (upd g2 0 0) 1 0) 2 0) 3 0))), (h3, .inl (cD, 4, .inl (upd (upd (upd (upd g3 0 (vp_nar .boolean 0)) 1 (vp_nar .boolean 0)) 2 (vp_nar .boolean 0)) 3 (vp_nar .boolean 0))))]) [0, 2, 3, 1] (by decide) rfl
  have hK9 := hK.sub (tys' := [(cD, .boolean), (cB, .int), (cC, .int)]) [0, 1, 2] rfl
  refine W.widen (k := 0) (n := 0) (by decide) (by decide) ?_
  exact W.vret hx hb hr (fun t ht hW => ⟨⟨(), rfl, trivial, by rw [ht]; exact hP9, va_K.moved hW.alike hK9, hD9⟩, hS.F ht⟩) hS.2.2 dX4_forget_51


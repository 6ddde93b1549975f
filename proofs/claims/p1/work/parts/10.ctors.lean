abbrev at_X1_init (dC : Nat → ClassId) (dI : Nat → Nat → Nat) (A : Nat → Prop) (h0 : Nat) (u : Unit) (t : State) : Prop := match u with
  | _ => va_P (dC, dI) vwCl [(h0, .inr (1, [.null, .null, .int 0]))] t.heap ∧ va_K (dC, dI) vwCl [] t ∧ va_D A [(h0, .inr (1, [.null, .null, .int 0]))]
theorem dX1_init_0 : decode cX1_init 0 = .ok (.aload_n 0, 1) := by decide +kernel
theorem dX1_init_1 : decode cX1_init 1 = .ok (.invokespecial 3, 3) := by decide +kernel
theorem dX1_init_4 : decode cX1_init 4 = .ok (.return_, 1) := by decide +kernel
def ww_X1_init : List Cond := [.methodLink RX1 3 objectInit, .instanceMethod objectInit, .code objectInit ⟨#[0xb1]⟩ 1 none]
def wv_X1_init : List Cond := .code yX1_init cX1_init 1 none :: (ww_X1_init ++ [])
theorem wm_X1_init {w : Cond} (i : Nat) (h : ww_X1_init[i]? = some w) : w ∈ wv_X1_init := List.mem_cons_of_mem _ (List.mem_append_left _ (List.mem_of_getElem? h))
theorem gw_X1_init : wv_X1_init.all goodWord = true := by decide +kernel
set_option maxHeartbeats 4000000 in
set_option maxRecDepth 100000 in
/-- Chain() -/
theorem c_X1_init (l : Launch) (dC : Nat → ClassId) (dI : Nat → Nat → Nat) (h0 : Nat) (sz : Nat) : Met l yX1_init wv_X1_init ({ frames := 1, cells := 0, slots := 0, locals := 12 }) (va_Pc [.ref h0] (fun U => U.heap.size = sz ∧ va_P (dC, dI) vwCl [(h0, .inr (1, [.null, .null, .int 0]))] U.heap ∧ va_K (dC, dI) vwCl [] U ∧ va_D (fun _ => True) [(h0, .inr (1, [.null, .null, .int 0]))])) (va_Qv (fun _ : Unit => True) (at_X1_init dC dI (va_A [(h0, .inr (1, [.null, .null, .int 0]))] sz) h0) (va_A [(h0, .inr (1, [.null, .null, .int 0]))] sz)) 0 0 (va_A [(h0, .inr (1, [.null, .null, .int 0]))] sz) := by
  refine Met.ofW (cc := cX1_init) (maxL := 1) (ret := none) (by decide) rfl ?_
  intro p e s m args below meth c s₁ B hml hv
  obtain ⟨rfl, hsz, hP, hK, hD0⟩ := hv
  have hx := B.exec
  have hb := B.bytes
  have hr := B.returns
  have hts := atoms_spec (ws := wv_X1_init) B.pre
  have hown : s.vm.findClass RX1 = some m.cls := findClass_of_methodNamed B.named
  have hlocks := B.notSynchronized
  have hin0 : meth.name = "<init>" := (name_of_methodNamed B.named B.method).1
  subst hsz
  have hD := hD0.self (sz := s.heap.size)
  generalize hAe : va_A [(h0, .inr (1, [.null, .null, .int 0]))] s.heap.size = A at hD ⊢
  have hA : ∀ q : Nat, s.heap.size ≤ q → A q := fun q h => by rw [← hAe]; exact Or.inr h
  have hS : va_S A s.heap s.heap [] := va_S.rf
  have hP : va_P (dC, dI) vwCl [(h0, .inr (1, [.null, .null, .int 0]))] s.heap := hP
  have hl := lv_entry ([.ref h0]) (n := 1) (Nat.le_of_ble_eq_true rfl)
  rw [lg_entry_eq]
  generalize (lg_sl ([.ref h0]) ++ List.replicate (1 - (lg_sl ([.ref h0])).length) Slot.unset).toArray = ls at hl ⊢
  have hl : lv_has ls 1 [(0, .ref h0)] := hl
  refine lv_aload_n hx hb dX1_init_0 rfl (lv_at hl 0 rfl) ?_
  refine W.objInit hx hb hown (hts (.methodLink RX1 3 objectInit) (wm_X1_init 0 rfl)) (hts (.instanceMethod objectInit) (wm_X1_init 1 rfl)) (hts (.code objectInit ⟨#[0xb1]⟩ 1 none) (wm_X1_init 2 rfl)) rfl (by rw [hml]; exact hl.1) rfl dX1_init_1 (Nat.le_of_ble_eq_true rfl) (Nat.le_of_ble_eq_true rfl) ?_
  refine W.eq (g2 := F0 m 4 ls []) rfl ?_
  have hP9 := hP.sub (ws' := [(h0, .inr (1, [.null, .null, .int 0]))]) [0] rfl
  have hD9 := hD.sub (ws' := [(h0, .inr (1, [.null, .null, .int 0]))]) [0] (by decide) rfl
  have hK9 := hK.sub (tys' := []) [] rfl
  exact W.vret hx hb hr (fun t ht hW => ⟨⟨(), rfl, trivial, by rw [ht]; exact hP9, va_K.moved hW.alike hK9, hD9⟩, hS.F ht⟩) hS.2.2 dX1_init_4

abbrev at_X5_init (dC : Nat → ClassId) (dI : Nat → Nat → Nat) (A : Nat → Prop) (h0 : Nat) (u : Nat × Nat × Nat) (t : State) : Prop := match u with
  | (q3, q7, q11) => va_P (dC, dI) vwCl [(h0, .inr (5, [.ref q3, .ref q7, .ref q11, .int 0, .int 0, .long 0, .int 0, .int 0, .int 0, .int 0, .int 0, .int 0, .int 0, .int 0, .int 0, .int 0, .int 0]))] t.heap ∧ va_K (dC, dI) vwCl [] t ∧ va_D A [(h0, .inr (5, [.ref q3, .ref q7, .ref q11, .int 0, .int 0, .long 0, .int 0, .int 0, .int 0, .int 0, .int 0, .int 0, .int 0, .int 0, .int 0, .int 0, .int 0]))]
theorem dX5_init_0 : decode cX5_init 0 = .ok (.aload_n 0, 1) := by decide +kernel
theorem dX5_init_1 : decode cX5_init 1 = .ok (.invokespecial 3, 3) := by decide +kernel
theorem dX5_init_4 : decode cX5_init 4 = .ok (.aload_n 0, 1) := by decide +kernel
theorem dX5_init_5 : decode cX5_init 5 = .ok (.bipush 8, 2) := by decide +kernel
theorem dX5_init_7 : decode cX5_init 7 = .ok (.newarray .long, 2) := by decide +kernel
theorem dX5_init_9 : decode cX5_init 9 = .ok (.putfield 9, 3) := by decide +kernel
theorem dX5_init_12 : decode cX5_init 12 = .ok (.aload_n 0, 1) := by decide +kernel
theorem dX5_init_13 : decode cX5_init 13 = .ok (.bipush 8, 2) := by decide +kernel
theorem dX5_init_15 : decode cX5_init 15 = .ok (.newarray .int, 2) := by decide +kernel
theorem dX5_init_17 : decode cX5_init 17 = .ok (.putfield 15, 3) := by decide +kernel
theorem dX5_init_20 : decode cX5_init 20 = .ok (.aload_n 0, 1) := by decide +kernel
theorem dX5_init_21 : decode cX5_init 21 = .ok (.iconst 4, 1) := by decide +kernel
theorem dX5_init_22 : decode cX5_init 22 = .ok (.newarray .int, 2) := by decide +kernel
theorem dX5_init_24 : decode cX5_init 24 = .ok (.putfield 19, 3) := by decide +kernel
theorem dX5_init_27 : decode cX5_init 27 = .ok (.return_, 1) := by decide +kernel
def ww_X5_init : List Cond := [.methodLink RX5 3 objectInit, .instanceMethod objectInit, .code objectInit ⟨#[0xb1]⟩ 1 none, .arrayClass .long, .fieldLink RX5 9 "StreamHouse$Op" "names" "[J", .arrayClass .int, .fieldLink RX5 15 "StreamHouse$Op" "values" "[I", .fieldLink RX5 19 "StreamHouse$Op" "aggregates" "[I"]
def wv_X5_init : List Cond := .code yX5_init cX5_init 1 none :: (ww_X5_init ++ (u_ws RX5 TX5 17 ++ []))
theorem wm_X5_init {w : Cond} (i : Nat) (h : ww_X5_init[i]? = some w) : w ∈ wv_X5_init := List.mem_cons_of_mem _ (List.mem_append_left _ (List.mem_of_getElem? h))
theorem gw_X5_init : wv_X5_init.all goodWord = true := by decide +kernel
theorem wh_X5_init_X5 : ∀ w ∈ u_ws RX5 TX5 17, w ∈ wv_X5_init := fun w h => List.mem_cons_of_mem _ (List.mem_append_right _ (List.mem_append_left _ h))
set_option maxHeartbeats 4000000 in
set_option maxRecDepth 100000 in
/-- Op(): three arrays -/
theorem c_X5_init (l : Launch) (dC : Nat → ClassId) (dI : Nat → Nat → Nat) (h0 : Nat) (sz : Nat) : Met l yX5_init wv_X5_init ({ frames := 1, cells := 3, slots := 20, locals := 12 }) (va_Pc [.ref h0] (fun U => U.heap.size = sz ∧ va_P (dC, dI) vwCl [(h0, .inr (5, [.null, .null, .null, .int 0, .int 0, .long 0, .int 0, .int 0, .int 0, .int 0, .int 0, .int 0, .int 0, .int 0, .int 0, .int 0, .int 0]))] U.heap ∧ va_K (dC, dI) vwCl [] U ∧ va_D (fun _ => True) [(h0, .inr (5, [.null, .null, .null, .int 0, .int 0, .long 0, .int 0, .int 0, .int 0, .int 0, .int 0, .int 0, .int 0, .int 0, .int 0, .int 0, .int 0]))])) (va_Qv (fun _ : Nat × Nat × Nat => True) (at_X5_init dC dI (va_A [(h0, .inr (5, [.null, .null, .null, .int 0, .int 0, .long 0, .int 0, .int 0, .int 0, .int 0, .int 0, .int 0, .int 0, .int 0, .int 0, .int 0, .int 0]))] sz) h0) (va_A [(h0, .inr (5, [.null, .null, .null, .int 0, .int 0, .long 0, .int 0, .int 0, .int 0, .int 0, .int 0, .int 0, .int 0, .int 0, .int 0, .int 0, .int 0]))] sz)) 3 20 (va_A [(h0, .inr (5, [.null, .null, .null, .int 0, .int 0, .long 0, .int 0, .int 0, .int 0, .int 0, .int 0, .int 0, .int 0, .int 0, .int 0, .int 0, .int 0]))] sz) := by
  refine Met.ofW (cc := cX5_init) (maxL := 1) (ret := none) (by decide) rfl ?_
  intro p e s m args below meth c s₁ B hml hv
  obtain ⟨rfl, hsz, hP, hK, hD0⟩ := hv
  have hx := B.exec
  have hb := B.bytes
  have hr := B.returns
  have hts := atoms_spec (ws := wv_X5_init) B.pre
  have hown : s.vm.findClass RX5 = some m.cls := findClass_of_methodNamed B.named
  have hlocks := B.notSynchronized
  have hin0 : meth.name = "<init>" := (name_of_methodNamed B.named B.method).1
  subst hsz
  have hD := hD0.self (sz := s.heap.size)
  generalize hAe : va_A [(h0, .inr (5, [.null, .null, .null, .int 0, .int 0, .long 0, .int 0, .int 0, .int 0, .int 0, .int 0, .int 0, .int 0, .int 0, .int 0, .int 0, .int 0]))] s.heap.size = A at hD ⊢
  have hA : ∀ q : Nat, s.heap.size ≤ q → A q := fun q h => by rw [← hAe]; exact Or.inr h
  have hS : va_S A s.heap s.heap [] := va_S.rf
  have hP : va_P (dC, dI) vwCl [(h0, .inr (5, [.null, .null, .null, .int 0, .int 0, .long 0, .int 0, .int 0, .int 0, .int 0, .int 0, .int 0, .int 0, .int 0, .int 0, .int 0, .int 0]))] s.heap := hP
  have hl := lv_entry ([.ref h0]) (n := 1) (Nat.le_of_ble_eq_true rfl)
  rw [lg_entry_eq]
  generalize (lg_sl ([.ref h0]) ++ List.replicate (1 - (lg_sl ([.ref h0])).length) Slot.unset).toArray = ls at hl ⊢
  have hl : lv_has ls 1 [(0, .ref h0)] := hl
  refine lv_aload_n hx hb dX5_init_0 rfl (lv_at hl 0 rfl) ?_
  refine W.objInit hx hb hown (hts (.methodLink RX5 3 objectInit) (wm_X5_init 0 rfl)) (hts (.instanceMethod objectInit) (wm_X5_init 1 rfl)) (hts (.code objectInit ⟨#[0xb1]⟩ 1 none) (wm_X5_init 2 rfl)) rfl (by rw [hml]; exact hl.1) rfl dX5_init_1 (Nat.le_of_ble_eq_true rfl) (Nat.le_of_ble_eq_true rfl) ?_
  refine W.eq (g2 := F0 m 4 ls []) rfl ?_
  refine lv_aload_n hx hb dX5_init_4 rfl (lv_at hl 0 rfl) ?_
  refine lv_bipush (v := 8) hx hb dX5_init_5 (by decide) ?_
  have h_1 : 1 ≤ 3 := by decide
  have h_2 : 8 ≤ 20 := by decide
  refine va_newa (atype := .long) (ty := .long) (n := 8) (N' := 8) (a0 := (8, .inr (.inl (fun _ => 0)))) hx hb (hts (.arrayClass .long) (wm_X5_init 3 rfl)) rfl hK hP hD hS hA (fun cA => vp_cell_l cA 8 (fun _ => 0)) (by decide) (by decide) (Nat.le_of_ble_eq_true rfl) h_1 h_2 dX5_init_7 (fun q3 cA4 H hK hP hD hS => ?_)
  have hP : va_P (dC, dI) vwCl [(h0, .inr (5, [.null, .null, .null, .int 0, .int 0, .long 0, .int 0, .int 0, .int 0, .int 0, .int 0, .int 0, .int 0, .int 0, .int 0, .int 0, .int 0])), (q3, .inl (cA4, 8, .inr (.inl (fun _ => 0))))] H := hP
  have hD : va_D A [(h0, .inr (5, [.null, .null, .null, .int 0, .int 0, .long 0, .int 0, .int 0, .int 0, .int 0, .int 0, .int 0, .int 0, .int 0, .int 0, .int 0, .int 0])), (q3, .inl (cA4, 8, .inr (.inl (fun _ => 0))))] := hD
  have hK : va_K (dC, dI) vwCl [(cA4, .long)] s := hK
  refine W.widen (k := 1) (n := 8) (by decide) (by decide) ?_
  refine va_putF (D := (dC, dI)) (ci := 5) (v := .ref q3) (ty := .array .long) (C := RX5) (T := TX5) (N := 17) hx hb hts wh_X5_init_X5 tyX5 tyX5_ok nmX5 hown hK hP hD hS 0 rfl rfl 0 (by decide) (hts (.fieldLink RX5 9 "StreamHouse$Op" "names" "[J") (wm_X5_init 4 rfl)) (fun _ h9 => h9) rfl hin0 rfl (by decide +kernel) rfl rfl (Nat.le_of_ble_eq_true rfl) dX5_init_9 (fun H locs hP hD hS => ?_)
  have hP : va_P (dC, dI) vwCl [(h0, .inr (5, [.ref q3, .null, .null, .int 0, .int 0, .long 0, .int 0, .int 0, .int 0, .int 0, .int 0, .int 0, .int 0, .int 0, .int 0, .int 0, .int 0])), (q3, .inl (cA4, 8, .inr (.inl (fun _ => 0))))] H := hP
  have hD : va_D A [(h0, .inr (5, [.ref q3, .null, .null, .int 0, .int 0, .long 0, .int 0, .int 0, .int 0, .int 0, .int 0, .int 0, .int 0, .int 0, .int 0, .int 0, .int 0])), (q3, .inl (cA4, 8, .inr (.inl (fun _ => 0))))] := hD
  refine lv_aload_n hx hb dX5_init_12 rfl (lv_at hl 0 rfl) ?_
  refine lv_bipush (v := 8) hx hb dX5_init_13 (by decide) ?_
  have h_5 : 2 ≤ 3 := by decide
  have h_6 : 16 ≤ 20 := by decide
  refine va_newa (atype := .int) (ty := .int) (n := 8) (N' := 8) (a0 := (8, .inl (fun _ => 0))) hx hb (hts (.arrayClass .int) (wm_X5_init 5 rfl)) rfl hK hP hD hS hA (fun cA => vp_cell_i cA 8 (fun _ => 0)) (by decide) (by decide) (Nat.le_of_ble_eq_true rfl) h_5 h_6 dX5_init_15 (fun q7 cA8 H hK hP hD hS => ?_)
  have hP : va_P (dC, dI) vwCl [(h0, .inr (5, [.ref q3, .null, .null, .int 0, .int 0, .long 0, .int 0, .int 0, .int 0, .int 0, .int 0, .int 0, .int 0, .int 0, .int 0, .int 0, .int 0])), (q3, .inl (cA4, 8, .inr (.inl (fun _ => 0)))), (q7, .inl (cA8, 8, .inl (fun _ => 0)))] H := hP
  have hD : va_D A [(h0, .inr (5, [.ref q3, .null, .null, .int 0, .int 0, .long 0, .int 0, .int 0, .int 0, .int 0, .int 0, .int 0, .int 0, .int 0, .int 0, .int 0, .int 0])), (q3, .inl (cA4, 8, .inr (.inl (fun _ => 0)))), (q7, .inl (cA8, 8, .inl (fun _ => 0)))] := hD
  have hK : va_K (dC, dI) vwCl [(cA4, .long), (cA8, .int)] s := hK
  refine W.widen (k := 2) (n := 16) (by decide) (by decide) ?_
  refine va_putF (D := (dC, dI)) (ci := 5) (v := .ref q7) (ty := .array .int) (C := RX5) (T := TX5) (N := 17) hx hb hts wh_X5_init_X5 tyX5 tyX5_ok nmX5 hown hK hP hD hS 0 rfl rfl 1 (by decide) (hts (.fieldLink RX5 15 "StreamHouse$Op" "values" "[I") (wm_X5_init 6 rfl)) (fun _ h9 => h9) rfl hin0 rfl (by decide +kernel) rfl rfl (Nat.le_of_ble_eq_true rfl) dX5_init_17 (fun H locs hP hD hS => ?_)
  have hP : va_P (dC, dI) vwCl [(h0, .inr (5, [.ref q3, .ref q7, .null, .int 0, .int 0, .long 0, .int 0, .int 0, .int 0, .int 0, .int 0, .int 0, .int 0, .int 0, .int 0, .int 0, .int 0])), (q3, .inl (cA4, 8, .inr (.inl (fun _ => 0)))), (q7, .inl (cA8, 8, .inl (fun _ => 0)))] H := hP
  have hD : va_D A [(h0, .inr (5, [.ref q3, .ref q7, .null, .int 0, .int 0, .long 0, .int 0, .int 0, .int 0, .int 0, .int 0, .int 0, .int 0, .int 0, .int 0, .int 0, .int 0])), (q3, .inl (cA4, 8, .inr (.inl (fun _ => 0)))), (q7, .inl (cA8, 8, .inl (fun _ => 0)))] := hD
  refine lv_aload_n hx hb dX5_init_20 rfl (lv_at hl 0 rfl) ?_
  refine lv_iconst (v := 4) hx hb dX5_init_21 (by decide) ?_
  have h_9 : 3 ≤ 3 := by decide
  have h_10 : 20 ≤ 20 := by decide
  refine va_newa (atype := .int) (ty := .int) (n := 4) (N' := 4) (a0 := (4, .inl (fun _ => 0))) hx hb (hts (.arrayClass .int) (wm_X5_init 5 rfl)) rfl hK hP hD hS hA (fun cA => vp_cell_i cA 4 (fun _ => 0)) (by decide) (by decide) (Nat.le_of_ble_eq_true rfl) h_9 h_10 dX5_init_22 (fun q11 cA12 H hK hP hD hS => ?_)
  have hP : va_P (dC, dI) vwCl [(h0, .inr (5, [.ref q3, .ref q7, .null, .int 0, .int 0, .long 0, .int 0, .int 0, .int 0, .int 0, .int 0, .int 0, .int 0, .int 0, .int 0, .int 0, .int 0])), (q3, .inl (cA4, 8, .inr (.inl (fun _ => 0)))), (q7, .inl (cA8, 8, .inl (fun _ => 0))), (q11, .inl (cA12, 4, .inl (fun _ => 0)))] H := hP
  have hD : va_D A [(h0, .inr (5, [.ref q3, .ref q7, .null, .int 0, .int 0, .long 0, .int 0, .int 0, .int 0, .int 0, .int 0, .int 0, .int 0, .int 0, .int 0, .int 0, .int 0])), (q3, .inl (cA4, 8, .inr (.inl (fun _ => 0)))), (q7, .inl (cA8, 8, .inl (fun _ => 0))), (q11, .inl (cA12, 4, .inl (fun _ => 0)))] := hD
  have hK : va_K (dC, dI) vwCl [(cA4, .long), (cA8, .int), (cA12, .int)] s := hK
  refine W.widen (k := 3) (n := 20) (by decide) (by decide) ?_
  refine va_putF (D := (dC, dI)) (ci := 5) (v := .ref q11) (ty := .array .int) (C := RX5) (T := TX5) (N := 17) hx hb hts wh_X5_init_X5 tyX5 tyX5_ok nmX5 hown hK hP hD hS 0 rfl rfl 2 (by decide) (hts (.fieldLink RX5 19 "StreamHouse$Op" "aggregates" "[I") (wm_X5_init 7 rfl)) (fun _ h9 => h9) rfl hin0 rfl (by decide +kernel) rfl rfl (Nat.le_of_ble_eq_true rfl) dX5_init_24 (fun H locs hP hD hS => ?_)
  have hP : va_P (dC, dI) vwCl [(h0, .inr (5, [.ref q3, .ref q7, .ref q11, .int 0, .int 0, .long 0, .int 0, .int 0, .int 0, .int 0, .int 0, .int 0, .int 0, .int 0, .int 0, .int 0, .int 0])), (q3, .inl (cA4, 8, .inr (.inl (fun _ => 0)))), (q7, .inl (cA8, 8, .inl (fun _ => 0))), (q11, .inl (cA12, 4, .inl (fun _ => 0)))] H := hP
  have hD : va_D A [(h0, .inr (5, [.ref q3, .ref q7, .ref q11, .int 0, .int 0, .long 0, .int 0, .int 0, .int 0, .int 0, .int 0, .int 0, .int 0, .int 0, .int 0, .int 0, .int 0])), (q3, .inl (cA4, 8, .inr (.inl (fun _ => 0)))), (q7, .inl (cA8, 8, .inl (fun _ => 0))), (q11, .inl (cA12, 4, .inl (fun _ => 0)))] := hD
  have hP9 := hP.sub (ws' := [(h0, .inr (5, [.ref q3, .ref q7, .ref q11, .int 0, .int 0, .long 0, .int 0, .int 0, .int 0, .int 0, .int 0, .int 0, .int 0, .int 0, .int 0, .int 0, .int 0]))]) [0] rfl
  have hD9 := hD.sub (ws' := [(h0, .inr (5, [.ref q3, .ref q7, .ref q11, .int 0, .int 0, .long 0, .int 0, .int 0, .int 0, .int 0, .int 0, .int 0, .int 0, .int 0, .int 0, .int 0, .int 0]))]) [0] (by decide) rfl
  have hK9 := hK.sub (tys' := []) [] rfl
  exact W.vret hx hb hr (fun t ht hW => ⟨⟨(q3, q7, q11), rfl, trivial, by rw [ht]; exact hP9, va_K.moved hW.alike hK9, hD9⟩, hS.F ht⟩) hS.2.2 dX5_init_27

abbrev at_X6_init (dC : Nat → ClassId) (dI : Nat → Nat → Nat) (A : Nat → Prop) (h0 : Nat) (u : Nat) (t : State) : Prop := match u with
  | q3 => va_P (dC, dI) vwCl [(h0, .inr (6, [.ref q3, .int 0, .int 0, .int 0, .long 0, .int 0, .int 0, .null, .null]))] t.heap ∧ va_K (dC, dI) vwCl [] t ∧ va_D A [(h0, .inr (6, [.ref q3, .int 0, .int 0, .int 0, .long 0, .int 0, .int 0, .null, .null]))]
theorem dX6_init_0 : decode cX6_init 0 = .ok (.aload_n 0, 1) := by decide +kernel
theorem dX6_init_1 : decode cX6_init 1 = .ok (.invokespecial 3, 3) := by decide +kernel
theorem dX6_init_4 : decode cX6_init 4 = .ok (.aload_n 0, 1) := by decide +kernel
theorem dX6_init_5 : decode cX6_init 5 = .ok (.iconst 0, 1) := by decide +kernel
theorem dX6_init_6 : decode cX6_init 6 = .ok (.newarray .byte, 2) := by decide +kernel
theorem dX6_init_8 : decode cX6_init 8 = .ok (.putfield 9, 3) := by decide +kernel
theorem dX6_init_11 : decode cX6_init 11 = .ok (.return_, 1) := by decide +kernel
def ww_X6_init : List Cond := [.methodLink RX6 3 objectInit, .instanceMethod objectInit, .code objectInit ⟨#[0xb1]⟩ 1 none, .arrayClass .byte, .fieldLink RX6 9 "StreamHouse$Parser" "text" "[B"]
def wv_X6_init : List Cond := .code yX6_init cX6_init 1 none :: (ww_X6_init ++ (u_ws RX6 TX6 9 ++ []))
theorem wm_X6_init {w : Cond} (i : Nat) (h : ww_X6_init[i]? = some w) : w ∈ wv_X6_init := List.mem_cons_of_mem _ (List.mem_append_left _ (List.mem_of_getElem? h))
theorem gw_X6_init : wv_X6_init.all goodWord = true := by decide +kernel
theorem wh_X6_init_X6 : ∀ w ∈ u_ws RX6 TX6 9, w ∈ wv_X6_init := fun w h => List.mem_cons_of_mem _ (List.mem_append_right _ (List.mem_append_left _ h))
set_option maxHeartbeats 4000000 in
set_option maxRecDepth 100000 in
/-- Parser(): an empty text -/
theorem c_X6_init (l : Launch) (dC : Nat → ClassId) (dI : Nat → Nat → Nat) (h0 : Nat) (sz : Nat) : Met l yX6_init wv_X6_init ({ frames := 1, cells := 1, slots := 0, locals := 12 }) (va_Pc [.ref h0] (fun U => U.heap.size = sz ∧ va_P (dC, dI) vwCl [(h0, .inr (6, [.null, .int 0, .int 0, .int 0, .long 0, .int 0, .int 0, .null, .null]))] U.heap ∧ va_K (dC, dI) vwCl [] U ∧ va_D (fun _ => True) [(h0, .inr (6, [.null, .int 0, .int 0, .int 0, .long 0, .int 0, .int 0, .null, .null]))])) (va_Qv (fun _ : Nat => True) (at_X6_init dC dI (va_A [(h0, .inr (6, [.null, .int 0, .int 0, .int 0, .long 0, .int 0, .int 0, .null, .null]))] sz) h0) (va_A [(h0, .inr (6, [.null, .int 0, .int 0, .int 0, .long 0, .int 0, .int 0, .null, .null]))] sz)) 1 0 (va_A [(h0, .inr (6, [.null, .int 0, .int 0, .int 0, .long 0, .int 0, .int 0, .null, .null]))] sz) := by
  refine Met.ofW (cc := cX6_init) (maxL := 1) (ret := none) (by decide) rfl ?_
  intro p e s m args below meth c s₁ B hml hv
  obtain ⟨rfl, hsz, hP, hK, hD0⟩ := hv
  have hx := B.exec
  have hb := B.bytes
  have hr := B.returns
  have hts := atoms_spec (ws := wv_X6_init) B.pre
  have hown : s.vm.findClass RX6 = some m.cls := findClass_of_methodNamed B.named
  have hlocks := B.notSynchronized
  have hin0 : meth.name = "<init>" := (name_of_methodNamed B.named B.method).1
  subst hsz
  have hD := hD0.self (sz := s.heap.size)
  generalize hAe : va_A [(h0, .inr (6, [.null, .int 0, .int 0, .int 0, .long 0, .int 0, .int 0, .null, .null]))] s.heap.size = A at hD ⊢
  have hA : ∀ q : Nat, s.heap.size ≤ q → A q := fun q h => by rw [← hAe]; exact Or.inr h
  have hS : va_S A s.heap s.heap [] := va_S.rf
  have hP : va_P (dC, dI) vwCl [(h0, .inr (6, [.null, .int 0, .int 0, .int 0, .long 0, .int 0, .int 0, .null, .null]))] s.heap := hP
  have hl := lv_entry ([.ref h0]) (n := 1) (Nat.le_of_ble_eq_true rfl)
  rw [lg_entry_eq]
  generalize (lg_sl ([.ref h0]) ++ List.replicate (1 - (lg_sl ([.ref h0])).length) Slot.unset).toArray = ls at hl ⊢
  have hl : lv_has ls 1 [(0, .ref h0)] := hl
  refine lv_aload_n hx hb dX6_init_0 rfl (lv_at hl 0 rfl) ?_
  refine W.objInit hx hb hown (hts (.methodLink RX6 3 objectInit) (wm_X6_init 0 rfl)) (hts (.instanceMethod objectInit) (wm_X6_init 1 rfl)) (hts (.code objectInit ⟨#[0xb1]⟩ 1 none) (wm_X6_init 2 rfl)) rfl (by rw [hml]; exact hl.1) rfl dX6_init_1 (Nat.le_of_ble_eq_true rfl) (Nat.le_of_ble_eq_true rfl) ?_
  refine W.eq (g2 := F0 m 4 ls []) rfl ?_
  refine lv_aload_n hx hb dX6_init_4 rfl (lv_at hl 0 rfl) ?_
  refine lv_iconst (v := 0) hx hb dX6_init_5 (by decide) ?_
  have h_1 : 1 ≤ 1 := by decide
  have h_2 : 0 ≤ 0 := by decide
  refine va_newa (atype := .byte) (ty := .byte) (n := 0) (N' := 0) (a0 := (0, .inl (fun _ => 0))) hx hb (hts (.arrayClass .byte) (wm_X6_init 3 rfl)) rfl hK hP hD hS hA (fun cA => vp_cell_i cA 0 (fun _ => 0)) (by decide) (by decide) (Nat.le_of_ble_eq_true rfl) h_1 h_2 dX6_init_6 (fun q3 cA4 H hK hP hD hS => ?_)
  have hP : va_P (dC, dI) vwCl [(h0, .inr (6, [.null, .int 0, .int 0, .int 0, .long 0, .int 0, .int 0, .null, .null])), (q3, .inl (cA4, 0, .inl (fun _ => 0)))] H := hP
  have hD : va_D A [(h0, .inr (6, [.null, .int 0, .int 0, .int 0, .long 0, .int 0, .int 0, .null, .null])), (q3, .inl (cA4, 0, .inl (fun _ => 0)))] := hD
  have hK : va_K (dC, dI) vwCl [(cA4, .byte)] s := hK
  refine W.widen (k := 1) (n := 0) (by decide) (by decide) ?_
  refine va_put (D := (dC, dI)) (ci := 6) (v := .ref q3) (ty := .array .byte) (C := RX6) (T := TX6) (N := 9) hx hb hts wh_X6_init_X6 tyX6 tyX6_ok nmX6 hown hK hP hD hS 0 rfl rfl 0 (by decide) (hts (.fieldLink RX6 9 "StreamHouse$Parser" "text" "[B") (wm_X6_init 4 rfl)) (fun _ h9 => h9) rfl (by decide +kernel) rfl rfl (Nat.le_of_ble_eq_true rfl) dX6_init_8 (fun H locs hP hD hS => ?_)
  have hP : va_P (dC, dI) vwCl [(h0, .inr (6, [.ref q3, .int 0, .int 0, .int 0, .long 0, .int 0, .int 0, .null, .null])), (q3, .inl (cA4, 0, .inl (fun _ => 0)))] H := hP
  have hD : va_D A [(h0, .inr (6, [.ref q3, .int 0, .int 0, .int 0, .long 0, .int 0, .int 0, .null, .null])), (q3, .inl (cA4, 0, .inl (fun _ => 0)))] := hD
  have hP9 := hP.sub (ws' := [(h0, .inr (6, [.ref q3, .int 0, .int 0, .int 0, .long 0, .int 0, .int 0, .null, .null]))]) [0] rfl
  have hD9 := hD.sub (ws' := [(h0, .inr (6, [.ref q3, .int 0, .int 0, .int 0, .long 0, .int 0, .int 0, .null, .null]))]) [0] (by decide) rfl
  have hK9 := hK.sub (tys' := []) [] rfl
  exact W.vret hx hb hr (fun t ht hW => ⟨⟨q3, rfl, trivial, by rw [ht]; exact hP9, va_K.moved hW.alike hK9, hD9⟩, hS.F ht⟩) hS.2.2 dX6_init_11

abbrev at_X8_init (dC : Nat → ClassId) (dI : Nat → Nat → Nat) (A : Nat → Prop) (h0 : Nat) (u : Nat × ClassId) (t : State) : Prop := match u with
  | (q3, cA4) => va_P (dC, dI) vwCl [(h0, .inr (8, [.null, .int 0, .ref q3])), (q3, .inl (cA4, 256, .inr (.inl (fun _ => 0))))] t.heap ∧ va_K (dC, dI) vwCl [(cA4, .long)] t ∧ va_D A [(h0, .inr (8, [.null, .int 0, .ref q3])), (q3, .inl (cA4, 256, .inr (.inl (fun _ => 0))))]
theorem dX8_init_0 : decode cX8_init 0 = .ok (.aload_n 0, 1) := by decide +kernel
theorem dX8_init_1 : decode cX8_init 1 = .ok (.invokespecial 3, 3) := by decide +kernel
theorem dX8_init_4 : decode cX8_init 4 = .ok (.aload_n 0, 1) := by decide +kernel
theorem dX8_init_5 : decode cX8_init 5 = .ok (.sipush 256, 3) := by decide +kernel
theorem dX8_init_8 : decode cX8_init 8 = .ok (.newarray .long, 2) := by decide +kernel
theorem dX8_init_10 : decode cX8_init 10 = .ok (.putfield 11, 3) := by decide +kernel
theorem dX8_init_13 : decode cX8_init 13 = .ok (.return_, 1) := by decide +kernel
def ww_X8_init : List Cond := [.methodLink RX8 3 objectInit, .instanceMethod objectInit, .code objectInit ⟨#[0xb1]⟩ 1 none, .arrayClass .long, .fieldLink RX8 11 "StreamHouse$Pool" "words" "[J"]
def wv_X8_init : List Cond := .code yX8_init cX8_init 1 none :: (ww_X8_init ++ (u_ws RX8 TX8 3 ++ []))
theorem wm_X8_init {w : Cond} (i : Nat) (h : ww_X8_init[i]? = some w) : w ∈ wv_X8_init := List.mem_cons_of_mem _ (List.mem_append_left _ (List.mem_of_getElem? h))
theorem gw_X8_init : wv_X8_init.all goodWord = true := by decide +kernel
theorem wh_X8_init_X8 : ∀ w ∈ u_ws RX8 TX8 3, w ∈ wv_X8_init := fun w h => List.mem_cons_of_mem _ (List.mem_append_right _ (List.mem_append_left _ h))
set_option maxHeartbeats 4000000 in
set_option maxRecDepth 100000 in
/-- Pool(): 256 words -/
theorem c_X8_init (l : Launch) (dC : Nat → ClassId) (dI : Nat → Nat → Nat) (h0 : Nat) (sz : Nat) : Met l yX8_init wv_X8_init ({ frames := 1, cells := 1, slots := 256, locals := 12 }) (va_Pc [.ref h0] (fun U => U.heap.size = sz ∧ va_P (dC, dI) vwCl [(h0, .inr (8, [.null, .int 0, .null]))] U.heap ∧ va_K (dC, dI) vwCl [] U ∧ va_D (fun _ => True) [(h0, .inr (8, [.null, .int 0, .null]))])) (va_Qv (fun _ : Nat × ClassId => True) (at_X8_init dC dI (va_A [(h0, .inr (8, [.null, .int 0, .null]))] sz) h0) (va_A [(h0, .inr (8, [.null, .int 0, .null]))] sz)) 1 256 (va_A [(h0, .inr (8, [.null, .int 0, .null]))] sz) := by
  refine Met.ofW (cc := cX8_init) (maxL := 1) (ret := none) (by decide) rfl ?_
  intro p e s m args below meth c s₁ B hml hv
  obtain ⟨rfl, hsz, hP, hK, hD0⟩ := hv
  have hx := B.exec
  have hb := B.bytes
  have hr := B.returns
  have hts := atoms_spec (ws := wv_X8_init) B.pre
  have hown : s.vm.findClass RX8 = some m.cls := findClass_of_methodNamed B.named
  have hlocks := B.notSynchronized
  have hin0 : meth.name = "<init>" := (name_of_methodNamed B.named B.method).1
  subst hsz
  have hD := hD0.self (sz := s.heap.size)
  generalize hAe : va_A [(h0, .inr (8, [.null, .int 0, .null]))] s.heap.size = A at hD ⊢
  have hA : ∀ q : Nat, s.heap.size ≤ q → A q := fun q h => by rw [← hAe]; exact Or.inr h
  have hS : va_S A s.heap s.heap [] := va_S.rf
  have hP : va_P (dC, dI) vwCl [(h0, .inr (8, [.null, .int 0, .null]))] s.heap := hP
  have hl := lv_entry ([.ref h0]) (n := 1) (Nat.le_of_ble_eq_true rfl)
  rw [lg_entry_eq]
  generalize (lg_sl ([.ref h0]) ++ List.replicate (1 - (lg_sl ([.ref h0])).length) Slot.unset).toArray = ls at hl ⊢
  have hl : lv_has ls 1 [(0, .ref h0)] := hl
  refine lv_aload_n hx hb dX8_init_0 rfl (lv_at hl 0 rfl) ?_
  refine W.objInit hx hb hown (hts (.methodLink RX8 3 objectInit) (wm_X8_init 0 rfl)) (hts (.instanceMethod objectInit) (wm_X8_init 1 rfl)) (hts (.code objectInit ⟨#[0xb1]⟩ 1 none) (wm_X8_init 2 rfl)) rfl (by rw [hml]; exact hl.1) rfl dX8_init_1 (Nat.le_of_ble_eq_true rfl) (Nat.le_of_ble_eq_true rfl) ?_
  refine W.eq (g2 := F0 m 4 ls []) rfl ?_
  refine lv_aload_n hx hb dX8_init_4 rfl (lv_at hl 0 rfl) ?_
  refine lv_sipush (v := 256) hx hb dX8_init_5 (by decide) ?_
  have h_1 : 1 ≤ 1 := by decide
  have h_2 : 256 ≤ 256 := by decide
  refine va_newa (atype := .long) (ty := .long) (n := 256) (N' := 256) (a0 := (256, .inr (.inl (fun _ => 0)))) hx hb (hts (.arrayClass .long) (wm_X8_init 3 rfl)) rfl hK hP hD hS hA (fun cA => vp_cell_l cA 256 (fun _ => 0)) (by decide) (by decide) (Nat.le_of_ble_eq_true rfl) h_1 h_2 dX8_init_8 (fun q3 cA4 H hK hP hD hS => ?_)
  have hP : va_P (dC, dI) vwCl [(h0, .inr (8, [.null, .int 0, .null])), (q3, .inl (cA4, 256, .inr (.inl (fun _ => 0))))] H := hP
  have hD : va_D A [(h0, .inr (8, [.null, .int 0, .null])), (q3, .inl (cA4, 256, .inr (.inl (fun _ => 0))))] := hD
  have hK : va_K (dC, dI) vwCl [(cA4, .long)] s := hK
  refine W.widen (k := 1) (n := 256) (by decide) (by decide) ?_
  refine va_put (D := (dC, dI)) (ci := 8) (v := .ref q3) (ty := .array .long) (C := RX8) (T := TX8) (N := 3) hx hb hts wh_X8_init_X8 tyX8 tyX8_ok nmX8 hown hK hP hD hS 0 rfl rfl 2 (by decide) (hts (.fieldLink RX8 11 "StreamHouse$Pool" "words" "[J") (wm_X8_init 4 rfl)) (fun _ h9 => h9) rfl (by decide +kernel) rfl rfl (Nat.le_of_ble_eq_true rfl) dX8_init_10 (fun H locs hP hD hS => ?_)
  have hP : va_P (dC, dI) vwCl [(h0, .inr (8, [.null, .int 0, .ref q3])), (q3, .inl (cA4, 256, .inr (.inl (fun _ => 0))))] H := hP
  have hD : va_D A [(h0, .inr (8, [.null, .int 0, .ref q3])), (q3, .inl (cA4, 256, .inr (.inl (fun _ => 0))))] := hD
  have hP9 := hP.sub (ws' := [(h0, .inr (8, [.null, .int 0, .ref q3])), (q3, .inl (cA4, 256, .inr (.inl (fun _ => 0))))]) [0, 1] rfl
  have hD9 := hD.sub (ws' := [(h0, .inr (8, [.null, .int 0, .ref q3])), (q3, .inl (cA4, 256, .inr (.inl (fun _ => 0))))]) [0, 1] (by decide) rfl
  have hK9 := hK.sub (tys' := [(cA4, .long)]) [0] rfl
  exact W.vret hx hb hr (fun t ht hW => ⟨⟨(q3, cA4), rfl, trivial, by rw [ht]; exact hP9, va_K.moved hW.alike hK9, hD9⟩, hS.F ht⟩) hS.2.2 dX8_init_13

abbrev at_X3_init (dC : Nat → ClassId) (dI : Nat → Nat → Nat) (A : Nat → Prop) (h0 : Nat) (u : Nat × Nat × ClassId × ClassId) (t : State) : Prop := match u with
  | (q3, q7, cA4, cA8) => va_P (dC, dI) vwCl [(h0, .inr (3, [.ref q3, .ref q7, .int 0, .int 0, .int 0, .int 0, .int 0, .int 0, .int ((-1)), .int 0])), (q3, .inl (cA4, 64, .inr (.inr (.inr (.inr (fun _ => none)))))), (q7, .inl (cA8, 64, .inr (.inr (.inr (.inr (fun _ => none))))))] t.heap ∧ va_K (dC, dI) vwCl [(cA4, .object RX10), (cA8, .object RX10)] t ∧ va_D A [(h0, .inr (3, [.ref q3, .ref q7, .int 0, .int 0, .int 0, .int 0, .int 0, .int 0, .int ((-1)), .int 0])), (q3, .inl (cA4, 64, .inr (.inr (.inr (.inr (fun _ => none)))))), (q7, .inl (cA8, 64, .inr (.inr (.inr (.inr (fun _ => none))))))]
theorem dX3_init_0 : decode cX3_init 0 = .ok (.aload_n 0, 1) := by decide +kernel
theorem dX3_init_1 : decode cX3_init 1 = .ok (.invokespecial 3, 3) := by decide +kernel
theorem dX3_init_4 : decode cX3_init 4 = .ok (.aload_n 0, 1) := by decide +kernel
theorem dX3_init_5 : decode cX3_init 5 = .ok (.bipush 64, 2) := by decide +kernel
theorem dX3_init_7 : decode cX3_init 7 = .ok (.anewarray 9, 3) := by decide +kernel
theorem dX3_init_10 : decode cX3_init 10 = .ok (.putfield 11, 3) := by decide +kernel
theorem dX3_init_13 : decode cX3_init 13 = .ok (.aload_n 0, 1) := by decide +kernel
theorem dX3_init_14 : decode cX3_init 14 = .ok (.bipush 64, 2) := by decide +kernel
theorem dX3_init_16 : decode cX3_init 16 = .ok (.anewarray 9, 3) := by decide +kernel
theorem dX3_init_19 : decode cX3_init 19 = .ok (.putfield 17, 3) := by decide +kernel
theorem dX3_init_22 : decode cX3_init 22 = .ok (.aload_n 0, 1) := by decide +kernel
theorem dX3_init_23 : decode cX3_init 23 = .ok (.iconst (-1), 1) := by decide +kernel
theorem dX3_init_24 : decode cX3_init 24 = .ok (.putfield 20, 3) := by decide +kernel
theorem dX3_init_27 : decode cX3_init 27 = .ok (.return_, 1) := by decide +kernel
def ww_X3_init : List Cond := [.methodLink RX3 3 objectInit, .instanceMethod objectInit, .code objectInit ⟨#[0xb1]⟩ 1 none, .classLink RX3 9 RX10, .fieldLink RX3 11 "StreamHouse$Disk" "parts" "[LStreamHouse$Task;", .fieldLink RX3 17 "StreamHouse$Disk" "sealed" "[LStreamHouse$Task;", .fieldLink RX3 20 "StreamHouse$Disk" "powerLeft" "I"]
def wv_X3_init : List Cond := .code yX3_init cX3_init 1 none :: (ww_X3_init ++ (u_ws RX3 TX3 10 ++ []))
theorem wm_X3_init {w : Cond} (i : Nat) (h : ww_X3_init[i]? = some w) : w ∈ wv_X3_init := List.mem_cons_of_mem _ (List.mem_append_left _ (List.mem_of_getElem? h))
theorem gw_X3_init : wv_X3_init.all goodWord = true := by decide +kernel
theorem wh_X3_init_X3 : ∀ w ∈ u_ws RX3 TX3 10, w ∈ wv_X3_init := fun w h => List.mem_cons_of_mem _ (List.mem_append_right _ (List.mem_append_left _ h))
set_option maxHeartbeats 4000000 in
set_option maxRecDepth 100000 in
/-- Disk(): two rows of tasks, no power failure -/
theorem c_X3_init (l : Launch) (dC : Nat → ClassId) (dI : Nat → Nat → Nat) (h0 : Nat) (sz : Nat) : Met l yX3_init wv_X3_init ({ frames := 1, cells := 2, slots := 128, locals := 12 }) (va_Pc [.ref h0] (fun U => U.heap.size = sz ∧ va_P (dC, dI) vwCl [(h0, .inr (3, [.null, .null, .int 0, .int 0, .int 0, .int 0, .int 0, .int 0, .int 0, .int 0]))] U.heap ∧ va_K (dC, dI) vwCl [] U ∧ va_D (fun _ => True) [(h0, .inr (3, [.null, .null, .int 0, .int 0, .int 0, .int 0, .int 0, .int 0, .int 0, .int 0]))] ∧ va_AO RX10 U)) (va_Qv (fun _ : Nat × Nat × ClassId × ClassId => True) (at_X3_init dC dI (va_A [(h0, .inr (3, [.null, .null, .int 0, .int 0, .int 0, .int 0, .int 0, .int 0, .int 0, .int 0]))] sz) h0) (va_A [(h0, .inr (3, [.null, .null, .int 0, .int 0, .int 0, .int 0, .int 0, .int 0, .int 0, .int 0]))] sz)) 2 128 (va_A [(h0, .inr (3, [.null, .null, .int 0, .int 0, .int 0, .int 0, .int 0, .int 0, .int 0, .int 0]))] sz) := by
  refine Met.ofW (cc := cX3_init) (maxL := 1) (ret := none) (by decide) rfl ?_
  intro p e s m args below meth c s₁ B hml hv
  obtain ⟨rfl, hsz, hP, hK, hD0, fA⟩ := hv
  have hx := B.exec
  have hb := B.bytes
  have hr := B.returns
  have hts := atoms_spec (ws := wv_X3_init) B.pre
  have hown : s.vm.findClass RX3 = some m.cls := findClass_of_methodNamed B.named
  have hlocks := B.notSynchronized
  have hin0 : meth.name = "<init>" := (name_of_methodNamed B.named B.method).1
  subst hsz
  have hD := hD0.self (sz := s.heap.size)
  generalize hAe : va_A [(h0, .inr (3, [.null, .null, .int 0, .int 0, .int 0, .int 0, .int 0, .int 0, .int 0, .int 0]))] s.heap.size = A at hD ⊢
  have hA : ∀ q : Nat, s.heap.size ≤ q → A q := fun q h => by rw [← hAe]; exact Or.inr h
  have hS : va_S A s.heap s.heap [] := va_S.rf
  have hP : va_P (dC, dI) vwCl [(h0, .inr (3, [.null, .null, .int 0, .int 0, .int 0, .int 0, .int 0, .int 0, .int 0, .int 0]))] s.heap := hP
  have hl := lv_entry ([.ref h0]) (n := 1) (Nat.le_of_ble_eq_true rfl)
  rw [lg_entry_eq]
  generalize (lg_sl ([.ref h0]) ++ List.replicate (1 - (lg_sl ([.ref h0])).length) Slot.unset).toArray = ls at hl ⊢
  have hl : lv_has ls 1 [(0, .ref h0)] := hl
  refine lv_aload_n hx hb dX3_init_0 rfl (lv_at hl 0 rfl) ?_
  refine W.objInit hx hb hown (hts (.methodLink RX3 3 objectInit) (wm_X3_init 0 rfl)) (hts (.instanceMethod objectInit) (wm_X3_init 1 rfl)) (hts (.code objectInit ⟨#[0xb1]⟩ 1 none) (wm_X3_init 2 rfl)) rfl (by rw [hml]; exact hl.1) rfl dX3_init_1 (Nat.le_of_ble_eq_true rfl) (Nat.le_of_ble_eq_true rfl) ?_
  refine W.eq (g2 := F0 m 4 ls []) rfl ?_
  refine lv_aload_n hx hb dX3_init_4 rfl (lv_at hl 0 rfl) ?_
  refine lv_bipush (v := 64) hx hb dX3_init_5 (by decide) ?_
  have h_1 : 1 ≤ 2 := by decide
  have h_2 : 64 ≤ 128 := by decide
  refine va_newq (n := 64) (N' := 64) hx hb hown (hts (.classLink RX3 9 RX10) (wm_X3_init 3 rfl)) fA hK hP hD hS hA (by decide) (by decide) (Nat.le_of_ble_eq_true rfl) h_1 h_2 dX3_init_7 (fun q3 cA4 H hK hP hD hS => ?_)
  have hP : va_P (dC, dI) vwCl [(h0, .inr (3, [.null, .null, .int 0, .int 0, .int 0, .int 0, .int 0, .int 0, .int 0, .int 0])), (q3, .inl (cA4, 64, .inr (.inr (.inr (.inr (fun _ => none))))))] H := hP
  have hD : va_D A [(h0, .inr (3, [.null, .null, .int 0, .int 0, .int 0, .int 0, .int 0, .int 0, .int 0, .int 0])), (q3, .inl (cA4, 64, .inr (.inr (.inr (.inr (fun _ => none))))))] := hD
  have hK : va_K (dC, dI) vwCl [(cA4, .object RX10)] s := hK
  refine W.widen (k := 1) (n := 64) (by decide) (by decide) ?_
  refine va_put (D := (dC, dI)) (ci := 3) (v := .ref q3) (ty := .array (.object "StreamHouse$Task")) (C := RX3) (T := TX3) (N := 10) hx hb hts wh_X3_init_X3 tyX3 tyX3_ok nmX3 hown hK hP hD hS 0 rfl rfl 0 (by decide) (hts (.fieldLink RX3 11 "StreamHouse$Disk" "parts" "[LStreamHouse$Task;") (wm_X3_init 4 rfl)) (fun _ h9 => h9) rfl (by decide +kernel) rfl rfl (Nat.le_of_ble_eq_true rfl) dX3_init_10 (fun H locs hP hD hS => ?_)
  have hP : va_P (dC, dI) vwCl [(h0, .inr (3, [.ref q3, .null, .int 0, .int 0, .int 0, .int 0, .int 0, .int 0, .int 0, .int 0])), (q3, .inl (cA4, 64, .inr (.inr (.inr (.inr (fun _ => none))))))] H := hP
  have hD : va_D A [(h0, .inr (3, [.ref q3, .null, .int 0, .int 0, .int 0, .int 0, .int 0, .int 0, .int 0, .int 0])), (q3, .inl (cA4, 64, .inr (.inr (.inr (.inr (fun _ => none))))))] := hD
  refine lv_aload_n hx hb dX3_init_13 rfl (lv_at hl 0 rfl) ?_
  refine lv_bipush (v := 64) hx hb dX3_init_14 (by decide) ?_
  have h_5 : 2 ≤ 2 := by decide
  have h_6 : 128 ≤ 128 := by decide
  refine va_newq (n := 64) (N' := 64) hx hb hown (hts (.classLink RX3 9 RX10) (wm_X3_init 3 rfl)) fA hK hP hD hS hA (by decide) (by decide) (Nat.le_of_ble_eq_true rfl) h_5 h_6 dX3_init_16 (fun q7 cA8 H hK hP hD hS => ?_)
  have hP : va_P (dC, dI) vwCl [(h0, .inr (3, [.ref q3, .null, .int 0, .int 0, .int 0, .int 0, .int 0, .int 0, .int 0, .int 0])), (q3, .inl (cA4, 64, .inr (.inr (.inr (.inr (fun _ => none)))))), (q7, .inl (cA8, 64, .inr (.inr (.inr (.inr (fun _ => none))))))] H := hP
  have hD : va_D A [(h0, .inr (3, [.ref q3, .null, .int 0, .int 0, .int 0, .int 0, .int 0, .int 0, .int 0, .int 0])), (q3, .inl (cA4, 64, .inr (.inr (.inr (.inr (fun _ => none)))))), (q7, .inl (cA8, 64, .inr (.inr (.inr (.inr (fun _ => none))))))] := hD
  have hK : va_K (dC, dI) vwCl [(cA4, .object RX10), (cA8, .object RX10)] s := hK
  refine W.widen (k := 2) (n := 128) (by decide) (by decide) ?_
  refine va_put (D := (dC, dI)) (ci := 3) (v := .ref q7) (ty := .array (.object "StreamHouse$Task")) (C := RX3) (T := TX3) (N := 10) hx hb hts wh_X3_init_X3 tyX3 tyX3_ok nmX3 hown hK hP hD hS 0 rfl rfl 1 (by decide) (hts (.fieldLink RX3 17 "StreamHouse$Disk" "sealed" "[LStreamHouse$Task;") (wm_X3_init 5 rfl)) (fun _ h9 => h9) rfl (by decide +kernel) rfl rfl (Nat.le_of_ble_eq_true rfl) dX3_init_19 (fun H locs hP hD hS => ?_)
  have hP : va_P (dC, dI) vwCl [(h0, .inr (3, [.ref q3, .ref q7, .int 0, .int 0, .int 0, .int 0, .int 0, .int 0, .int 0, .int 0])), (q3, .inl (cA4, 64, .inr (.inr (.inr (.inr (fun _ => none)))))), (q7, .inl (cA8, 64, .inr (.inr (.inr (.inr (fun _ => none))))))] H := hP
  have hD : va_D A [(h0, .inr (3, [.ref q3, .ref q7, .int 0, .int 0, .int 0, .int 0, .int 0, .int 0, .int 0, .int 0])), (q3, .inl (cA4, 64, .inr (.inr (.inr (.inr (fun _ => none)))))), (q7, .inl (cA8, 64, .inr (.inr (.inr (.inr (fun _ => none))))))] := hD
  refine lv_aload_n hx hb dX3_init_22 rfl (lv_at hl 0 rfl) ?_
  refine lv_iconst (v := (-1)) hx hb dX3_init_23 (by decide) ?_
  refine va_put (D := (dC, dI)) (ci := 3) (v := .int ((-1))) (ty := .int) (C := RX3) (T := TX3) (N := 10) hx hb hts wh_X3_init_X3 tyX3 tyX3_ok nmX3 hown hK hP hD hS 0 rfl rfl 8 (by decide) (hts (.fieldLink RX3 20 "StreamHouse$Disk" "powerLeft" "I") (wm_X3_init 6 rfl)) (fun _ h9 => h9) rfl (by decide +kernel) rfl rfl (Nat.le_of_ble_eq_true rfl) dX3_init_24 (fun H locs hP hD hS => ?_)
  have hP : va_P (dC, dI) vwCl [(h0, .inr (3, [.ref q3, .ref q7, .int 0, .int 0, .int 0, .int 0, .int 0, .int 0, .int ((-1)), .int 0])), (q3, .inl (cA4, 64, .inr (.inr (.inr (.inr (fun _ => none)))))), (q7, .inl (cA8, 64, .inr (.inr (.inr (.inr (fun _ => none))))))] H := hP
  have hD : va_D A [(h0, .inr (3, [.ref q3, .ref q7, .int 0, .int 0, .int 0, .int 0, .int 0, .int 0, .int ((-1)), .int 0])), (q3, .inl (cA4, 64, .inr (.inr (.inr (.inr (fun _ => none)))))), (q7, .inl (cA8, 64, .inr (.inr (.inr (.inr (fun _ => none))))))] := hD
  have hP9 := hP.sub (ws' := [(h0, .inr (3, [.ref q3, .ref q7, .int 0, .int 0, .int 0, .int 0, .int 0, .int 0, .int ((-1)), .int 0])), (q3, .inl (cA4, 64, .inr (.inr (.inr (.inr (fun _ => none)))))), (q7, .inl (cA8, 64, .inr (.inr (.inr (.inr (fun _ => none))))))]) [0, 1, 2] rfl
  have hD9 := hD.sub (ws' := [(h0, .inr (3, [.ref q3, .ref q7, .int 0, .int 0, .int 0, .int 0, .int 0, .int 0, .int ((-1)), .int 0])), (q3, .inl (cA4, 64, .inr (.inr (.inr (.inr (fun _ => none)))))), (q7, .inl (cA8, 64, .inr (.inr (.inr (.inr (fun _ => none))))))]) [0, 1, 2] (by decide) rfl
  have hK9 := hK.sub (tys' := [(cA4, .object RX10), (cA8, .object RX10)]) [0, 1] rfl
  exact W.vret hx hb hr (fun t ht hW => ⟨⟨(q3, q7, cA4, cA8), rfl, trivial, by rw [ht]; exact hP9, va_K.moved hW.alike hK9, hD9⟩, hS.F ht⟩) hS.2.2 dX3_init_27

abbrev at_X10_init (dC : Nat → ClassId) (dI : Nat → Nat → Nat) (A : Nat → Prop) (h0 : Nat) (u : Nat × Nat × Nat) (t : State) : Prop := match u with
  | (q3, q9, q15) => va_P (dC, dI) vwCl [(h0, .inr (10, [.int 0, .int 0, .ref q3, .ref q9, .ref q15, .int 0, .int 0, .long 0, .int 0, .int 0, .int 0, .int 0, .int 0, .int 0, .int 0, .int 0]))] t.heap ∧ va_K (dC, dI) vwCl [] t ∧ va_D A [(h0, .inr (10, [.int 0, .int 0, .ref q3, .ref q9, .ref q15, .int 0, .int 0, .long 0, .int 0, .int 0, .int 0, .int 0, .int 0, .int 0, .int 0, .int 0]))]
theorem dX10_init_0 : decode cX10_init 0 = .ok (.aload_n 0, 1) := by decide +kernel
theorem dX10_init_1 : decode cX10_init 1 = .ok (.invokespecial 3, 3) := by decide +kernel
theorem dX10_init_4 : decode cX10_init 4 = .ok (.aload_n 0, 1) := by decide +kernel
theorem dX10_init_5 : decode cX10_init 5 = .ok (.new 9, 3) := by decide +kernel
theorem dX10_init_8 : decode cX10_init 8 = .ok (.dup, 1) := by decide +kernel
theorem dX10_init_9 : decode cX10_init 9 = .ok (.invokespecial 11, 3) := by decide +kernel
theorem dX10_init_12 : decode cX10_init 12 = .ok (.putfield 12, 3) := by decide +kernel
theorem dX10_init_15 : decode cX10_init 15 = .ok (.aload_n 0, 1) := by decide +kernel
theorem dX10_init_16 : decode cX10_init 16 = .ok (.new 9, 3) := by decide +kernel
theorem dX10_init_19 : decode cX10_init 19 = .ok (.dup, 1) := by decide +kernel
theorem dX10_init_20 : decode cX10_init 20 = .ok (.invokespecial 11, 3) := by decide +kernel
theorem dX10_init_23 : decode cX10_init 23 = .ok (.putfield 18, 3) := by decide +kernel
theorem dX10_init_26 : decode cX10_init 26 = .ok (.aload_n 0, 1) := by decide +kernel
theorem dX10_init_27 : decode cX10_init 27 = .ok (.new 9, 3) := by decide +kernel
theorem dX10_init_30 : decode cX10_init 30 = .ok (.dup, 1) := by decide +kernel
theorem dX10_init_31 : decode cX10_init 31 = .ok (.invokespecial 11, 3) := by decide +kernel
theorem dX10_init_34 : decode cX10_init 34 = .ok (.putfield 21, 3) := by decide +kernel
theorem dX10_init_37 : decode cX10_init 37 = .ok (.return_, 1) := by decide +kernel
def ww_X10_init : List Cond := [.methodLink RX10 3 objectInit, .instanceMethod objectInit, .code objectInit ⟨#[0xb1]⟩ 1 none, .classLink RX10 9 RX1, .instantiable RX1 3, .initialized RX1, .instanceMethod yX1_init, .fieldLink RX10 12 "StreamHouse$Task" "a" "LStreamHouse$Chain;", .fieldLink RX10 18 "StreamHouse$Task" "b" "LStreamHouse$Chain;", .fieldLink RX10 21 "StreamHouse$Task" "box" "LStreamHouse$Chain;"]
def wv_X10_init : List Cond := .code yX10_init cX10_init 1 none :: (ww_X10_init ++ (u_ws RX1 TX1 3 ++ (wv_X1_init ++ (u_ws RX10 TX10 16 ++ []))))
theorem wm_X10_init {w : Cond} (i : Nat) (h : ww_X10_init[i]? = some w) : w ∈ wv_X10_init := List.mem_cons_of_mem _ (List.mem_append_left _ (List.mem_of_getElem? h))
theorem gw_X10_init : wv_X10_init.all goodWord = true := by decide +kernel
theorem wh_X10_init_X1 : ∀ w ∈ u_ws RX1 TX1 3, w ∈ wv_X10_init := fun w h => List.mem_cons_of_mem _ (List.mem_append_right _ (List.mem_append_left _ h))
theorem wg_X10_init_X1_init : GoodIn wv_X10_init wv_X1_init := goodIn_sub (fun w h => List.mem_cons_of_mem _ (List.mem_append_right _ (List.mem_append_right _ (List.mem_append_left _ h)))) gw_X1_init
theorem wh_X10_init_X10 : ∀ w ∈ u_ws RX10 TX10 16, w ∈ wv_X10_init := fun w h => List.mem_cons_of_mem _ (List.mem_append_right _ (List.mem_append_right _ (List.mem_append_right _ (List.mem_append_left _ h))))
set_option maxHeartbeats 4000000 in
set_option maxRecDepth 100000 in
/-- Task(): three chains -/
theorem c_X10_init (l : Launch) (dC : Nat → ClassId) (dI : Nat → Nat → Nat) (h0 : Nat) (sz : Nat) : Met l yX10_init wv_X10_init ({ frames := 2, cells := 3, slots := 9, locals := 32 }) (va_Pc [.ref h0] (fun U => U.heap.size = sz ∧ va_P (dC, dI) vwCl [(h0, .inr (10, [.int 0, .int 0, .null, .null, .null, .int 0, .int 0, .long 0, .int 0, .int 0, .int 0, .int 0, .int 0, .int 0, .int 0, .int 0]))] U.heap ∧ va_K (dC, dI) vwCl [] U ∧ va_D (fun _ => True) [(h0, .inr (10, [.int 0, .int 0, .null, .null, .null, .int 0, .int 0, .long 0, .int 0, .int 0, .int 0, .int 0, .int 0, .int 0, .int 0, .int 0]))] ∧ va_Nw (.methodLinkNest RX10 11 yX1_init RX12) U)) (va_Qv (fun _ : Nat × Nat × Nat => True) (at_X10_init dC dI (va_A [(h0, .inr (10, [.int 0, .int 0, .null, .null, .null, .int 0, .int 0, .long 0, .int 0, .int 0, .int 0, .int 0, .int 0, .int 0, .int 0, .int 0]))] sz) h0) (va_A [(h0, .inr (10, [.int 0, .int 0, .null, .null, .null, .int 0, .int 0, .long 0, .int 0, .int 0, .int 0, .int 0, .int 0, .int 0, .int 0, .int 0]))] sz)) 3 9 (va_A [(h0, .inr (10, [.int 0, .int 0, .null, .null, .null, .int 0, .int 0, .long 0, .int 0, .int 0, .int 0, .int 0, .int 0, .int 0, .int 0, .int 0]))] sz) := by
  refine Met.ofW (cc := cX10_init) (maxL := 1) (ret := none) (by decide) rfl ?_
  intro p e s m args below meth c s₁ B hml hv
  obtain ⟨rfl, hsz, hP, hK, hD0, fN⟩ := hv
  have hx := B.exec
  have hb := B.bytes
  have hr := B.returns
  have hts := atoms_spec (ws := wv_X10_init) B.pre
  have hown : s.vm.findClass RX10 = some m.cls := findClass_of_methodNamed B.named
  have hlocks := B.notSynchronized
  have hin0 : meth.name = "<init>" := (name_of_methodNamed B.named B.method).1
  subst hsz
  have hD := hD0.self (sz := s.heap.size)
  generalize hAe : va_A [(h0, .inr (10, [.int 0, .int 0, .null, .null, .null, .int 0, .int 0, .long 0, .int 0, .int 0, .int 0, .int 0, .int 0, .int 0, .int 0, .int 0]))] s.heap.size = A at hD ⊢
  have hA : ∀ q : Nat, s.heap.size ≤ q → A q := fun q h => by rw [← hAe]; exact Or.inr h
  have hS : va_S A s.heap s.heap [] := va_S.rf
  have hP : va_P (dC, dI) vwCl [(h0, .inr (10, [.int 0, .int 0, .null, .null, .null, .int 0, .int 0, .long 0, .int 0, .int 0, .int 0, .int 0, .int 0, .int 0, .int 0, .int 0]))] s.heap := hP
  have hl := lv_entry ([.ref h0]) (n := 1) (Nat.le_of_ble_eq_true rfl)
  rw [lg_entry_eq]
  generalize (lg_sl ([.ref h0]) ++ List.replicate (1 - (lg_sl ([.ref h0])).length) Slot.unset).toArray = ls at hl ⊢
  have hl : lv_has ls 1 [(0, .ref h0)] := hl
  refine lv_aload_n hx hb dX10_init_0 rfl (lv_at hl 0 rfl) ?_
  refine W.objInit hx hb hown (hts (.methodLink RX10 3 objectInit) (wm_X10_init 0 rfl)) (hts (.instanceMethod objectInit) (wm_X10_init 1 rfl)) (hts (.code objectInit ⟨#[0xb1]⟩ 1 none) (wm_X10_init 2 rfl)) rfl (by rw [hml]; exact hl.1) rfl dX10_init_1 (Nat.le_of_ble_eq_true rfl) (Nat.le_of_ble_eq_true rfl) ?_
  refine W.eq (g2 := F0 m 4 ls []) rfl ?_
  refine lv_aload_n hx hb dX10_init_4 rfl (lv_at hl 0 rfl) ?_
  have h_1 : 1 ≤ 3 := by decide
  have h_2 : 3 ≤ 9 := by decide
  refine va_new (ci := 1) (fs := [.null, .null, .int 0]) (C := RX1) (T := TX1) (N := 3) hx hb hts wh_X10_init_X1 tyX1 tyX1_ok hown (hts (.classLink RX10 9 RX1) (wm_X10_init 3 rfl)) (hts (.instantiable RX1 3) (wm_X10_init 4 rfl)) (hts (.initialized RX1) (wm_X10_init 5 rfl)) hK hP hD hS hA rfl (by decide +kernel) h_1 h_2 dX10_init_5 (fun q3 H hP hD hS => ?_)
  have hP : va_P (dC, dI) vwCl [(h0, .inr (10, [.int 0, .int 0, .null, .null, .null, .int 0, .int 0, .long 0, .int 0, .int 0, .int 0, .int 0, .int 0, .int 0, .int 0, .int 0])), (q3, .inr (1, [.null, .null, .int 0]))] H := hP
  have hD : va_D A [(h0, .inr (10, [.int 0, .int 0, .null, .null, .null, .int 0, .int 0, .long 0, .int 0, .int 0, .int 0, .int 0, .int 0, .int 0, .int 0, .int 0])), (q3, .inr (1, [.null, .null, .int 0]))] := hD
  refine W.widen (k := 1) (n := 3) (by decide) (by decide) ?_
  refine lv_dup hx hb dX10_init_8 rfl ?_
  have hPc := hP.sub (ws' := [(q3, .inr (1, [.null, .null, .int 0]))]) [1] rfl
  have hDc := hD.sub (ws' := [(q3, .inr (1, [.null, .null, .int 0]))]) [1] (by decide) rfl
  have hKc := hK.sub (tys' := []) [] rfl
  have hFc := va_free (wc := [(q3, .inr (1, [.null, .null, .int 0]))]) hD hS hA [1] rfl
  have h_4 : 1 ≤ 3 := by decide
  have h_5 : 3 ≤ 9 := by decide
  refine va_callv (va_runIN (As := []) (rest := [.ref q3, .ref h0]) ⟨hx, hb, hml, hown, hts⟩ (c_X1_init l dC dI q3 _) ⟨va_cnB 0 hts wg_X10_init_X1_init rfl rfl rfl fN (hts (.initialized RX1) (wm_X10_init 5 rfl)) (by decide +kernel) ⟨Nat.le_of_ble_eq_true rfl, Nat.le_of_ble_eq_true rfl⟩, rfl, (hts (.instanceMethod yX1_init) (wm_X10_init 6 rfl))⟩ ⟨fun a U g mk q => by obtain ⟨q0, q1, qP, qK, qD⟩ := q; exact ⟨q0, q1, qP, va_K.moved (u := U) (U := U.calling g mk a) (Vm.Alike.refl U.vm) qK, qD⟩, fun U hU hW => ⟨rfl, by rw [hU], by rw [hU]; exact hPc, va_K.moved hW.alike hKc, hDc.weaken (fun _ _ _ _ => trivial)⟩⟩ rfl rfl hl.1 rfl (lv_room (Nat.le_of_ble_eq_true rfl)) dX10_init_9 ⟨h_4, h_5⟩) hS (fun q _ h => hFc q h) hFc (fun u6 t H1 locs ht hvm hw hB hz1 hk1 hS => ?_)
  obtain ⟨hP1, hK1, hD1⟩ := hB
  rw [ht] at hP1
  have hK1 := va_K.moved hvm.symm hK1
  obtain ⟨hP, hD⟩ := va_join (wr := [(h0, .inr (10, [.int 0, .int 0, .null, .null, .null, .int 0, .int 0, .long 0, .int 0, .int 0, .int 0, .int 0, .int 0, .int 0, .int 0, .int 0]))]) (w1 := [(q3, .inr (1, [.null, .null, .int 0]))]) hP hD [1] [0] rfl rfl (by decide) (by decide) hk1 hFc hP1 hD1
  have hK := (hK.sub (tys' := []) [] rfl).app hK1
  generalize H1 = H at hP hS ⊢
  have hP : va_P (dC, dI) vwCl [(h0, .inr (10, [.int 0, .int 0, .null, .null, .null, .int 0, .int 0, .long 0, .int 0, .int 0, .int 0, .int 0, .int 0, .int 0, .int 0, .int 0])), (q3, .inr (1, [.null, .null, .int 0]))] H := hP
  have hD : va_D A [(h0, .inr (10, [.int 0, .int 0, .null, .null, .null, .int 0, .int 0, .long 0, .int 0, .int 0, .int 0, .int 0, .int 0, .int 0, .int 0, .int 0])), (q3, .inr (1, [.null, .null, .int 0]))] := hD
  have hK : va_K (dC, dI) vwCl [] s := hK
  refine W.widen (k := 1) (n := 3) (by decide) (by decide) ?_
  refine va_putF (D := (dC, dI)) (ci := 10) (v := .ref q3) (ty := .object "StreamHouse$Chain") (C := RX10) (T := TX10) (N := 16) hx hb hts wh_X10_init_X10 tyX10 tyX10_ok nmX10 hown hK hP hD hS 0 rfl rfl 2 (by decide) (hts (.fieldLink RX10 12 "StreamHouse$Task" "a" "LStreamHouse$Chain;") (wm_X10_init 7 rfl)) (fun _ h9 => h9) rfl hin0 rfl (by decide +kernel) rfl rfl (Nat.le_of_ble_eq_true rfl) dX10_init_12 (fun H locs hP hD hS => ?_)
  have hP : va_P (dC, dI) vwCl [(h0, .inr (10, [.int 0, .int 0, .ref q3, .null, .null, .int 0, .int 0, .long 0, .int 0, .int 0, .int 0, .int 0, .int 0, .int 0, .int 0, .int 0])), (q3, .inr (1, [.null, .null, .int 0]))] H := hP
  have hD : va_D A [(h0, .inr (10, [.int 0, .int 0, .ref q3, .null, .null, .int 0, .int 0, .long 0, .int 0, .int 0, .int 0, .int 0, .int 0, .int 0, .int 0, .int 0])), (q3, .inr (1, [.null, .null, .int 0]))] := hD
  refine lv_aload_n hx hb dX10_init_15 rfl (lv_at hl 0 rfl) ?_
  have h_7 : 2 ≤ 3 := by decide
  have h_8 : 6 ≤ 9 := by decide
  refine va_new (ci := 1) (fs := [.null, .null, .int 0]) (C := RX1) (T := TX1) (N := 3) hx hb hts wh_X10_init_X1 tyX1 tyX1_ok hown (hts (.classLink RX10 9 RX1) (wm_X10_init 3 rfl)) (hts (.instantiable RX1 3) (wm_X10_init 4 rfl)) (hts (.initialized RX1) (wm_X10_init 5 rfl)) hK hP hD hS hA rfl (by decide +kernel) h_7 h_8 dX10_init_16 (fun q9 H hP hD hS => ?_)
  have hP : va_P (dC, dI) vwCl [(h0, .inr (10, [.int 0, .int 0, .ref q3, .null, .null, .int 0, .int 0, .long 0, .int 0, .int 0, .int 0, .int 0, .int 0, .int 0, .int 0, .int 0])), (q3, .inr (1, [.null, .null, .int 0])), (q9, .inr (1, [.null, .null, .int 0]))] H := hP
  have hD : va_D A [(h0, .inr (10, [.int 0, .int 0, .ref q3, .null, .null, .int 0, .int 0, .long 0, .int 0, .int 0, .int 0, .int 0, .int 0, .int 0, .int 0, .int 0])), (q3, .inr (1, [.null, .null, .int 0])), (q9, .inr (1, [.null, .null, .int 0]))] := hD
  refine W.widen (k := 2) (n := 6) (by decide) (by decide) ?_
  refine lv_dup hx hb dX10_init_19 rfl ?_
  have hPc := hP.sub (ws' := [(q9, .inr (1, [.null, .null, .int 0]))]) [2] rfl
  have hDc := hD.sub (ws' := [(q9, .inr (1, [.null, .null, .int 0]))]) [2] (by decide) rfl
  have hKc := hK.sub (tys' := []) [] rfl
  have hFc := va_free (wc := [(q9, .inr (1, [.null, .null, .int 0]))]) hD hS hA [2] rfl
  have h_10 : 2 ≤ 3 := by decide
  have h_11 : 6 ≤ 9 := by decide
  refine va_callv (va_runIN (As := []) (rest := [.ref q9, .ref h0]) ⟨hx, hb, hml, hown, hts⟩ (c_X1_init l dC dI q9 _) ⟨va_cnB 0 hts wg_X10_init_X1_init rfl rfl rfl fN (hts (.initialized RX1) (wm_X10_init 5 rfl)) (by decide +kernel) ⟨Nat.le_of_ble_eq_true rfl, Nat.le_of_ble_eq_true rfl⟩, rfl, (hts (.instanceMethod yX1_init) (wm_X10_init 6 rfl))⟩ ⟨fun a U g mk q => by obtain ⟨q0, q1, qP, qK, qD⟩ := q; exact ⟨q0, q1, qP, va_K.moved (u := U) (U := U.calling g mk a) (Vm.Alike.refl U.vm) qK, qD⟩, fun U hU hW => ⟨rfl, by rw [hU], by rw [hU]; exact hPc, va_K.moved hW.alike hKc, hDc.weaken (fun _ _ _ _ => trivial)⟩⟩ rfl rfl hl.1 rfl (lv_room (Nat.le_of_ble_eq_true rfl)) dX10_init_20 ⟨h_10, h_11⟩) hS (fun q _ h => hFc q h) hFc (fun u12 t H1 locs ht hvm hw hB hz1 hk1 hS => ?_)
  obtain ⟨hP1, hK1, hD1⟩ := hB
  rw [ht] at hP1
  have hK1 := va_K.moved hvm.symm hK1
  obtain ⟨hP, hD⟩ := va_join (wr := [(h0, .inr (10, [.int 0, .int 0, .ref q3, .null, .null, .int 0, .int 0, .long 0, .int 0, .int 0, .int 0, .int 0, .int 0, .int 0, .int 0, .int 0])), (q3, .inr (1, [.null, .null, .int 0]))]) (w1 := [(q9, .inr (1, [.null, .null, .int 0]))]) hP hD [2] [0, 1] rfl rfl (by decide) (by decide) hk1 hFc hP1 hD1
  have hK := (hK.sub (tys' := []) [] rfl).app hK1
  generalize H1 = H at hP hS ⊢
  have hP : va_P (dC, dI) vwCl [(h0, .inr (10, [.int 0, .int 0, .ref q3, .null, .null, .int 0, .int 0, .long 0, .int 0, .int 0, .int 0, .int 0, .int 0, .int 0, .int 0, .int 0])), (q3, .inr (1, [.null, .null, .int 0])), (q9, .inr (1, [.null, .null, .int 0]))] H := hP
  have hD : va_D A [(h0, .inr (10, [.int 0, .int 0, .ref q3, .null, .null, .int 0, .int 0, .long 0, .int 0, .int 0, .int 0, .int 0, .int 0, .int 0, .int 0, .int 0])), (q3, .inr (1, [.null, .null, .int 0])), (q9, .inr (1, [.null, .null, .int 0]))] := hD
  have hK : va_K (dC, dI) vwCl [] s := hK
  refine W.widen (k := 2) (n := 6) (by decide) (by decide) ?_
  refine va_putF (D := (dC, dI)) (ci := 10) (v := .ref q9) (ty := .object "StreamHouse$Chain") (C := RX10) (T := TX10) (N := 16) hx hb hts wh_X10_init_X10 tyX10 tyX10_ok nmX10 hown hK hP hD hS 0 rfl rfl 3 (by decide) (hts (.fieldLink RX10 18 "StreamHouse$Task" "b" "LStreamHouse$Chain;") (wm_X10_init 8 rfl)) (fun _ h9 => h9) rfl hin0 rfl (by decide +kernel) rfl rfl (Nat.le_of_ble_eq_true rfl) dX10_init_23 (fun H locs hP hD hS => ?_)
  have hP : va_P (dC, dI) vwCl [(h0, .inr (10, [.int 0, .int 0, .ref q3, .ref q9, .null, .int 0, .int 0, .long 0, .int 0, .int 0, .int 0, .int 0, .int 0, .int 0, .int 0, .int 0])), (q3, .inr (1, [.null, .null, .int 0])), (q9, .inr (1, [.null, .null, .int 0]))] H := hP
  have hD : va_D A [(h0, .inr (10, [.int 0, .int 0, .ref q3, .ref q9, .null, .int 0, .int 0, .long 0, .int 0, .int 0, .int 0, .int 0, .int 0, .int 0, .int 0, .int 0])), (q3, .inr (1, [.null, .null, .int 0])), (q9, .inr (1, [.null, .null, .int 0]))] := hD
  refine lv_aload_n hx hb dX10_init_26 rfl (lv_at hl 0 rfl) ?_
  have h_13 : 3 ≤ 3 := by decide
  have h_14 : 9 ≤ 9 := by decide
  refine va_new (ci := 1) (fs := [.null, .null, .int 0]) (C := RX1) (T := TX1) (N := 3) hx hb hts wh_X10_init_X1 tyX1 tyX1_ok hown (hts (.classLink RX10 9 RX1) (wm_X10_init 3 rfl)) (hts (.instantiable RX1 3) (wm_X10_init 4 rfl)) (hts (.initialized RX1) (wm_X10_init 5 rfl)) hK hP hD hS hA rfl (by decide +kernel) h_13 h_14 dX10_init_27 (fun q15 H hP hD hS => ?_)
  have hP : va_P (dC, dI) vwCl [(h0, .inr (10, [.int 0, .int 0, .ref q3, .ref q9, .null, .int 0, .int 0, .long 0, .int 0, .int 0, .int 0, .int 0, .int 0, .int 0, .int 0, .int 0])), (q3, .inr (1, [.null, .null, .int 0])), (q9, .inr (1, [.null, .null, .int 0])), (q15, .inr (1, [.null, .null, .int 0]))] H := hP
  have hD : va_D A [(h0, .inr (10, [.int 0, .int 0, .ref q3, .ref q9, .null, .int 0, .int 0, .long 0, .int 0, .int 0, .int 0, .int 0, .int 0, .int 0, .int 0, .int 0])), (q3, .inr (1, [.null, .null, .int 0])), (q9, .inr (1, [.null, .null, .int 0])), (q15, .inr (1, [.null, .null, .int 0]))] := hD
  refine W.widen (k := 3) (n := 9) (by decide) (by decide) ?_
  refine lv_dup hx hb dX10_init_30 rfl ?_
  have hPc := hP.sub (ws' := [(q15, .inr (1, [.null, .null, .int 0]))]) [3] rfl
  have hDc := hD.sub (ws' := [(q15, .inr (1, [.null, .null, .int 0]))]) [3] (by decide) rfl
  have hKc := hK.sub (tys' := []) [] rfl
  have hFc := va_free (wc := [(q15, .inr (1, [.null, .null, .int 0]))]) hD hS hA [3] rfl
  have h_16 : 3 ≤ 3 := by decide
  have h_17 : 9 ≤ 9 := by decide
  refine va_callv (va_runIN (As := []) (rest := [.ref q15, .ref h0]) ⟨hx, hb, hml, hown, hts⟩ (c_X1_init l dC dI q15 _) ⟨va_cnB 0 hts wg_X10_init_X1_init rfl rfl rfl fN (hts (.initialized RX1) (wm_X10_init 5 rfl)) (by decide +kernel) ⟨Nat.le_of_ble_eq_true rfl, Nat.le_of_ble_eq_true rfl⟩, rfl, (hts (.instanceMethod yX1_init) (wm_X10_init 6 rfl))⟩ ⟨fun a U g mk q => by obtain ⟨q0, q1, qP, qK, qD⟩ := q; exact ⟨q0, q1, qP, va_K.moved (u := U) (U := U.calling g mk a) (Vm.Alike.refl U.vm) qK, qD⟩, fun U hU hW => ⟨rfl, by rw [hU], by rw [hU]; exact hPc, va_K.moved hW.alike hKc, hDc.weaken (fun _ _ _ _ => trivial)⟩⟩ rfl rfl hl.1 rfl (lv_room (Nat.le_of_ble_eq_true rfl)) dX10_init_31 ⟨h_16, h_17⟩) hS (fun q _ h => hFc q h) hFc (fun u18 t H1 locs ht hvm hw hB hz1 hk1 hS => ?_)
  obtain ⟨hP1, hK1, hD1⟩ := hB
  rw [ht] at hP1
  have hK1 := va_K.moved hvm.symm hK1
  obtain ⟨hP, hD⟩ := va_join (wr := [(h0, .inr (10, [.int 0, .int 0, .ref q3, .ref q9, .null, .int 0, .int 0, .long 0, .int 0, .int 0, .int 0, .int 0, .int 0, .int 0, .int 0, .int 0])), (q3, .inr (1, [.null, .null, .int 0])), (q9, .inr (1, [.null, .null, .int 0]))]) (w1 := [(q15, .inr (1, [.null, .null, .int 0]))]) hP hD [3] [0, 1, 2] rfl rfl (by decide) (by decide) hk1 hFc hP1 hD1
  have hK := (hK.sub (tys' := []) [] rfl).app hK1
  generalize H1 = H at hP hS ⊢
  have hP : va_P (dC, dI) vwCl [(h0, .inr (10, [.int 0, .int 0, .ref q3, .ref q9, .null, .int 0, .int 0, .long 0, .int 0, .int 0, .int 0, .int 0, .int 0, .int 0, .int 0, .int 0])), (q3, .inr (1, [.null, .null, .int 0])), (q9, .inr (1, [.null, .null, .int 0])), (q15, .inr (1, [.null, .null, .int 0]))] H := hP
  have hD : va_D A [(h0, .inr (10, [.int 0, .int 0, .ref q3, .ref q9, .null, .int 0, .int 0, .long 0, .int 0, .int 0, .int 0, .int 0, .int 0, .int 0, .int 0, .int 0])), (q3, .inr (1, [.null, .null, .int 0])), (q9, .inr (1, [.null, .null, .int 0])), (q15, .inr (1, [.null, .null, .int 0]))] := hD
  have hK : va_K (dC, dI) vwCl [] s := hK
  refine W.widen (k := 3) (n := 9) (by decide) (by decide) ?_
  refine va_putF (D := (dC, dI)) (ci := 10) (v := .ref q15) (ty := .object "StreamHouse$Chain") (C := RX10) (T := TX10) (N := 16) hx hb hts wh_X10_init_X10 tyX10 tyX10_ok nmX10 hown hK hP hD hS 0 rfl rfl 4 (by decide) (hts (.fieldLink RX10 21 "StreamHouse$Task" "box" "LStreamHouse$Chain;") (wm_X10_init 9 rfl)) (fun _ h9 => h9) rfl hin0 rfl (by decide +kernel) rfl rfl (Nat.le_of_ble_eq_true rfl) dX10_init_34 (fun H locs hP hD hS => ?_)
  have hP : va_P (dC, dI) vwCl [(h0, .inr (10, [.int 0, .int 0, .ref q3, .ref q9, .ref q15, .int 0, .int 0, .long 0, .int 0, .int 0, .int 0, .int 0, .int 0, .int 0, .int 0, .int 0])), (q3, .inr (1, [.null, .null, .int 0])), (q9, .inr (1, [.null, .null, .int 0])), (q15, .inr (1, [.null, .null, .int 0]))] H := hP
  have hD : va_D A [(h0, .inr (10, [.int 0, .int 0, .ref q3, .ref q9, .ref q15, .int 0, .int 0, .long 0, .int 0, .int 0, .int 0, .int 0, .int 0, .int 0, .int 0, .int 0])), (q3, .inr (1, [.null, .null, .int 0])), (q9, .inr (1, [.null, .null, .int 0])), (q15, .inr (1, [.null, .null, .int 0]))] := hD
  have hP9 := hP.sub (ws' := [(h0, .inr (10, [.int 0, .int 0, .ref q3, .ref q9, .ref q15, .int 0, .int 0, .long 0, .int 0, .int 0, .int 0, .int 0, .int 0, .int 0, .int 0, .int 0]))]) [0] rfl
  have hD9 := hD.sub (ws' := [(h0, .inr (10, [.int 0, .int 0, .ref q3, .ref q9, .ref q15, .int 0, .int 0, .long 0, .int 0, .int 0, .int 0, .int 0, .int 0, .int 0, .int 0, .int 0]))]) [0] (by decide) rfl
  have hK9 := hK.sub (tys' := []) [] rfl
  exact W.vret hx hb hr (fun t ht hW => ⟨⟨(q3, q9, q15), rfl, trivial, by rw [ht]; exact hP9, va_K.moved hW.alike hK9, hD9⟩, hS.F ht⟩) hS.2.2 dX10_init_37

abbrev at_X11_init (dC : Nat → ClassId) (dI : Nat → Nat → Nat) (A : Nat → Prop) (h0 h1 : Nat) (k1 : Int32) (u : Nat × Nat) (t : State) : Prop := match u with
  | (q3, q9) => va_P (dC, dI) vwCl [(h0, .inr (11, [.ref h1, .int k1, .ref q3, .ref q9, .int 0, .null]))] t.heap ∧ va_K (dC, dI) vwCl [] t ∧ va_D A [(h0, .inr (11, [.ref h1, .int k1, .ref q3, .ref q9, .int 0, .null]))]
theorem dX11_init_0 : decode cX11_init 0 = .ok (.aload_n 0, 1) := by decide +kernel
theorem dX11_init_1 : decode cX11_init 1 = .ok (.invokespecial 3, 3) := by decide +kernel
theorem dX11_init_4 : decode cX11_init 4 = .ok (.aload_n 0, 1) := by decide +kernel
theorem dX11_init_5 : decode cX11_init 5 = .ok (.new 9, 3) := by decide +kernel
theorem dX11_init_8 : decode cX11_init 8 = .ok (.dup, 1) := by decide +kernel
theorem dX11_init_9 : decode cX11_init 9 = .ok (.invokespecial 11, 3) := by decide +kernel
theorem dX11_init_12 : decode cX11_init 12 = .ok (.putfield 12, 3) := by decide +kernel
theorem dX11_init_15 : decode cX11_init 15 = .ok (.aload_n 0, 1) := by decide +kernel
theorem dX11_init_16 : decode cX11_init 16 = .ok (.iconst 4, 1) := by decide +kernel
theorem dX11_init_17 : decode cX11_init 17 = .ok (.newarray .long, 2) := by decide +kernel
theorem dX11_init_19 : decode cX11_init 19 = .ok (.putfield 18, 3) := by decide +kernel
theorem dX11_init_22 : decode cX11_init 22 = .ok (.aload_n 0, 1) := by decide +kernel
theorem dX11_init_23 : decode cX11_init 23 = .ok (.aload_n 1, 1) := by decide +kernel
theorem dX11_init_24 : decode cX11_init 24 = .ok (.putfield 22, 3) := by decide +kernel
theorem dX11_init_27 : decode cX11_init 27 = .ok (.aload_n 0, 1) := by decide +kernel
theorem dX11_init_28 : decode cX11_init 28 = .ok (.iload_n 2, 1) := by decide +kernel
theorem dX11_init_29 : decode cX11_init 29 = .ok (.putfield 26, 3) := by decide +kernel
theorem dX11_init_32 : decode cX11_init 32 = .ok (.return_, 1) := by decide +kernel
def ww_X11_init : List Cond := [.methodLink RX11 3 objectInit, .instanceMethod objectInit, .code objectInit ⟨#[0xb1]⟩ 1 none, .classLink RX11 9 RX1, .instantiable RX1 3, .initialized RX1, .instanceMethod yX1_init, .fieldLink RX11 12 "StreamHouse$Works" "made" "LStreamHouse$Chain;", .arrayClass .long, .fieldLink RX11 18 "StreamHouse$Works" "amounts" "[J", .fieldLink RX11 22 "StreamHouse$Works" "pool" "LStreamHouse$Pool;", .fieldLink RX11 26 "StreamHouse$Works" "mostRecords" "I"]
def wv_X11_init : List Cond := .code yX11_init cX11_init 3 none :: (ww_X11_init ++ (u_ws RX1 TX1 3 ++ (wv_X1_init ++ (u_ws RX11 TX11 6 ++ []))))
theorem wm_X11_init {w : Cond} (i : Nat) (h : ww_X11_init[i]? = some w) : w ∈ wv_X11_init := List.mem_cons_of_mem _ (List.mem_append_left _ (List.mem_of_getElem? h))
theorem gw_X11_init : wv_X11_init.all goodWord = true := by decide +kernel
theorem wh_X11_init_X1 : ∀ w ∈ u_ws RX1 TX1 3, w ∈ wv_X11_init := fun w h => List.mem_cons_of_mem _ (List.mem_append_right _ (List.mem_append_left _ h))
theorem wg_X11_init_X1_init : GoodIn wv_X11_init wv_X1_init := goodIn_sub (fun w h => List.mem_cons_of_mem _ (List.mem_append_right _ (List.mem_append_right _ (List.mem_append_left _ h)))) gw_X1_init
theorem wh_X11_init_X11 : ∀ w ∈ u_ws RX11 TX11 6, w ∈ wv_X11_init := fun w h => List.mem_cons_of_mem _ (List.mem_append_right _ (List.mem_append_right _ (List.mem_append_right _ (List.mem_append_left _ h))))
set_option maxHeartbeats 4000000 in
set_option maxRecDepth 100000 in
/-- Works(pool, most) -/
theorem c_X11_init (l : Launch) (dC : Nat → ClassId) (dI : Nat → Nat → Nat) (h0 h1 : Nat) (k1 : Int32) (sz : Nat) : Met l yX11_init wv_X11_init ({ frames := 2, cells := 2, slots := 7, locals := 32 }) (va_Pc [.ref h0, .ref h1, .int k1] (fun U => U.heap.size = sz ∧ va_P (dC, dI) vwCl [(h0, .inr (11, [.null, .int 0, .null, .null, .int 0, .null]))] U.heap ∧ va_K (dC, dI) vwCl [] U ∧ va_D (fun _ => True) [(h0, .inr (11, [.null, .int 0, .null, .null, .int 0, .null]))] ∧ va_Nw (.methodLinkNest RX11 11 yX1_init RX12) U)) (va_Qv (fun _ : Nat × Nat => True) (at_X11_init dC dI (va_A [(h0, .inr (11, [.null, .int 0, .null, .null, .int 0, .null]))] sz) h0 h1 k1) (va_A [(h0, .inr (11, [.null, .int 0, .null, .null, .int 0, .null]))] sz)) 2 7 (va_A [(h0, .inr (11, [.null, .int 0, .null, .null, .int 0, .null]))] sz) := by
  refine Met.ofW (cc := cX11_init) (maxL := 3) (ret := none) (by decide) rfl ?_
  intro p e s m args below meth c s₁ B hml hv
  obtain ⟨rfl, hsz, hP, hK, hD0, fN⟩ := hv
  have hx := B.exec
  have hb := B.bytes
  have hr := B.returns
  have hts := atoms_spec (ws := wv_X11_init) B.pre
  have hown : s.vm.findClass RX11 = some m.cls := findClass_of_methodNamed B.named
  have hlocks := B.notSynchronized
  have hin0 : meth.name = "<init>" := (name_of_methodNamed B.named B.method).1
  subst hsz
  have hD := hD0.self (sz := s.heap.size)
  generalize hAe : va_A [(h0, .inr (11, [.null, .int 0, .null, .null, .int 0, .null]))] s.heap.size = A at hD ⊢
  have hA : ∀ q : Nat, s.heap.size ≤ q → A q := fun q h => by rw [← hAe]; exact Or.inr h
  have hS : va_S A s.heap s.heap [] := va_S.rf
  have hP : va_P (dC, dI) vwCl [(h0, .inr (11, [.null, .int 0, .null, .null, .int 0, .null]))] s.heap := hP
  have hl := lv_entry ([.ref h0, .ref h1, .int k1]) (n := 3) (Nat.le_of_ble_eq_true rfl)
  rw [lg_entry_eq]
  generalize (lg_sl ([.ref h0, .ref h1, .int k1]) ++ List.replicate (3 - (lg_sl ([.ref h0, .ref h1, .int k1])).length) Slot.unset).toArray = ls at hl ⊢
  have hl : lv_has ls 3 [(0, .ref h0), (1, .ref h1), (2, .int k1)] := hl
  refine lv_aload_n hx hb dX11_init_0 rfl (lv_at hl 0 rfl) ?_
  refine W.objInit hx hb hown (hts (.methodLink RX11 3 objectInit) (wm_X11_init 0 rfl)) (hts (.instanceMethod objectInit) (wm_X11_init 1 rfl)) (hts (.code objectInit ⟨#[0xb1]⟩ 1 none) (wm_X11_init 2 rfl)) rfl (by rw [hml]; exact hl.1) rfl dX11_init_1 (Nat.le_of_ble_eq_true rfl) (Nat.le_of_ble_eq_true rfl) ?_
  refine W.eq (g2 := F0 m 4 ls []) rfl ?_
  refine lv_aload_n hx hb dX11_init_4 rfl (lv_at hl 0 rfl) ?_
  have h_1 : 1 ≤ 2 := by decide
  have h_2 : 3 ≤ 7 := by decide
  refine va_new (ci := 1) (fs := [.null, .null, .int 0]) (C := RX1) (T := TX1) (N := 3) hx hb hts wh_X11_init_X1 tyX1 tyX1_ok hown (hts (.classLink RX11 9 RX1) (wm_X11_init 3 rfl)) (hts (.instantiable RX1 3) (wm_X11_init 4 rfl)) (hts (.initialized RX1) (wm_X11_init 5 rfl)) hK hP hD hS hA rfl (by decide +kernel) h_1 h_2 dX11_init_5 (fun q3 H hP hD hS => ?_)
  have hP : va_P (dC, dI) vwCl [(h0, .inr (11, [.null, .int 0, .null, .null, .int 0, .null])), (q3, .inr (1, [.null, .null, .int 0]))] H := hP
  have hD : va_D A [(h0, .inr (11, [.null, .int 0, .null, .null, .int 0, .null])), (q3, .inr (1, [.null, .null, .int 0]))] := hD
  refine W.widen (k := 1) (n := 3) (by decide) (by decide) ?_
  refine lv_dup hx hb dX11_init_8 rfl ?_
  have hPc := hP.sub (ws' := [(q3, .inr (1, [.null, .null, .int 0]))]) [1] rfl
  have hDc := hD.sub (ws' := [(q3, .inr (1, [.null, .null, .int 0]))]) [1] (by decide) rfl
  have hKc := hK.sub (tys' := []) [] rfl
  have hFc := va_free (wc := [(q3, .inr (1, [.null, .null, .int 0]))]) hD hS hA [1] rfl
  have h_4 : 1 ≤ 2 := by decide
  have h_5 : 3 ≤ 7 := by decide
  refine va_callv (va_runIN (As := []) (rest := [.ref q3, .ref h0]) ⟨hx, hb, hml, hown, hts⟩ (c_X1_init l dC dI q3 _) ⟨va_cnB 0 hts wg_X11_init_X1_init rfl rfl rfl fN (hts (.initialized RX1) (wm_X11_init 5 rfl)) (by decide +kernel) ⟨Nat.le_of_ble_eq_true rfl, Nat.le_of_ble_eq_true rfl⟩, rfl, (hts (.instanceMethod yX1_init) (wm_X11_init 6 rfl))⟩ ⟨fun a U g mk q => by obtain ⟨q0, q1, qP, qK, qD⟩ := q; exact ⟨q0, q1, qP, va_K.moved (u := U) (U := U.calling g mk a) (Vm.Alike.refl U.vm) qK, qD⟩, fun U hU hW => ⟨rfl, by rw [hU], by rw [hU]; exact hPc, va_K.moved hW.alike hKc, hDc.weaken (fun _ _ _ _ => trivial)⟩⟩ rfl rfl hl.1 rfl (lv_room (Nat.le_of_ble_eq_true rfl)) dX11_init_9 ⟨h_4, h_5⟩) hS (fun q _ h => hFc q h) hFc (fun u6 t H1 locs ht hvm hw hB hz1 hk1 hS => ?_)
  obtain ⟨hP1, hK1, hD1⟩ := hB
  rw [ht] at hP1
  have hK1 := va_K.moved hvm.symm hK1
  obtain ⟨hP, hD⟩ := va_join (wr := [(h0, .inr (11, [.null, .int 0, .null, .null, .int 0, .null]))]) (w1 := [(q3, .inr (1, [.null, .null, .int 0]))]) hP hD [1] [0] rfl rfl (by decide) (by decide) hk1 hFc hP1 hD1
  have hK := (hK.sub (tys' := []) [] rfl).app hK1
  generalize H1 = H at hP hS ⊢
  have hP : va_P (dC, dI) vwCl [(h0, .inr (11, [.null, .int 0, .null, .null, .int 0, .null])), (q3, .inr (1, [.null, .null, .int 0]))] H := hP
  have hD : va_D A [(h0, .inr (11, [.null, .int 0, .null, .null, .int 0, .null])), (q3, .inr (1, [.null, .null, .int 0]))] := hD
  have hK : va_K (dC, dI) vwCl [] s := hK
  refine W.widen (k := 1) (n := 3) (by decide) (by decide) ?_
  refine va_putF (D := (dC, dI)) (ci := 11) (v := .ref q3) (ty := .object "StreamHouse$Chain") (C := RX11) (T := TX11) (N := 6) hx hb hts wh_X11_init_X11 tyX11 tyX11_ok nmX11 hown hK hP hD hS 0 rfl rfl 2 (by decide) (hts (.fieldLink RX11 12 "StreamHouse$Works" "made" "LStreamHouse$Chain;") (wm_X11_init 7 rfl)) (fun _ h9 => h9) rfl hin0 rfl (by decide +kernel) rfl rfl (Nat.le_of_ble_eq_true rfl) dX11_init_12 (fun H locs hP hD hS => ?_)
  have hP : va_P (dC, dI) vwCl [(h0, .inr (11, [.null, .int 0, .ref q3, .null, .int 0, .null])), (q3, .inr (1, [.null, .null, .int 0]))] H := hP
  have hD : va_D A [(h0, .inr (11, [.null, .int 0, .ref q3, .null, .int 0, .null])), (q3, .inr (1, [.null, .null, .int 0]))] := hD
  refine lv_aload_n hx hb dX11_init_15 rfl (lv_at hl 0 rfl) ?_
  refine lv_iconst (v := 4) hx hb dX11_init_16 (by decide) ?_
  have h_7 : 2 ≤ 2 := by decide
  have h_8 : 7 ≤ 7 := by decide
  refine va_newa (atype := .long) (ty := .long) (n := 4) (N' := 4) (a0 := (4, .inr (.inl (fun _ => 0)))) hx hb (hts (.arrayClass .long) (wm_X11_init 8 rfl)) rfl hK hP hD hS hA (fun cA => vp_cell_l cA 4 (fun _ => 0)) (by decide) (by decide) (Nat.le_of_ble_eq_true rfl) h_7 h_8 dX11_init_17 (fun q9 cA10 H hK hP hD hS => ?_)
  have hP : va_P (dC, dI) vwCl [(h0, .inr (11, [.null, .int 0, .ref q3, .null, .int 0, .null])), (q3, .inr (1, [.null, .null, .int 0])), (q9, .inl (cA10, 4, .inr (.inl (fun _ => 0))))] H := hP
  have hD : va_D A [(h0, .inr (11, [.null, .int 0, .ref q3, .null, .int 0, .null])), (q3, .inr (1, [.null, .null, .int 0])), (q9, .inl (cA10, 4, .inr (.inl (fun _ => 0))))] := hD
  have hK : va_K (dC, dI) vwCl [(cA10, .long)] s := hK
  refine W.widen (k := 2) (n := 7) (by decide) (by decide) ?_
  refine va_putF (D := (dC, dI)) (ci := 11) (v := .ref q9) (ty := .array .long) (C := RX11) (T := TX11) (N := 6) hx hb hts wh_X11_init_X11 tyX11 tyX11_ok nmX11 hown hK hP hD hS 0 rfl rfl 3 (by decide) (hts (.fieldLink RX11 18 "StreamHouse$Works" "amounts" "[J") (wm_X11_init 9 rfl)) (fun _ h9 => h9) rfl hin0 rfl (by decide +kernel) rfl rfl (Nat.le_of_ble_eq_true rfl) dX11_init_19 (fun H locs hP hD hS => ?_)
  have hP : va_P (dC, dI) vwCl [(h0, .inr (11, [.null, .int 0, .ref q3, .ref q9, .int 0, .null])), (q3, .inr (1, [.null, .null, .int 0])), (q9, .inl (cA10, 4, .inr (.inl (fun _ => 0))))] H := hP
  have hD : va_D A [(h0, .inr (11, [.null, .int 0, .ref q3, .ref q9, .int 0, .null])), (q3, .inr (1, [.null, .null, .int 0])), (q9, .inl (cA10, 4, .inr (.inl (fun _ => 0))))] := hD
  refine lv_aload_n hx hb dX11_init_22 rfl (lv_at hl 0 rfl) ?_
  refine lv_aload_n hx hb dX11_init_23 rfl (lv_at hl 1 rfl) ?_
  refine va_putF (D := (dC, dI)) (ci := 11) (v := .ref h1) (ty := .object "StreamHouse$Pool") (C := RX11) (T := TX11) (N := 6) hx hb hts wh_X11_init_X11 tyX11 tyX11_ok nmX11 hown hK hP hD hS 0 rfl rfl 0 (by decide) (hts (.fieldLink RX11 22 "StreamHouse$Works" "pool" "LStreamHouse$Pool;") (wm_X11_init 10 rfl)) (fun _ h9 => h9) rfl hin0 rfl (by decide +kernel) rfl rfl (Nat.le_of_ble_eq_true rfl) dX11_init_24 (fun H locs hP hD hS => ?_)
  have hP : va_P (dC, dI) vwCl [(h0, .inr (11, [.ref h1, .int 0, .ref q3, .ref q9, .int 0, .null])), (q3, .inr (1, [.null, .null, .int 0])), (q9, .inl (cA10, 4, .inr (.inl (fun _ => 0))))] H := hP
  have hD : va_D A [(h0, .inr (11, [.ref h1, .int 0, .ref q3, .ref q9, .int 0, .null])), (q3, .inr (1, [.null, .null, .int 0])), (q9, .inl (cA10, 4, .inr (.inl (fun _ => 0))))] := hD
  refine lv_aload_n hx hb dX11_init_27 rfl (lv_at hl 0 rfl) ?_
  refine lv_iload_n hx hb dX11_init_28 rfl (lv_at hl 2 rfl) ?_
  refine va_putF (D := (dC, dI)) (ci := 11) (v := .int k1) (ty := .int) (C := RX11) (T := TX11) (N := 6) hx hb hts wh_X11_init_X11 tyX11 tyX11_ok nmX11 hown hK hP hD hS 0 rfl rfl 1 (by decide) (hts (.fieldLink RX11 26 "StreamHouse$Works" "mostRecords" "I") (wm_X11_init 11 rfl)) (fun _ h9 => h9) rfl hin0 rfl (by decide +kernel) rfl rfl (Nat.le_of_ble_eq_true rfl) dX11_init_29 (fun H locs hP hD hS => ?_)
  have hP : va_P (dC, dI) vwCl [(h0, .inr (11, [.ref h1, .int k1, .ref q3, .ref q9, .int 0, .null])), (q3, .inr (1, [.null, .null, .int 0])), (q9, .inl (cA10, 4, .inr (.inl (fun _ => 0))))] H := hP
  have hD : va_D A [(h0, .inr (11, [.ref h1, .int k1, .ref q3, .ref q9, .int 0, .null])), (q3, .inr (1, [.null, .null, .int 0])), (q9, .inl (cA10, 4, .inr (.inl (fun _ => 0))))] := hD
  have hP9 := hP.sub (ws' := [(h0, .inr (11, [.ref h1, .int k1, .ref q3, .ref q9, .int 0, .null]))]) [0] rfl
  have hD9 := hD.sub (ws' := [(h0, .inr (11, [.ref h1, .int k1, .ref q3, .ref q9, .int 0, .null]))]) [0] (by decide) rfl
  have hK9 := hK.sub (tys' := []) [] rfl
  exact W.vret hx hb hr (fun t ht hW => ⟨⟨(q3, q9), rfl, trivial, by rw [ht]; exact hP9, va_K.moved hW.alike hK9, hD9⟩, hS.F ht⟩) hS.2.2 dX11_init_32


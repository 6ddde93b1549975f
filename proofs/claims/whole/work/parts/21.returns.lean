abbrev ar_X12_fault (dC : Nat → ClassId) (dI : Nat → Nat → Nat) (A : Nat → Prop) (h0 : Nat) (a0 a1 a3 a4 a5 a6 a7 a8 : Value) (_ : Unit) (t : State) : Prop := va_P (dC, dI) vwCl [(h0, .inr (12, [a0, a1, .int 0, a3, a4, a5, a6, a7, a8]))] t.heap ∧ va_K (dC, dI) vwCl [] t ∧ va_D A [(h0, .inr (12, [a0, a1, .int 0, a3, a4, a5, a6, a7, a8]))]
theorem dX12_fault_0 : decode cX12_fault 0 = .ok (.aload_n 0, 1) := by decide +kernel
theorem dX12_fault_1 : decode cX12_fault 1 = .ok (.getfield 17, 3) := by decide +kernel
theorem dX12_fault_4 : decode cX12_fault 4 = .ok (.ireturn, 1) := by decide +kernel
def ww_X12_fault : List Cond := [.fieldLink RX12 17 "StreamHouse" "faultOfText" "I"]
def wv_X12_fault : List Cond := .code yX12_fault cX12_fault 1 (some .int) :: (ww_X12_fault ++ (u_ws RX12 TX12 9 ++ []))
theorem wm_X12_fault {w : Cond} (i : Nat) (h : ww_X12_fault[i]? = some w) : w ∈ wv_X12_fault := List.mem_cons_of_mem _ (List.mem_append_left _ (List.mem_of_getElem? h))
set_option maxRecDepth 100000 in
theorem gw_X12_fault : wv_X12_fault.all goodWord = true := by decide +kernel
theorem wh_X12_fault_X12 : ∀ w ∈ u_ws RX12 TX12 9, w ∈ wv_X12_fault := fun w h => List.mem_cons_of_mem _ (List.mem_append_right _ (List.mem_append_left _ h))
set_option maxHeartbeats 4000000 in
set_option maxRecDepth 100000 in
/-- fault() of a fresh house: 0 -/
theorem r_X12_fault (l : Launch) (dC : Nat → ClassId) (dI : Nat → Nat → Nat) (h0 : Nat) (a0 a1 a3 a4 a5 a6 a7 a8 : Value) (sz : Nat) : Met l yX12_fault wv_X12_fault ({ frames := 0, cells := 0, slots := 0, locals := 0 }) (va_Pc [.ref h0] (fun U => U.heap.size = sz ∧ va_P (dC, dI) vwCl [(h0, .inr (12, [a0, a1, .int 0, a3, a4, a5, a6, a7, a8]))] U.heap ∧ va_K (dC, dI) vwCl [] U ∧ va_D (fun _ => True) [(h0, .inr (12, [a0, a1, .int 0, a3, a4, a5, a6, a7, a8]))])) (va_Qi (fun r (_ : Unit) => r = 0) (ar_X12_fault dC dI (va_A [(h0, .inr (12, [a0, a1, .int 0, a3, a4, a5, a6, a7, a8]))] sz) h0 a0 a1 a3 a4 a5 a6 a7 a8) (va_A [(h0, .inr (12, [a0, a1, .int 0, a3, a4, a5, a6, a7, a8]))] sz)) 0 0 (va_A [(h0, .inr (12, [a0, a1, .int 0, a3, a4, a5, a6, a7, a8]))] sz) := by
  refine Met.ofW (cc := cX12_fault) (maxL := 1) (ret := (some .int)) (by decide) rfl ?_
  intro p e s m args below meth c s₁ B hml hv
  obtain ⟨rfl, hsz, hP, hK, hD0⟩ := hv
  have hx := B.exec
  have hb := B.bytes
  have hr := B.returns
  have hts := atoms_spec (ws := wv_X12_fault) B.pre
  have hown : s.vm.findClass RX12 = some m.cls := findClass_of_methodNamed B.named
  have hlocks := B.notSynchronized
  subst hsz
  have hD := hD0.self (sz := s.heap.size)
  generalize hAe : va_A [(h0, .inr (12, [a0, a1, .int 0, a3, a4, a5, a6, a7, a8]))] s.heap.size = A at hD ⊢
  have hA : ∀ q : Nat, s.heap.size ≤ q → A q := fun q h => by rw [← hAe]; exact Or.inr h
  have hS : va_S A s.heap s.heap [] := va_S.rf
  have hP : va_P (dC, dI) vwCl [(h0, .inr (12, [a0, a1, .int 0, a3, a4, a5, a6, a7, a8]))] s.heap := hP
  have hl := lv_entry ([.ref h0]) (n := 1) (Nat.le_of_ble_eq_true rfl)
  rw [lg_entry_eq]
  generalize (lg_sl ([.ref h0]) ++ List.replicate (1 - (lg_sl ([.ref h0])).length) Slot.unset).toArray = ls at hl ⊢
  have hl : lv_has ls 1 [(0, .ref h0)] := hl
  refine lv_aload_n hx hb dX12_fault_0 rfl (lv_at hl 0 rfl) ?_
  refine va_get (D := (dC, dI)) (ci := 12) (v := .int 0) (C := RX12) (T := TX12) (N := 9) hx hb hts wh_X12_fault_X12 hown hK hP 0 rfl rfl 2 (by decide) (hts (.fieldLink RX12 17 "StreamHouse" "faultOfText" "I") (wm_X12_fault 0 rfl)) (fun _ h9 => h9) rfl dX12_fault_1 ?_
  have hP9 := hP.sub (ws' := [(h0, .inr (12, [a0, a1, .int 0, a3, a4, a5, a6, a7, a8]))]) [0] rfl
  have hD9 := hD.sub (ws' := [(h0, .inr (12, [a0, a1, .int 0, a3, a4, a5, a6, a7, a8]))]) [0] (by decide) rfl
  have hK9 := hK.sub (tys' := []) [] rfl
  refine W.widen (k := 0) (n := 0) (by decide) (by decide) ?_
  exact W.iret (v := 0) hx hb hr (fun t ht hW => ⟨⟨0, (), rfl, rfl, by rw [ht]; exact hP9, va_K.moved hW.alike hK9, hD9⟩, hS.F ht⟩) hS.2.2 dX12_fault_4

abbrev ar_X12_crash (dC : Nat → ClassId) (dI : Nat → Nat → Nat) (A : Nat → Prop) (h0 h7 h8 : Nat) (k1 : Int32) (a0 a1 a2 a3 a4 a5 a6 a8 b0 b1 b3 b4 b5 b6 b7 b8 b9 b10 b11 b12 b13 b14 b15 b16 b17 b18 b19 d0 d1 d2 d3 d4 d5 d6 d7 d8 : Value) (_ : Unit) (t : State) : Prop := va_P (dC, dI) vwCl [(h0, .inr (12, [a0, a1, a2, a3, a4, a5, a6, .ref h7, a8])), (h7, .inr (9, [b0, b1, .ref h8, b3, b4, b5, b6, b7, b8, b9, b10, b11, b12, b13, b14, b15, b16, b17, b18, b19])), (h8, .inr (3, [d0, d1, d2, d3, d4, d5, d6, d7, .int k1, .int 0]))] t.heap ∧ va_K (dC, dI) vwCl [] t ∧ va_D A [(h0, .inr (12, [a0, a1, a2, a3, a4, a5, a6, .ref h7, a8])), (h7, .inr (9, [b0, b1, .ref h8, b3, b4, b5, b6, b7, b8, b9, b10, b11, b12, b13, b14, b15, b16, b17, b18, b19])), (h8, .inr (3, [d0, d1, d2, d3, d4, d5, d6, d7, .int k1, .int 0]))]
theorem dX12_crash_0 : decode cX12_crash 0 = .ok (.aload_n 0, 1) := by decide +kernel
theorem dX12_crash_1 : decode cX12_crash 1 = .ok (.getfield 49, 3) := by decide +kernel
theorem dX12_crash_4 : decode cX12_crash 4 = .ok (.getfield 66, 3) := by decide +kernel
theorem dX12_crash_7 : decode cX12_crash 7 = .ok (.getfield 70, 3) := by decide +kernel
theorem dX12_crash_10 : decode cX12_crash 10 = .ok (.ifCond .eq 11, 3) := by decide +kernel
theorem dX12_crash_21 : decode cX12_crash 21 = .ok (.iload_n 1, 1) := by decide +kernel
theorem dX12_crash_22 : decode cX12_crash 22 = .ok (.iconst (-1), 1) := by decide +kernel
theorem dX12_crash_23 : decode cX12_crash 23 = .ok (.if_icmp .ge 11, 3) := by decide +kernel
theorem dX12_crash_34 : decode cX12_crash 34 = .ok (.aload_n 0, 1) := by decide +kernel
theorem dX12_crash_35 : decode cX12_crash 35 = .ok (.getfield 49, 3) := by decide +kernel
theorem dX12_crash_38 : decode cX12_crash 38 = .ok (.getfield 66, 3) := by decide +kernel
theorem dX12_crash_41 : decode cX12_crash 41 = .ok (.iload_n 1, 1) := by decide +kernel
theorem dX12_crash_42 : decode cX12_crash 42 = .ok (.putfield 166, 3) := by decide +kernel
theorem dX12_crash_45 : decode cX12_crash 45 = .ok (.return_, 1) := by decide +kernel
def ww_X12_crash : List Cond := [.fieldLink RX12 49 "StreamHouse" "run" "LStreamHouse$Run;", .fieldLink RX12 66 "StreamHouse$Run" "disk" "LStreamHouse$Disk;", .fieldLink RX12 70 "StreamHouse$Disk" "down" "Z", .fieldLink RX12 166 "StreamHouse$Disk" "powerLeft" "I"]
def wv_X12_crash : List Cond := .code yX12_crash cX12_crash 2 none :: (ww_X12_crash ++ (u_ws RX12 TX12 9 ++ (u_ws RX9 TX9 20 ++ (u_ws RX3 TX3 10 ++ []))))
theorem wm_X12_crash {w : Cond} (i : Nat) (h : ww_X12_crash[i]? = some w) : w ∈ wv_X12_crash := List.mem_cons_of_mem _ (List.mem_append_left _ (List.mem_of_getElem? h))
set_option maxRecDepth 100000 in
theorem gw_X12_crash : wv_X12_crash.all goodWord = true := by decide +kernel
theorem wh_X12_crash_X12 : ∀ w ∈ u_ws RX12 TX12 9, w ∈ wv_X12_crash := fun w h => List.mem_cons_of_mem _ (List.mem_append_right _ (List.mem_append_left _ h))
theorem wh_X12_crash_X9 : ∀ w ∈ u_ws RX9 TX9 20, w ∈ wv_X12_crash := fun w h => List.mem_cons_of_mem _ (List.mem_append_right _ (List.mem_append_right _ (List.mem_append_left _ h)))
theorem wh_X12_crash_X3 : ∀ w ∈ u_ws RX3 TX3 10, w ∈ wv_X12_crash := fun w h => List.mem_cons_of_mem _ (List.mem_append_right _ (List.mem_append_right _ (List.mem_append_right _ (List.mem_append_left _ h))))
set_option maxHeartbeats 4000000 in
set_option maxRecDepth 100000 in
/-- crash(k), k not below NONE -/
theorem r_X12_crash (l : Launch) (dC : Nat → ClassId) (dI : Nat → Nat → Nat) (h0 h7 h8 : Nat) (k1 : Int32) (a0 a1 a2 a3 a4 a5 a6 a8 b0 b1 b3 b4 b5 b6 b7 b8 b9 b10 b11 b12 b13 b14 b15 b16 b17 b18 b19 d0 d1 d2 d3 d4 d5 d6 d7 d8 : Value) (sz : Nat) : Met l yX12_crash wv_X12_crash ({ frames := 0, cells := 0, slots := 0, locals := 0 }) (va_Pc [.ref h0, .int k1] (fun U => U.heap.size = sz ∧ va_P (dC, dI) vwCl [(h0, .inr (12, [a0, a1, a2, a3, a4, a5, a6, .ref h7, a8])), (h7, .inr (9, [b0, b1, .ref h8, b3, b4, b5, b6, b7, b8, b9, b10, b11, b12, b13, b14, b15, b16, b17, b18, b19])), (h8, .inr (3, [d0, d1, d2, d3, d4, d5, d6, d7, d8, .int 0]))] U.heap ∧ va_K (dC, dI) vwCl [] U ∧ va_D (fun _ => True) [(h0, .inr (12, [a0, a1, a2, a3, a4, a5, a6, .ref h7, a8])), (h7, .inr (9, [b0, b1, .ref h8, b3, b4, b5, b6, b7, b8, b9, b10, b11, b12, b13, b14, b15, b16, b17, b18, b19])), (h8, .inr (3, [d0, d1, d2, d3, d4, d5, d6, d7, d8, .int 0]))] ∧ -1 ≤ k1)) (va_Qv (fun _ : Unit => True) (ar_X12_crash dC dI (va_A [(h0, .inr (12, [a0, a1, a2, a3, a4, a5, a6, .ref h7, a8])), (h7, .inr (9, [b0, b1, .ref h8, b3, b4, b5, b6, b7, b8, b9, b10, b11, b12, b13, b14, b15, b16, b17, b18, b19])), (h8, .inr (3, [d0, d1, d2, d3, d4, d5, d6, d7, d8, .int 0]))] sz) h0 h7 h8 k1 a0 a1 a2 a3 a4 a5 a6 a8 b0 b1 b3 b4 b5 b6 b7 b8 b9 b10 b11 b12 b13 b14 b15 b16 b17 b18 b19 d0 d1 d2 d3 d4 d5 d6 d7 d8) (va_A [(h0, .inr (12, [a0, a1, a2, a3, a4, a5, a6, .ref h7, a8])), (h7, .inr (9, [b0, b1, .ref h8, b3, b4, b5, b6, b7, b8, b9, b10, b11, b12, b13, b14, b15, b16, b17, b18, b19])), (h8, .inr (3, [d0, d1, d2, d3, d4, d5, d6, d7, d8, .int 0]))] sz)) 0 0 (va_A [(h0, .inr (12, [a0, a1, a2, a3, a4, a5, a6, .ref h7, a8])), (h7, .inr (9, [b0, b1, .ref h8, b3, b4, b5, b6, b7, b8, b9, b10, b11, b12, b13, b14, b15, b16, b17, b18, b19])), (h8, .inr (3, [d0, d1, d2, d3, d4, d5, d6, d7, d8, .int 0]))] sz) := by
  refine Met.ofW (cc := cX12_crash) (maxL := 2) (ret := none) (by decide) rfl ?_
  intro p e s m args below meth c s₁ B hml hv
  obtain ⟨rfl, hsz, hP, hK, hD0, hpre⟩ := hv
  have hx := B.exec
  have hb := B.bytes
  have hr := B.returns
  have hts := atoms_spec (ws := wv_X12_crash) B.pre
  have hown : s.vm.findClass RX12 = some m.cls := findClass_of_methodNamed B.named
  have hlocks := B.notSynchronized
  subst hsz
  have hD := hD0.self (sz := s.heap.size)
  generalize hAe : va_A [(h0, .inr (12, [a0, a1, a2, a3, a4, a5, a6, .ref h7, a8])), (h7, .inr (9, [b0, b1, .ref h8, b3, b4, b5, b6, b7, b8, b9, b10, b11, b12, b13, b14, b15, b16, b17, b18, b19])), (h8, .inr (3, [d0, d1, d2, d3, d4, d5, d6, d7, d8, .int 0]))] s.heap.size = A at hD ⊢
  have hA : ∀ q : Nat, s.heap.size ≤ q → A q := fun q h => by rw [← hAe]; exact Or.inr h
  have hS : va_S A s.heap s.heap [] := va_S.rf
  have hP : va_P (dC, dI) vwCl [(h0, .inr (12, [a0, a1, a2, a3, a4, a5, a6, .ref h7, a8])), (h7, .inr (9, [b0, b1, .ref h8, b3, b4, b5, b6, b7, b8, b9, b10, b11, b12, b13, b14, b15, b16, b17, b18, b19])), (h8, .inr (3, [d0, d1, d2, d3, d4, d5, d6, d7, d8, .int 0]))] s.heap := hP
  have hl := lv_entry ([.ref h0, .int k1]) (n := 2) (Nat.le_of_ble_eq_true rfl)
  rw [lg_entry_eq]
  generalize (lg_sl ([.ref h0, .int k1]) ++ List.replicate (2 - (lg_sl ([.ref h0, .int k1])).length) Slot.unset).toArray = ls at hl ⊢
  have hl : lv_has ls 2 [(0, .ref h0), (1, .int k1)] := hl
  refine lv_aload_n hx hb dX12_crash_0 rfl (lv_at hl 0 rfl) ?_
  refine va_get (D := (dC, dI)) (ci := 12) (v := .ref h7) (C := RX12) (T := TX12) (N := 9) hx hb hts wh_X12_crash_X12 hown hK hP 0 rfl rfl 7 (by decide) (hts (.fieldLink RX12 49 "StreamHouse" "run" "LStreamHouse$Run;") (wm_X12_crash 0 rfl)) (fun _ h9 => h9) rfl dX12_crash_1 ?_
  refine va_get (D := (dC, dI)) (ci := 9) (v := .ref h8) (C := RX9) (T := TX9) (N := 20) hx hb hts wh_X12_crash_X9 hown hK hP 1 rfl rfl 2 (by decide) (hts (.fieldLink RX12 66 "StreamHouse$Run" "disk" "LStreamHouse$Disk;") (wm_X12_crash 1 rfl)) (fun _ h9 => h9) rfl dX12_crash_4 ?_
  refine va_get (D := (dC, dI)) (ci := 3) (v := .int 0) (C := RX3) (T := TX3) (N := 10) hx hb hts wh_X12_crash_X3 hown hK hP 2 rfl rfl 9 (by decide) (hts (.fieldLink RX12 70 "StreamHouse$Disk" "down" "Z") (wm_X12_crash 2 rfl)) (fun _ h9 => h9) rfl dX12_crash_7 ?_
  refine lv_if_eq (tgt := 21) hx hb dX12_crash_10 (by decide) (fun _ => ?_) (fun h9 => absurd (by decide) h9)
  refine lv_iload_n hx hb dX12_crash_21 rfl (lv_at hl 1 rfl) ?_
  refine lv_iconst (v := (-1)) hx hb dX12_crash_22 (by decide) ?_
  refine lv_icmp_ge (tgt := 34) hx hb dX12_crash_23 (by decide) (fun _ => ?_) (fun h9 => absurd hpre h9)
  refine lv_aload_n hx hb dX12_crash_34 rfl (lv_at hl 0 rfl) ?_
  refine va_get (D := (dC, dI)) (ci := 12) (v := .ref h7) (C := RX12) (T := TX12) (N := 9) hx hb hts wh_X12_crash_X12 hown hK hP 0 rfl rfl 7 (by decide) (hts (.fieldLink RX12 49 "StreamHouse" "run" "LStreamHouse$Run;") (wm_X12_crash 0 rfl)) (fun _ h9 => h9) rfl dX12_crash_35 ?_
  refine va_get (D := (dC, dI)) (ci := 9) (v := .ref h8) (C := RX9) (T := TX9) (N := 20) hx hb hts wh_X12_crash_X9 hown hK hP 1 rfl rfl 2 (by decide) (hts (.fieldLink RX12 66 "StreamHouse$Run" "disk" "LStreamHouse$Disk;") (wm_X12_crash 1 rfl)) (fun _ h9 => h9) rfl dX12_crash_38 ?_
  refine lv_iload_n hx hb dX12_crash_41 rfl (lv_at hl 1 rfl) ?_
  refine va_put (D := (dC, dI)) (ci := 3) (v := .int k1) (ty := .int) (C := RX3) (T := TX3) (N := 10) hx hb hts wh_X12_crash_X3 tyX3 tyX3_ok nmX3 hown hK hP hD hS 2 rfl rfl 8 (by decide) (hts (.fieldLink RX12 166 "StreamHouse$Disk" "powerLeft" "I") (wm_X12_crash 3 rfl)) (fun _ h9 => h9) rfl (by decide +kernel) rfl rfl (Nat.le_of_ble_eq_true rfl) dX12_crash_42 (fun H locs hP hD hS => ?_)
  have hP : va_P (dC, dI) vwCl [(h0, .inr (12, [a0, a1, a2, a3, a4, a5, a6, .ref h7, a8])), (h7, .inr (9, [b0, b1, .ref h8, b3, b4, b5, b6, b7, b8, b9, b10, b11, b12, b13, b14, b15, b16, b17, b18, b19])), (h8, .inr (3, [d0, d1, d2, d3, d4, d5, d6, d7, .int k1, .int 0]))] H := hP
  have hD : va_D A [(h0, .inr (12, [a0, a1, a2, a3, a4, a5, a6, .ref h7, a8])), (h7, .inr (9, [b0, b1, .ref h8, b3, b4, b5, b6, b7, b8, b9, b10, b11, b12, b13, b14, b15, b16, b17, b18, b19])), (h8, .inr (3, [d0, d1, d2, d3, d4, d5, d6, d7, .int k1, .int 0]))] := hD
  have hP9 := hP.sub (ws' := [(h0, .inr (12, [a0, a1, a2, a3, a4, a5, a6, .ref h7, a8])), (h7, .inr (9, [b0, b1, .ref h8, b3, b4, b5, b6, b7, b8, b9, b10, b11, b12, b13, b14, b15, b16, b17, b18, b19])), (h8, .inr (3, [d0, d1, d2, d3, d4, d5, d6, d7, .int k1, .int 0]))]) [0, 1, 2] rfl
  have hD9 := hD.sub (ws' := [(h0, .inr (12, [a0, a1, a2, a3, a4, a5, a6, .ref h7, a8])), (h7, .inr (9, [b0, b1, .ref h8, b3, b4, b5, b6, b7, b8, b9, b10, b11, b12, b13, b14, b15, b16, b17, b18, b19])), (h8, .inr (3, [d0, d1, d2, d3, d4, d5, d6, d7, .int k1, .int 0]))]) [0, 1, 2] (by decide) rfl
  have hK9 := hK.sub (tys' := []) [] rfl
  refine W.widen (k := 0) (n := 0) (by decide) (by decide) ?_
  exact W.vret hx hb hr (fun t ht hW => ⟨⟨(), rfl, trivial, by rw [ht]; exact hP9, va_K.moved hW.alike hK9, hD9⟩, hS.F ht⟩) hS.2.2 dX12_crash_45

abbrev ar_X12_told_0 (dC : Nat → ClassId) (dI : Nat → Nat → Nat) (A : Nat → Prop) (h0 h4 h6 h7 h8 : Nat) (a0 a2 a3 a5 a8 b0 b3 b4 b5 b6 b7 b8 b9 b10 b11 b12 b13 c0 c2 e0 e1 e3 e4 e5 e6 e7 e8 e9 e10 e11 e12 e13 e14 e15 e16 e17 e18 e19 d0 d1 d2 d5 d6 d7 d8 : Value) (_ : Unit) (t : State) : Prop := va_P (dC, dI) vwCl [(h0, .inr (12, [a0, .int 0, a2, a3, .ref h4, a5, .ref h6, .ref h7, a8])), (h4, .inr (4, [b0, .int 0, .int 0, b3, b4, b5, b6, b7, b8, b9, b10, b11, b12, b13])), (h6, .inr (8, [c0, .int 0, c2])), (h7, .inr (9, [e0, e1, .ref h8, e3, e4, e5, e6, e7, e8, e9, e10, e11, e12, e13, e14, e15, e16, e17, e18, e19])), (h8, .inr (3, [d0, d1, d2, .int 0, .int 0, d5, d6, d7, d8, .int 0]))] t.heap ∧ va_K (dC, dI) vwCl [] t ∧ va_D A [(h0, .inr (12, [a0, .int 0, a2, a3, .ref h4, a5, .ref h6, .ref h7, a8])), (h4, .inr (4, [b0, .int 0, .int 0, b3, b4, b5, b6, b7, b8, b9, b10, b11, b12, b13])), (h6, .inr (8, [c0, .int 0, c2])), (h7, .inr (9, [e0, e1, .ref h8, e3, e4, e5, e6, e7, e8, e9, e10, e11, e12, e13, e14, e15, e16, e17, e18, e19])), (h8, .inr (3, [d0, d1, d2, .int 0, .int 0, d5, d6, d7, d8, .int 0]))]
theorem dX12_told_0 : decode cX12_told 0 = .ok (.iload_n 1, 1) := by decide +kernel
theorem dX12_told_1 : decode cX12_told 1 = .ok (.tableswitch 145 0 14 #[75, 145, 145, 145, 145, 83, 94, 145, 145, 105, 145, 145, 124, 132, 140], 75) := by decide +kernel
theorem dX12_told_76 : decode cX12_told 76 = .ok (.aload_n 0, 1) := by decide +kernel
theorem dX12_told_77 : decode cX12_told 77 = .ok (.getfield 30, 3) := by decide +kernel
theorem dX12_told_80 : decode cX12_told 80 = .ok (.getfield 89, 3) := by decide +kernel
theorem dX12_told_83 : decode cX12_told 83 = .ok (.ireturn, 1) := by decide +kernel
def ww_X12_told : List Cond := [.fieldLink RX12 30 "StreamHouse" "current" "LStreamHouse$Job;", .fieldLink RX12 89 "StreamHouse$Job" "count" "I"]
def wv_X12_told : List Cond := .code yX12_told cX12_told 2 (some .int) :: (ww_X12_told ++ (u_ws RX12 TX12 9 ++ (u_ws RX4 TX4 14 ++ [])))
theorem wm_X12_told {w : Cond} (i : Nat) (h : ww_X12_told[i]? = some w) : w ∈ wv_X12_told := List.mem_cons_of_mem _ (List.mem_append_left _ (List.mem_of_getElem? h))
set_option maxRecDepth 100000 in
theorem gw_X12_told : wv_X12_told.all goodWord = true := by decide +kernel
theorem wh_X12_told_X12 : ∀ w ∈ u_ws RX12 TX12 9, w ∈ wv_X12_told := fun w h => List.mem_cons_of_mem _ (List.mem_append_right _ (List.mem_append_left _ h))
theorem wh_X12_told_X4 : ∀ w ∈ u_ws RX4 TX4 14, w ∈ wv_X12_told := fun w h => List.mem_cons_of_mem _ (List.mem_append_right _ (List.mem_append_right _ (List.mem_append_left _ h)))
set_option maxHeartbeats 4000000 in
set_option maxRecDepth 100000 in
/-- told(0) of a fresh house: 0 -/
theorem r_X12_told_0 (l : Launch) (dC : Nat → ClassId) (dI : Nat → Nat → Nat) (h0 h4 h6 h7 h8 : Nat) (a0 a2 a3 a5 a8 b0 b3 b4 b5 b6 b7 b8 b9 b10 b11 b12 b13 c0 c2 e0 e1 e3 e4 e5 e6 e7 e8 e9 e10 e11 e12 e13 e14 e15 e16 e17 e18 e19 d0 d1 d2 d5 d6 d7 d8 : Value) (sz : Nat) : Met l yX12_told wv_X12_told ({ frames := 0, cells := 0, slots := 0, locals := 0 }) (va_Pc [.ref h0, .int 0] (fun U => U.heap.size = sz ∧ va_P (dC, dI) vwCl [(h0, .inr (12, [a0, .int 0, a2, a3, .ref h4, a5, .ref h6, .ref h7, a8])), (h4, .inr (4, [b0, .int 0, .int 0, b3, b4, b5, b6, b7, b8, b9, b10, b11, b12, b13])), (h6, .inr (8, [c0, .int 0, c2])), (h7, .inr (9, [e0, e1, .ref h8, e3, e4, e5, e6, e7, e8, e9, e10, e11, e12, e13, e14, e15, e16, e17, e18, e19])), (h8, .inr (3, [d0, d1, d2, .int 0, .int 0, d5, d6, d7, d8, .int 0]))] U.heap ∧ va_K (dC, dI) vwCl [] U ∧ va_D (fun _ => True) [(h0, .inr (12, [a0, .int 0, a2, a3, .ref h4, a5, .ref h6, .ref h7, a8])), (h4, .inr (4, [b0, .int 0, .int 0, b3, b4, b5, b6, b7, b8, b9, b10, b11, b12, b13])), (h6, .inr (8, [c0, .int 0, c2])), (h7, .inr (9, [e0, e1, .ref h8, e3, e4, e5, e6, e7, e8, e9, e10, e11, e12, e13, e14, e15, e16, e17, e18, e19])), (h8, .inr (3, [d0, d1, d2, .int 0, .int 0, d5, d6, d7, d8, .int 0]))])) (va_Qi (fun r (_ : Unit) => r = 0) (ar_X12_told_0 dC dI (va_A [(h0, .inr (12, [a0, .int 0, a2, a3, .ref h4, a5, .ref h6, .ref h7, a8])), (h4, .inr (4, [b0, .int 0, .int 0, b3, b4, b5, b6, b7, b8, b9, b10, b11, b12, b13])), (h6, .inr (8, [c0, .int 0, c2])), (h7, .inr (9, [e0, e1, .ref h8, e3, e4, e5, e6, e7, e8, e9, e10, e11, e12, e13, e14, e15, e16, e17, e18, e19])), (h8, .inr (3, [d0, d1, d2, .int 0, .int 0, d5, d6, d7, d8, .int 0]))] sz) h0 h4 h6 h7 h8 a0 a2 a3 a5 a8 b0 b3 b4 b5 b6 b7 b8 b9 b10 b11 b12 b13 c0 c2 e0 e1 e3 e4 e5 e6 e7 e8 e9 e10 e11 e12 e13 e14 e15 e16 e17 e18 e19 d0 d1 d2 d5 d6 d7 d8) (va_A [(h0, .inr (12, [a0, .int 0, a2, a3, .ref h4, a5, .ref h6, .ref h7, a8])), (h4, .inr (4, [b0, .int 0, .int 0, b3, b4, b5, b6, b7, b8, b9, b10, b11, b12, b13])), (h6, .inr (8, [c0, .int 0, c2])), (h7, .inr (9, [e0, e1, .ref h8, e3, e4, e5, e6, e7, e8, e9, e10, e11, e12, e13, e14, e15, e16, e17, e18, e19])), (h8, .inr (3, [d0, d1, d2, .int 0, .int 0, d5, d6, d7, d8, .int 0]))] sz)) 0 0 (va_A [(h0, .inr (12, [a0, .int 0, a2, a3, .ref h4, a5, .ref h6, .ref h7, a8])), (h4, .inr (4, [b0, .int 0, .int 0, b3, b4, b5, b6, b7, b8, b9, b10, b11, b12, b13])), (h6, .inr (8, [c0, .int 0, c2])), (h7, .inr (9, [e0, e1, .ref h8, e3, e4, e5, e6, e7, e8, e9, e10, e11, e12, e13, e14, e15, e16, e17, e18, e19])), (h8, .inr (3, [d0, d1, d2, .int 0, .int 0, d5, d6, d7, d8, .int 0]))] sz) := by
  refine Met.ofW (cc := cX12_told) (maxL := 2) (ret := (some .int)) (by decide) rfl ?_
  intro p e s m args below meth c s₁ B hml hv
  obtain ⟨rfl, hsz, hP, hK, hD0⟩ := hv
  have hx := B.exec
  have hb := B.bytes
  have hr := B.returns
  have hts := atoms_spec (ws := wv_X12_told) B.pre
  have hown : s.vm.findClass RX12 = some m.cls := findClass_of_methodNamed B.named
  have hlocks := B.notSynchronized
  subst hsz
  have hD := hD0.self (sz := s.heap.size)
  generalize hAe : va_A [(h0, .inr (12, [a0, .int 0, a2, a3, .ref h4, a5, .ref h6, .ref h7, a8])), (h4, .inr (4, [b0, .int 0, .int 0, b3, b4, b5, b6, b7, b8, b9, b10, b11, b12, b13])), (h6, .inr (8, [c0, .int 0, c2])), (h7, .inr (9, [e0, e1, .ref h8, e3, e4, e5, e6, e7, e8, e9, e10, e11, e12, e13, e14, e15, e16, e17, e18, e19])), (h8, .inr (3, [d0, d1, d2, .int 0, .int 0, d5, d6, d7, d8, .int 0]))] s.heap.size = A at hD ⊢
  have hA : ∀ q : Nat, s.heap.size ≤ q → A q := fun q h => by rw [← hAe]; exact Or.inr h
  have hS : va_S A s.heap s.heap [] := va_S.rf
  have hP : va_P (dC, dI) vwCl [(h0, .inr (12, [a0, .int 0, a2, a3, .ref h4, a5, .ref h6, .ref h7, a8])), (h4, .inr (4, [b0, .int 0, .int 0, b3, b4, b5, b6, b7, b8, b9, b10, b11, b12, b13])), (h6, .inr (8, [c0, .int 0, c2])), (h7, .inr (9, [e0, e1, .ref h8, e3, e4, e5, e6, e7, e8, e9, e10, e11, e12, e13, e14, e15, e16, e17, e18, e19])), (h8, .inr (3, [d0, d1, d2, .int 0, .int 0, d5, d6, d7, d8, .int 0]))] s.heap := hP
  have hl := lv_entry ([.ref h0, .int 0]) (n := 2) (Nat.le_of_ble_eq_true rfl)
  rw [lg_entry_eq]
  generalize (lg_sl ([.ref h0, .int 0]) ++ List.replicate (2 - (lg_sl ([.ref h0, .int 0])).length) Slot.unset).toArray = ls at hl ⊢
  have hl : lv_has ls 2 [(0, .ref h0), (1, .int 0)] := hl
  refine lv_iload_n hx hb dX12_told_0 rfl (lv_at hl 1 rfl) ?_
  refine lv_tableIn (off := 75) (tgt := 76) hx hb dX12_told_1 (by decide) (by decide) (by decide) (by decide) ?_
  refine lv_aload_n hx hb dX12_told_76 rfl (lv_at hl 0 rfl) ?_
  refine va_get (D := (dC, dI)) (ci := 12) (v := .ref h4) (C := RX12) (T := TX12) (N := 9) hx hb hts wh_X12_told_X12 hown hK hP 0 rfl rfl 4 (by decide) (hts (.fieldLink RX12 30 "StreamHouse" "current" "LStreamHouse$Job;") (wm_X12_told 0 rfl)) (fun _ h9 => h9) rfl dX12_told_77 ?_
  refine va_get (D := (dC, dI)) (ci := 4) (v := .int 0) (C := RX4) (T := TX4) (N := 14) hx hb hts wh_X12_told_X4 hown hK hP 1 rfl rfl 1 (by decide) (hts (.fieldLink RX12 89 "StreamHouse$Job" "count" "I") (wm_X12_told 1 rfl)) (fun _ h9 => h9) rfl dX12_told_80 ?_
  have hP9 := hP.sub (ws' := [(h0, .inr (12, [a0, .int 0, a2, a3, .ref h4, a5, .ref h6, .ref h7, a8])), (h4, .inr (4, [b0, .int 0, .int 0, b3, b4, b5, b6, b7, b8, b9, b10, b11, b12, b13])), (h6, .inr (8, [c0, .int 0, c2])), (h7, .inr (9, [e0, e1, .ref h8, e3, e4, e5, e6, e7, e8, e9, e10, e11, e12, e13, e14, e15, e16, e17, e18, e19])), (h8, .inr (3, [d0, d1, d2, .int 0, .int 0, d5, d6, d7, d8, .int 0]))]) [0, 1, 2, 3, 4] rfl
  have hD9 := hD.sub (ws' := [(h0, .inr (12, [a0, .int 0, a2, a3, .ref h4, a5, .ref h6, .ref h7, a8])), (h4, .inr (4, [b0, .int 0, .int 0, b3, b4, b5, b6, b7, b8, b9, b10, b11, b12, b13])), (h6, .inr (8, [c0, .int 0, c2])), (h7, .inr (9, [e0, e1, .ref h8, e3, e4, e5, e6, e7, e8, e9, e10, e11, e12, e13, e14, e15, e16, e17, e18, e19])), (h8, .inr (3, [d0, d1, d2, .int 0, .int 0, d5, d6, d7, d8, .int 0]))]) [0, 1, 2, 3, 4] (by decide) rfl
  have hK9 := hK.sub (tys' := []) [] rfl
  refine W.widen (k := 0) (n := 0) (by decide) (by decide) ?_
  exact W.iret (v := 0) hx hb hr (fun t ht hW => ⟨⟨0, (), rfl, rfl, by rw [ht]; exact hP9, va_K.moved hW.alike hK9, hD9⟩, hS.F ht⟩) hS.2.2 dX12_told_83

abbrev ar_X12_told_5 (dC : Nat → ClassId) (dI : Nat → Nat → Nat) (A : Nat → Prop) (h0 h4 h6 h7 h8 : Nat) (a0 a2 a3 a5 a8 b0 b3 b4 b5 b6 b7 b8 b9 b10 b11 b12 b13 c0 c2 e0 e1 e3 e4 e5 e6 e7 e8 e9 e10 e11 e12 e13 e14 e15 e16 e17 e18 e19 d0 d1 d2 d5 d6 d7 d8 : Value) (_ : Unit) (t : State) : Prop := va_P (dC, dI) vwCl [(h0, .inr (12, [a0, .int 0, a2, a3, .ref h4, a5, .ref h6, .ref h7, a8])), (h4, .inr (4, [b0, .int 0, .int 0, b3, b4, b5, b6, b7, b8, b9, b10, b11, b12, b13])), (h6, .inr (8, [c0, .int 0, c2])), (h7, .inr (9, [e0, e1, .ref h8, e3, e4, e5, e6, e7, e8, e9, e10, e11, e12, e13, e14, e15, e16, e17, e18, e19])), (h8, .inr (3, [d0, d1, d2, .int 0, .int 0, d5, d6, d7, d8, .int 0]))] t.heap ∧ va_K (dC, dI) vwCl [] t ∧ va_D A [(h0, .inr (12, [a0, .int 0, a2, a3, .ref h4, a5, .ref h6, .ref h7, a8])), (h4, .inr (4, [b0, .int 0, .int 0, b3, b4, b5, b6, b7, b8, b9, b10, b11, b12, b13])), (h6, .inr (8, [c0, .int 0, c2])), (h7, .inr (9, [e0, e1, .ref h8, e3, e4, e5, e6, e7, e8, e9, e10, e11, e12, e13, e14, e15, e16, e17, e18, e19])), (h8, .inr (3, [d0, d1, d2, .int 0, .int 0, d5, d6, d7, d8, .int 0]))]
theorem dX12_told_5_0 : decode cX12_told 0 = .ok (.iload_n 1, 1) := by decide +kernel
theorem dX12_told_5_1 : decode cX12_told 1 = .ok (.tableswitch 145 0 14 #[75, 145, 145, 145, 145, 83, 94, 145, 145, 105, 145, 145, 124, 132, 140], 75) := by decide +kernel
theorem dX12_told_5_84 : decode cX12_told 84 = .ok (.aload_n 0, 1) := by decide +kernel
theorem dX12_told_5_85 : decode cX12_told 85 = .ok (.getfield 49, 3) := by decide +kernel
theorem dX12_told_5_88 : decode cX12_told 88 = .ok (.getfield 66, 3) := by decide +kernel
theorem dX12_told_5_91 : decode cX12_told 91 = .ok (.getfield 163, 3) := by decide +kernel
theorem dX12_told_5_94 : decode cX12_told 94 = .ok (.ireturn, 1) := by decide +kernel
def ww_X12_told_5 : List Cond := [.fieldLink RX12 49 "StreamHouse" "run" "LStreamHouse$Run;", .fieldLink RX12 66 "StreamHouse$Run" "disk" "LStreamHouse$Disk;", .fieldLink RX12 163 "StreamHouse$Disk" "latest" "I"]
def wv_X12_told_5 : List Cond := .code yX12_told cX12_told 2 (some .int) :: (ww_X12_told_5 ++ (u_ws RX12 TX12 9 ++ (u_ws RX9 TX9 20 ++ (u_ws RX3 TX3 10 ++ []))))
theorem wm_X12_told_5 {w : Cond} (i : Nat) (h : ww_X12_told_5[i]? = some w) : w ∈ wv_X12_told_5 := List.mem_cons_of_mem _ (List.mem_append_left _ (List.mem_of_getElem? h))
set_option maxRecDepth 100000 in
theorem gw_X12_told_5 : wv_X12_told_5.all goodWord = true := by decide +kernel
theorem wh_X12_told_5_X12 : ∀ w ∈ u_ws RX12 TX12 9, w ∈ wv_X12_told_5 := fun w h => List.mem_cons_of_mem _ (List.mem_append_right _ (List.mem_append_left _ h))
theorem wh_X12_told_5_X9 : ∀ w ∈ u_ws RX9 TX9 20, w ∈ wv_X12_told_5 := fun w h => List.mem_cons_of_mem _ (List.mem_append_right _ (List.mem_append_right _ (List.mem_append_left _ h)))
theorem wh_X12_told_5_X3 : ∀ w ∈ u_ws RX3 TX3 10, w ∈ wv_X12_told_5 := fun w h => List.mem_cons_of_mem _ (List.mem_append_right _ (List.mem_append_right _ (List.mem_append_right _ (List.mem_append_left _ h))))
set_option maxHeartbeats 4000000 in
set_option maxRecDepth 100000 in
/-- told(5) of a fresh house: 0 -/
theorem r_X12_told_5 (l : Launch) (dC : Nat → ClassId) (dI : Nat → Nat → Nat) (h0 h4 h6 h7 h8 : Nat) (a0 a2 a3 a5 a8 b0 b3 b4 b5 b6 b7 b8 b9 b10 b11 b12 b13 c0 c2 e0 e1 e3 e4 e5 e6 e7 e8 e9 e10 e11 e12 e13 e14 e15 e16 e17 e18 e19 d0 d1 d2 d5 d6 d7 d8 : Value) (sz : Nat) : Met l yX12_told wv_X12_told_5 ({ frames := 0, cells := 0, slots := 0, locals := 0 }) (va_Pc [.ref h0, .int 5] (fun U => U.heap.size = sz ∧ va_P (dC, dI) vwCl [(h0, .inr (12, [a0, .int 0, a2, a3, .ref h4, a5, .ref h6, .ref h7, a8])), (h4, .inr (4, [b0, .int 0, .int 0, b3, b4, b5, b6, b7, b8, b9, b10, b11, b12, b13])), (h6, .inr (8, [c0, .int 0, c2])), (h7, .inr (9, [e0, e1, .ref h8, e3, e4, e5, e6, e7, e8, e9, e10, e11, e12, e13, e14, e15, e16, e17, e18, e19])), (h8, .inr (3, [d0, d1, d2, .int 0, .int 0, d5, d6, d7, d8, .int 0]))] U.heap ∧ va_K (dC, dI) vwCl [] U ∧ va_D (fun _ => True) [(h0, .inr (12, [a0, .int 0, a2, a3, .ref h4, a5, .ref h6, .ref h7, a8])), (h4, .inr (4, [b0, .int 0, .int 0, b3, b4, b5, b6, b7, b8, b9, b10, b11, b12, b13])), (h6, .inr (8, [c0, .int 0, c2])), (h7, .inr (9, [e0, e1, .ref h8, e3, e4, e5, e6, e7, e8, e9, e10, e11, e12, e13, e14, e15, e16, e17, e18, e19])), (h8, .inr (3, [d0, d1, d2, .int 0, .int 0, d5, d6, d7, d8, .int 0]))])) (va_Qi (fun r (_ : Unit) => r = 0) (ar_X12_told_5 dC dI (va_A [(h0, .inr (12, [a0, .int 0, a2, a3, .ref h4, a5, .ref h6, .ref h7, a8])), (h4, .inr (4, [b0, .int 0, .int 0, b3, b4, b5, b6, b7, b8, b9, b10, b11, b12, b13])), (h6, .inr (8, [c0, .int 0, c2])), (h7, .inr (9, [e0, e1, .ref h8, e3, e4, e5, e6, e7, e8, e9, e10, e11, e12, e13, e14, e15, e16, e17, e18, e19])), (h8, .inr (3, [d0, d1, d2, .int 0, .int 0, d5, d6, d7, d8, .int 0]))] sz) h0 h4 h6 h7 h8 a0 a2 a3 a5 a8 b0 b3 b4 b5 b6 b7 b8 b9 b10 b11 b12 b13 c0 c2 e0 e1 e3 e4 e5 e6 e7 e8 e9 e10 e11 e12 e13 e14 e15 e16 e17 e18 e19 d0 d1 d2 d5 d6 d7 d8) (va_A [(h0, .inr (12, [a0, .int 0, a2, a3, .ref h4, a5, .ref h6, .ref h7, a8])), (h4, .inr (4, [b0, .int 0, .int 0, b3, b4, b5, b6, b7, b8, b9, b10, b11, b12, b13])), (h6, .inr (8, [c0, .int 0, c2])), (h7, .inr (9, [e0, e1, .ref h8, e3, e4, e5, e6, e7, e8, e9, e10, e11, e12, e13, e14, e15, e16, e17, e18, e19])), (h8, .inr (3, [d0, d1, d2, .int 0, .int 0, d5, d6, d7, d8, .int 0]))] sz)) 0 0 (va_A [(h0, .inr (12, [a0, .int 0, a2, a3, .ref h4, a5, .ref h6, .ref h7, a8])), (h4, .inr (4, [b0, .int 0, .int 0, b3, b4, b5, b6, b7, b8, b9, b10, b11, b12, b13])), (h6, .inr (8, [c0, .int 0, c2])), (h7, .inr (9, [e0, e1, .ref h8, e3, e4, e5, e6, e7, e8, e9, e10, e11, e12, e13, e14, e15, e16, e17, e18, e19])), (h8, .inr (3, [d0, d1, d2, .int 0, .int 0, d5, d6, d7, d8, .int 0]))] sz) := by
  refine Met.ofW (cc := cX12_told) (maxL := 2) (ret := (some .int)) (by decide) rfl ?_
  intro p e s m args below meth c s₁ B hml hv
  obtain ⟨rfl, hsz, hP, hK, hD0⟩ := hv
  have hx := B.exec
  have hb := B.bytes
  have hr := B.returns
  have hts := atoms_spec (ws := wv_X12_told_5) B.pre
  have hown : s.vm.findClass RX12 = some m.cls := findClass_of_methodNamed B.named
  have hlocks := B.notSynchronized
  subst hsz
  have hD := hD0.self (sz := s.heap.size)
  generalize hAe : va_A [(h0, .inr (12, [a0, .int 0, a2, a3, .ref h4, a5, .ref h6, .ref h7, a8])), (h4, .inr (4, [b0, .int 0, .int 0, b3, b4, b5, b6, b7, b8, b9, b10, b11, b12, b13])), (h6, .inr (8, [c0, .int 0, c2])), (h7, .inr (9, [e0, e1, .ref h8, e3, e4, e5, e6, e7, e8, e9, e10, e11, e12, e13, e14, e15, e16, e17, e18, e19])), (h8, .inr (3, [d0, d1, d2, .int 0, .int 0, d5, d6, d7, d8, .int 0]))] s.heap.size = A at hD ⊢
  have hA : ∀ q : Nat, s.heap.size ≤ q → A q := fun q h => by rw [← hAe]; exact Or.inr h
  have hS : va_S A s.heap s.heap [] := va_S.rf
  have hP : va_P (dC, dI) vwCl [(h0, .inr (12, [a0, .int 0, a2, a3, .ref h4, a5, .ref h6, .ref h7, a8])), (h4, .inr (4, [b0, .int 0, .int 0, b3, b4, b5, b6, b7, b8, b9, b10, b11, b12, b13])), (h6, .inr (8, [c0, .int 0, c2])), (h7, .inr (9, [e0, e1, .ref h8, e3, e4, e5, e6, e7, e8, e9, e10, e11, e12, e13, e14, e15, e16, e17, e18, e19])), (h8, .inr (3, [d0, d1, d2, .int 0, .int 0, d5, d6, d7, d8, .int 0]))] s.heap := hP
  have hl := lv_entry ([.ref h0, .int 5]) (n := 2) (Nat.le_of_ble_eq_true rfl)
  rw [lg_entry_eq]
  generalize (lg_sl ([.ref h0, .int 5]) ++ List.replicate (2 - (lg_sl ([.ref h0, .int 5])).length) Slot.unset).toArray = ls at hl ⊢
  have hl : lv_has ls 2 [(0, .ref h0), (1, .int 5)] := hl
  refine lv_iload_n hx hb dX12_told_5_0 rfl (lv_at hl 1 rfl) ?_
  refine lv_tableIn (off := 83) (tgt := 84) hx hb dX12_told_5_1 (by decide) (by decide) (by decide) (by decide) ?_
  refine lv_aload_n hx hb dX12_told_5_84 rfl (lv_at hl 0 rfl) ?_
  refine va_get (D := (dC, dI)) (ci := 12) (v := .ref h7) (C := RX12) (T := TX12) (N := 9) hx hb hts wh_X12_told_5_X12 hown hK hP 0 rfl rfl 7 (by decide) (hts (.fieldLink RX12 49 "StreamHouse" "run" "LStreamHouse$Run;") (wm_X12_told_5 0 rfl)) (fun _ h9 => h9) rfl dX12_told_5_85 ?_
  refine va_get (D := (dC, dI)) (ci := 9) (v := .ref h8) (C := RX9) (T := TX9) (N := 20) hx hb hts wh_X12_told_5_X9 hown hK hP 3 rfl rfl 2 (by decide) (hts (.fieldLink RX12 66 "StreamHouse$Run" "disk" "LStreamHouse$Disk;") (wm_X12_told_5 1 rfl)) (fun _ h9 => h9) rfl dX12_told_5_88 ?_
  refine va_get (D := (dC, dI)) (ci := 3) (v := .int 0) (C := RX3) (T := TX3) (N := 10) hx hb hts wh_X12_told_5_X3 hown hK hP 4 rfl rfl 4 (by decide) (hts (.fieldLink RX12 163 "StreamHouse$Disk" "latest" "I") (wm_X12_told_5 2 rfl)) (fun _ h9 => h9) rfl dX12_told_5_91 ?_
  have hP9 := hP.sub (ws' := [(h0, .inr (12, [a0, .int 0, a2, a3, .ref h4, a5, .ref h6, .ref h7, a8])), (h4, .inr (4, [b0, .int 0, .int 0, b3, b4, b5, b6, b7, b8, b9, b10, b11, b12, b13])), (h6, .inr (8, [c0, .int 0, c2])), (h7, .inr (9, [e0, e1, .ref h8, e3, e4, e5, e6, e7, e8, e9, e10, e11, e12, e13, e14, e15, e16, e17, e18, e19])), (h8, .inr (3, [d0, d1, d2, .int 0, .int 0, d5, d6, d7, d8, .int 0]))]) [0, 1, 2, 3, 4] rfl
  have hD9 := hD.sub (ws' := [(h0, .inr (12, [a0, .int 0, a2, a3, .ref h4, a5, .ref h6, .ref h7, a8])), (h4, .inr (4, [b0, .int 0, .int 0, b3, b4, b5, b6, b7, b8, b9, b10, b11, b12, b13])), (h6, .inr (8, [c0, .int 0, c2])), (h7, .inr (9, [e0, e1, .ref h8, e3, e4, e5, e6, e7, e8, e9, e10, e11, e12, e13, e14, e15, e16, e17, e18, e19])), (h8, .inr (3, [d0, d1, d2, .int 0, .int 0, d5, d6, d7, d8, .int 0]))]) [0, 1, 2, 3, 4] (by decide) rfl
  have hK9 := hK.sub (tys' := []) [] rfl
  refine W.widen (k := 0) (n := 0) (by decide) (by decide) ?_
  exact W.iret (v := 0) hx hb hr (fun t ht hW => ⟨⟨0, (), rfl, rfl, by rw [ht]; exact hP9, va_K.moved hW.alike hK9, hD9⟩, hS.F ht⟩) hS.2.2 dX12_told_5_94

abbrev ar_X12_told_6 (dC : Nat → ClassId) (dI : Nat → Nat → Nat) (A : Nat → Prop) (h0 h4 h6 h7 h8 : Nat) (a0 a2 a3 a5 a8 b0 b3 b4 b5 b6 b7 b8 b9 b10 b11 b12 b13 c0 c2 e0 e1 e3 e4 e5 e6 e7 e8 e9 e10 e11 e12 e13 e14 e15 e16 e17 e18 e19 d0 d1 d2 d5 d6 d7 d8 : Value) (_ : Unit) (t : State) : Prop := va_P (dC, dI) vwCl [(h0, .inr (12, [a0, .int 0, a2, a3, .ref h4, a5, .ref h6, .ref h7, a8])), (h4, .inr (4, [b0, .int 0, .int 0, b3, b4, b5, b6, b7, b8, b9, b10, b11, b12, b13])), (h6, .inr (8, [c0, .int 0, c2])), (h7, .inr (9, [e0, e1, .ref h8, e3, e4, e5, e6, e7, e8, e9, e10, e11, e12, e13, e14, e15, e16, e17, e18, e19])), (h8, .inr (3, [d0, d1, d2, .int 0, .int 0, d5, d6, d7, d8, .int 0]))] t.heap ∧ va_K (dC, dI) vwCl [] t ∧ va_D A [(h0, .inr (12, [a0, .int 0, a2, a3, .ref h4, a5, .ref h6, .ref h7, a8])), (h4, .inr (4, [b0, .int 0, .int 0, b3, b4, b5, b6, b7, b8, b9, b10, b11, b12, b13])), (h6, .inr (8, [c0, .int 0, c2])), (h7, .inr (9, [e0, e1, .ref h8, e3, e4, e5, e6, e7, e8, e9, e10, e11, e12, e13, e14, e15, e16, e17, e18, e19])), (h8, .inr (3, [d0, d1, d2, .int 0, .int 0, d5, d6, d7, d8, .int 0]))]
theorem dX12_told_6_0 : decode cX12_told 0 = .ok (.iload_n 1, 1) := by decide +kernel
theorem dX12_told_6_1 : decode cX12_told 1 = .ok (.tableswitch 145 0 14 #[75, 145, 145, 145, 145, 83, 94, 145, 145, 105, 145, 145, 124, 132, 140], 75) := by decide +kernel
theorem dX12_told_6_95 : decode cX12_told 95 = .ok (.aload_n 0, 1) := by decide +kernel
theorem dX12_told_6_96 : decode cX12_told 96 = .ok (.getfield 49, 3) := by decide +kernel
theorem dX12_told_6_99 : decode cX12_told 99 = .ok (.getfield 66, 3) := by decide +kernel
theorem dX12_told_6_102 : decode cX12_told 102 = .ok (.getfield 150, 3) := by decide +kernel
theorem dX12_told_6_105 : decode cX12_told 105 = .ok (.ireturn, 1) := by decide +kernel
def ww_X12_told_6 : List Cond := [.fieldLink RX12 49 "StreamHouse" "run" "LStreamHouse$Run;", .fieldLink RX12 66 "StreamHouse$Run" "disk" "LStreamHouse$Disk;", .fieldLink RX12 150 "StreamHouse$Disk" "open" "I"]
def wv_X12_told_6 : List Cond := .code yX12_told cX12_told 2 (some .int) :: (ww_X12_told_6 ++ (u_ws RX12 TX12 9 ++ (u_ws RX9 TX9 20 ++ (u_ws RX3 TX3 10 ++ []))))
theorem wm_X12_told_6 {w : Cond} (i : Nat) (h : ww_X12_told_6[i]? = some w) : w ∈ wv_X12_told_6 := List.mem_cons_of_mem _ (List.mem_append_left _ (List.mem_of_getElem? h))
set_option maxRecDepth 100000 in
theorem gw_X12_told_6 : wv_X12_told_6.all goodWord = true := by decide +kernel
theorem wh_X12_told_6_X12 : ∀ w ∈ u_ws RX12 TX12 9, w ∈ wv_X12_told_6 := fun w h => List.mem_cons_of_mem _ (List.mem_append_right _ (List.mem_append_left _ h))
theorem wh_X12_told_6_X9 : ∀ w ∈ u_ws RX9 TX9 20, w ∈ wv_X12_told_6 := fun w h => List.mem_cons_of_mem _ (List.mem_append_right _ (List.mem_append_right _ (List.mem_append_left _ h)))
theorem wh_X12_told_6_X3 : ∀ w ∈ u_ws RX3 TX3 10, w ∈ wv_X12_told_6 := fun w h => List.mem_cons_of_mem _ (List.mem_append_right _ (List.mem_append_right _ (List.mem_append_right _ (List.mem_append_left _ h))))
set_option maxHeartbeats 4000000 in
set_option maxRecDepth 100000 in
/-- told(6) of a fresh house: 0 -/
theorem r_X12_told_6 (l : Launch) (dC : Nat → ClassId) (dI : Nat → Nat → Nat) (h0 h4 h6 h7 h8 : Nat) (a0 a2 a3 a5 a8 b0 b3 b4 b5 b6 b7 b8 b9 b10 b11 b12 b13 c0 c2 e0 e1 e3 e4 e5 e6 e7 e8 e9 e10 e11 e12 e13 e14 e15 e16 e17 e18 e19 d0 d1 d2 d5 d6 d7 d8 : Value) (sz : Nat) : Met l yX12_told wv_X12_told_6 ({ frames := 0, cells := 0, slots := 0, locals := 0 }) (va_Pc [.ref h0, .int 6] (fun U => U.heap.size = sz ∧ va_P (dC, dI) vwCl [(h0, .inr (12, [a0, .int 0, a2, a3, .ref h4, a5, .ref h6, .ref h7, a8])), (h4, .inr (4, [b0, .int 0, .int 0, b3, b4, b5, b6, b7, b8, b9, b10, b11, b12, b13])), (h6, .inr (8, [c0, .int 0, c2])), (h7, .inr (9, [e0, e1, .ref h8, e3, e4, e5, e6, e7, e8, e9, e10, e11, e12, e13, e14, e15, e16, e17, e18, e19])), (h8, .inr (3, [d0, d1, d2, .int 0, .int 0, d5, d6, d7, d8, .int 0]))] U.heap ∧ va_K (dC, dI) vwCl [] U ∧ va_D (fun _ => True) [(h0, .inr (12, [a0, .int 0, a2, a3, .ref h4, a5, .ref h6, .ref h7, a8])), (h4, .inr (4, [b0, .int 0, .int 0, b3, b4, b5, b6, b7, b8, b9, b10, b11, b12, b13])), (h6, .inr (8, [c0, .int 0, c2])), (h7, .inr (9, [e0, e1, .ref h8, e3, e4, e5, e6, e7, e8, e9, e10, e11, e12, e13, e14, e15, e16, e17, e18, e19])), (h8, .inr (3, [d0, d1, d2, .int 0, .int 0, d5, d6, d7, d8, .int 0]))])) (va_Qi (fun r (_ : Unit) => r = 0) (ar_X12_told_6 dC dI (va_A [(h0, .inr (12, [a0, .int 0, a2, a3, .ref h4, a5, .ref h6, .ref h7, a8])), (h4, .inr (4, [b0, .int 0, .int 0, b3, b4, b5, b6, b7, b8, b9, b10, b11, b12, b13])), (h6, .inr (8, [c0, .int 0, c2])), (h7, .inr (9, [e0, e1, .ref h8, e3, e4, e5, e6, e7, e8, e9, e10, e11, e12, e13, e14, e15, e16, e17, e18, e19])), (h8, .inr (3, [d0, d1, d2, .int 0, .int 0, d5, d6, d7, d8, .int 0]))] sz) h0 h4 h6 h7 h8 a0 a2 a3 a5 a8 b0 b3 b4 b5 b6 b7 b8 b9 b10 b11 b12 b13 c0 c2 e0 e1 e3 e4 e5 e6 e7 e8 e9 e10 e11 e12 e13 e14 e15 e16 e17 e18 e19 d0 d1 d2 d5 d6 d7 d8) (va_A [(h0, .inr (12, [a0, .int 0, a2, a3, .ref h4, a5, .ref h6, .ref h7, a8])), (h4, .inr (4, [b0, .int 0, .int 0, b3, b4, b5, b6, b7, b8, b9, b10, b11, b12, b13])), (h6, .inr (8, [c0, .int 0, c2])), (h7, .inr (9, [e0, e1, .ref h8, e3, e4, e5, e6, e7, e8, e9, e10, e11, e12, e13, e14, e15, e16, e17, e18, e19])), (h8, .inr (3, [d0, d1, d2, .int 0, .int 0, d5, d6, d7, d8, .int 0]))] sz)) 0 0 (va_A [(h0, .inr (12, [a0, .int 0, a2, a3, .ref h4, a5, .ref h6, .ref h7, a8])), (h4, .inr (4, [b0, .int 0, .int 0, b3, b4, b5, b6, b7, b8, b9, b10, b11, b12, b13])), (h6, .inr (8, [c0, .int 0, c2])), (h7, .inr (9, [e0, e1, .ref h8, e3, e4, e5, e6, e7, e8, e9, e10, e11, e12, e13, e14, e15, e16, e17, e18, e19])), (h8, .inr (3, [d0, d1, d2, .int 0, .int 0, d5, d6, d7, d8, .int 0]))] sz) := by
  refine Met.ofW (cc := cX12_told) (maxL := 2) (ret := (some .int)) (by decide) rfl ?_
  intro p e s m args below meth c s₁ B hml hv
  obtain ⟨rfl, hsz, hP, hK, hD0⟩ := hv
  have hx := B.exec
  have hb := B.bytes
  have hr := B.returns
  have hts := atoms_spec (ws := wv_X12_told_6) B.pre
  have hown : s.vm.findClass RX12 = some m.cls := findClass_of_methodNamed B.named
  have hlocks := B.notSynchronized
  subst hsz
  have hD := hD0.self (sz := s.heap.size)
  generalize hAe : va_A [(h0, .inr (12, [a0, .int 0, a2, a3, .ref h4, a5, .ref h6, .ref h7, a8])), (h4, .inr (4, [b0, .int 0, .int 0, b3, b4, b5, b6, b7, b8, b9, b10, b11, b12, b13])), (h6, .inr (8, [c0, .int 0, c2])), (h7, .inr (9, [e0, e1, .ref h8, e3, e4, e5, e6, e7, e8, e9, e10, e11, e12, e13, e14, e15, e16, e17, e18, e19])), (h8, .inr (3, [d0, d1, d2, .int 0, .int 0, d5, d6, d7, d8, .int 0]))] s.heap.size = A at hD ⊢
  have hA : ∀ q : Nat, s.heap.size ≤ q → A q := fun q h => by rw [← hAe]; exact Or.inr h
  have hS : va_S A s.heap s.heap [] := va_S.rf
  have hP : va_P (dC, dI) vwCl [(h0, .inr (12, [a0, .int 0, a2, a3, .ref h4, a5, .ref h6, .ref h7, a8])), (h4, .inr (4, [b0, .int 0, .int 0, b3, b4, b5, b6, b7, b8, b9, b10, b11, b12, b13])), (h6, .inr (8, [c0, .int 0, c2])), (h7, .inr (9, [e0, e1, .ref h8, e3, e4, e5, e6, e7, e8, e9, e10, e11, e12, e13, e14, e15, e16, e17, e18, e19])), (h8, .inr (3, [d0, d1, d2, .int 0, .int 0, d5, d6, d7, d8, .int 0]))] s.heap := hP
  have hl := lv_entry ([.ref h0, .int 6]) (n := 2) (Nat.le_of_ble_eq_true rfl)
  rw [lg_entry_eq]
  generalize (lg_sl ([.ref h0, .int 6]) ++ List.replicate (2 - (lg_sl ([.ref h0, .int 6])).length) Slot.unset).toArray = ls at hl ⊢
  have hl : lv_has ls 2 [(0, .ref h0), (1, .int 6)] := hl
  refine lv_iload_n hx hb dX12_told_6_0 rfl (lv_at hl 1 rfl) ?_
  refine lv_tableIn (off := 94) (tgt := 95) hx hb dX12_told_6_1 (by decide) (by decide) (by decide) (by decide) ?_
  refine lv_aload_n hx hb dX12_told_6_95 rfl (lv_at hl 0 rfl) ?_
  refine va_get (D := (dC, dI)) (ci := 12) (v := .ref h7) (C := RX12) (T := TX12) (N := 9) hx hb hts wh_X12_told_6_X12 hown hK hP 0 rfl rfl 7 (by decide) (hts (.fieldLink RX12 49 "StreamHouse" "run" "LStreamHouse$Run;") (wm_X12_told_6 0 rfl)) (fun _ h9 => h9) rfl dX12_told_6_96 ?_
  refine va_get (D := (dC, dI)) (ci := 9) (v := .ref h8) (C := RX9) (T := TX9) (N := 20) hx hb hts wh_X12_told_6_X9 hown hK hP 3 rfl rfl 2 (by decide) (hts (.fieldLink RX12 66 "StreamHouse$Run" "disk" "LStreamHouse$Disk;") (wm_X12_told_6 1 rfl)) (fun _ h9 => h9) rfl dX12_told_6_99 ?_
  refine va_get (D := (dC, dI)) (ci := 3) (v := .int 0) (C := RX3) (T := TX3) (N := 10) hx hb hts wh_X12_told_6_X3 hown hK hP 4 rfl rfl 3 (by decide) (hts (.fieldLink RX12 150 "StreamHouse$Disk" "open" "I") (wm_X12_told_6 2 rfl)) (fun _ h9 => h9) rfl dX12_told_6_102 ?_
  have hP9 := hP.sub (ws' := [(h0, .inr (12, [a0, .int 0, a2, a3, .ref h4, a5, .ref h6, .ref h7, a8])), (h4, .inr (4, [b0, .int 0, .int 0, b3, b4, b5, b6, b7, b8, b9, b10, b11, b12, b13])), (h6, .inr (8, [c0, .int 0, c2])), (h7, .inr (9, [e0, e1, .ref h8, e3, e4, e5, e6, e7, e8, e9, e10, e11, e12, e13, e14, e15, e16, e17, e18, e19])), (h8, .inr (3, [d0, d1, d2, .int 0, .int 0, d5, d6, d7, d8, .int 0]))]) [0, 1, 2, 3, 4] rfl
  have hD9 := hD.sub (ws' := [(h0, .inr (12, [a0, .int 0, a2, a3, .ref h4, a5, .ref h6, .ref h7, a8])), (h4, .inr (4, [b0, .int 0, .int 0, b3, b4, b5, b6, b7, b8, b9, b10, b11, b12, b13])), (h6, .inr (8, [c0, .int 0, c2])), (h7, .inr (9, [e0, e1, .ref h8, e3, e4, e5, e6, e7, e8, e9, e10, e11, e12, e13, e14, e15, e16, e17, e18, e19])), (h8, .inr (3, [d0, d1, d2, .int 0, .int 0, d5, d6, d7, d8, .int 0]))]) [0, 1, 2, 3, 4] (by decide) rfl
  have hK9 := hK.sub (tys' := []) [] rfl
  refine W.widen (k := 0) (n := 0) (by decide) (by decide) ?_
  exact W.iret (v := 0) hx hb hr (fun t ht hW => ⟨⟨0, (), rfl, rfl, by rw [ht]; exact hP9, va_K.moved hW.alike hK9, hD9⟩, hS.F ht⟩) hS.2.2 dX12_told_6_105

abbrev ar_X12_told_9 (dC : Nat → ClassId) (dI : Nat → Nat → Nat) (A : Nat → Prop) (h0 h4 h6 h7 h8 : Nat) (a0 a2 a3 a5 a8 b0 b3 b4 b5 b6 b7 b8 b9 b10 b11 b12 b13 c0 c2 e0 e1 e3 e4 e5 e6 e7 e8 e9 e10 e11 e12 e13 e14 e15 e16 e17 e18 e19 d0 d1 d2 d5 d6 d7 d8 : Value) (_ : Unit) (t : State) : Prop := va_P (dC, dI) vwCl [(h0, .inr (12, [a0, .int 0, a2, a3, .ref h4, a5, .ref h6, .ref h7, a8])), (h4, .inr (4, [b0, .int 0, .int 0, b3, b4, b5, b6, b7, b8, b9, b10, b11, b12, b13])), (h6, .inr (8, [c0, .int 0, c2])), (h7, .inr (9, [e0, e1, .ref h8, e3, e4, e5, e6, e7, e8, e9, e10, e11, e12, e13, e14, e15, e16, e17, e18, e19])), (h8, .inr (3, [d0, d1, d2, .int 0, .int 0, d5, d6, d7, d8, .int 0]))] t.heap ∧ va_K (dC, dI) vwCl [] t ∧ va_D A [(h0, .inr (12, [a0, .int 0, a2, a3, .ref h4, a5, .ref h6, .ref h7, a8])), (h4, .inr (4, [b0, .int 0, .int 0, b3, b4, b5, b6, b7, b8, b9, b10, b11, b12, b13])), (h6, .inr (8, [c0, .int 0, c2])), (h7, .inr (9, [e0, e1, .ref h8, e3, e4, e5, e6, e7, e8, e9, e10, e11, e12, e13, e14, e15, e16, e17, e18, e19])), (h8, .inr (3, [d0, d1, d2, .int 0, .int 0, d5, d6, d7, d8, .int 0]))]
theorem dX12_told_9_0 : decode cX12_told 0 = .ok (.iload_n 1, 1) := by decide +kernel
theorem dX12_told_9_1 : decode cX12_told 1 = .ok (.tableswitch 145 0 14 #[75, 145, 145, 145, 145, 83, 94, 145, 145, 105, 145, 145, 124, 132, 140], 75) := by decide +kernel
theorem dX12_told_9_106 : decode cX12_told 106 = .ok (.aload_n 0, 1) := by decide +kernel
theorem dX12_told_9_107 : decode cX12_told 107 = .ok (.getfield 49, 3) := by decide +kernel
theorem dX12_told_9_110 : decode cX12_told 110 = .ok (.getfield 66, 3) := by decide +kernel
theorem dX12_told_9_113 : decode cX12_told 113 = .ok (.getfield 70, 3) := by decide +kernel
theorem dX12_told_9_116 : decode cX12_told 116 = .ok (.ifCond .eq 7, 3) := by decide +kernel
theorem dX12_told_9_123 : decode cX12_told 123 = .ok (.iconst 0, 1) := by decide +kernel
theorem dX12_told_9_124 : decode cX12_told 124 = .ok (.ireturn, 1) := by decide +kernel
def ww_X12_told_9 : List Cond := [.fieldLink RX12 49 "StreamHouse" "run" "LStreamHouse$Run;", .fieldLink RX12 66 "StreamHouse$Run" "disk" "LStreamHouse$Disk;", .fieldLink RX12 70 "StreamHouse$Disk" "down" "Z"]
def wv_X12_told_9 : List Cond := .code yX12_told cX12_told 2 (some .int) :: (ww_X12_told_9 ++ (u_ws RX12 TX12 9 ++ (u_ws RX9 TX9 20 ++ (u_ws RX3 TX3 10 ++ []))))
theorem wm_X12_told_9 {w : Cond} (i : Nat) (h : ww_X12_told_9[i]? = some w) : w ∈ wv_X12_told_9 := List.mem_cons_of_mem _ (List.mem_append_left _ (List.mem_of_getElem? h))
set_option maxRecDepth 100000 in
theorem gw_X12_told_9 : wv_X12_told_9.all goodWord = true := by decide +kernel
theorem wh_X12_told_9_X12 : ∀ w ∈ u_ws RX12 TX12 9, w ∈ wv_X12_told_9 := fun w h => List.mem_cons_of_mem _ (List.mem_append_right _ (List.mem_append_left _ h))
theorem wh_X12_told_9_X9 : ∀ w ∈ u_ws RX9 TX9 20, w ∈ wv_X12_told_9 := fun w h => List.mem_cons_of_mem _ (List.mem_append_right _ (List.mem_append_right _ (List.mem_append_left _ h)))
theorem wh_X12_told_9_X3 : ∀ w ∈ u_ws RX3 TX3 10, w ∈ wv_X12_told_9 := fun w h => List.mem_cons_of_mem _ (List.mem_append_right _ (List.mem_append_right _ (List.mem_append_right _ (List.mem_append_left _ h))))
set_option maxHeartbeats 4000000 in
set_option maxRecDepth 100000 in
/-- told(9) of a fresh house: 0 -/
theorem r_X12_told_9 (l : Launch) (dC : Nat → ClassId) (dI : Nat → Nat → Nat) (h0 h4 h6 h7 h8 : Nat) (a0 a2 a3 a5 a8 b0 b3 b4 b5 b6 b7 b8 b9 b10 b11 b12 b13 c0 c2 e0 e1 e3 e4 e5 e6 e7 e8 e9 e10 e11 e12 e13 e14 e15 e16 e17 e18 e19 d0 d1 d2 d5 d6 d7 d8 : Value) (sz : Nat) : Met l yX12_told wv_X12_told_9 ({ frames := 0, cells := 0, slots := 0, locals := 0 }) (va_Pc [.ref h0, .int 9] (fun U => U.heap.size = sz ∧ va_P (dC, dI) vwCl [(h0, .inr (12, [a0, .int 0, a2, a3, .ref h4, a5, .ref h6, .ref h7, a8])), (h4, .inr (4, [b0, .int 0, .int 0, b3, b4, b5, b6, b7, b8, b9, b10, b11, b12, b13])), (h6, .inr (8, [c0, .int 0, c2])), (h7, .inr (9, [e0, e1, .ref h8, e3, e4, e5, e6, e7, e8, e9, e10, e11, e12, e13, e14, e15, e16, e17, e18, e19])), (h8, .inr (3, [d0, d1, d2, .int 0, .int 0, d5, d6, d7, d8, .int 0]))] U.heap ∧ va_K (dC, dI) vwCl [] U ∧ va_D (fun _ => True) [(h0, .inr (12, [a0, .int 0, a2, a3, .ref h4, a5, .ref h6, .ref h7, a8])), (h4, .inr (4, [b0, .int 0, .int 0, b3, b4, b5, b6, b7, b8, b9, b10, b11, b12, b13])), (h6, .inr (8, [c0, .int 0, c2])), (h7, .inr (9, [e0, e1, .ref h8, e3, e4, e5, e6, e7, e8, e9, e10, e11, e12, e13, e14, e15, e16, e17, e18, e19])), (h8, .inr (3, [d0, d1, d2, .int 0, .int 0, d5, d6, d7, d8, .int 0]))])) (va_Qi (fun r (_ : Unit) => r = 0) (ar_X12_told_9 dC dI (va_A [(h0, .inr (12, [a0, .int 0, a2, a3, .ref h4, a5, .ref h6, .ref h7, a8])), (h4, .inr (4, [b0, .int 0, .int 0, b3, b4, b5, b6, b7, b8, b9, b10, b11, b12, b13])), (h6, .inr (8, [c0, .int 0, c2])), (h7, .inr (9, [e0, e1, .ref h8, e3, e4, e5, e6, e7, e8, e9, e10, e11, e12, e13, e14, e15, e16, e17, e18, e19])), (h8, .inr (3, [d0, d1, d2, .int 0, .int 0, d5, d6, d7, d8, .int 0]))] sz) h0 h4 h6 h7 h8 a0 a2 a3 a5 a8 b0 b3 b4 b5 b6 b7 b8 b9 b10 b11 b12 b13 c0 c2 e0 e1 e3 e4 e5 e6 e7 e8 e9 e10 e11 e12 e13 e14 e15 e16 e17 e18 e19 d0 d1 d2 d5 d6 d7 d8) (va_A [(h0, .inr (12, [a0, .int 0, a2, a3, .ref h4, a5, .ref h6, .ref h7, a8])), (h4, .inr (4, [b0, .int 0, .int 0, b3, b4, b5, b6, b7, b8, b9, b10, b11, b12, b13])), (h6, .inr (8, [c0, .int 0, c2])), (h7, .inr (9, [e0, e1, .ref h8, e3, e4, e5, e6, e7, e8, e9, e10, e11, e12, e13, e14, e15, e16, e17, e18, e19])), (h8, .inr (3, [d0, d1, d2, .int 0, .int 0, d5, d6, d7, d8, .int 0]))] sz)) 0 0 (va_A [(h0, .inr (12, [a0, .int 0, a2, a3, .ref h4, a5, .ref h6, .ref h7, a8])), (h4, .inr (4, [b0, .int 0, .int 0, b3, b4, b5, b6, b7, b8, b9, b10, b11, b12, b13])), (h6, .inr (8, [c0, .int 0, c2])), (h7, .inr (9, [e0, e1, .ref h8, e3, e4, e5, e6, e7, e8, e9, e10, e11, e12, e13, e14, e15, e16, e17, e18, e19])), (h8, .inr (3, [d0, d1, d2, .int 0, .int 0, d5, d6, d7, d8, .int 0]))] sz) := by
  refine Met.ofW (cc := cX12_told) (maxL := 2) (ret := (some .int)) (by decide) rfl ?_
  intro p e s m args below meth c s₁ B hml hv
  obtain ⟨rfl, hsz, hP, hK, hD0⟩ := hv
  have hx := B.exec
  have hb := B.bytes
  have hr := B.returns
  have hts := atoms_spec (ws := wv_X12_told_9) B.pre
  have hown : s.vm.findClass RX12 = some m.cls := findClass_of_methodNamed B.named
  have hlocks := B.notSynchronized
  subst hsz
  have hD := hD0.self (sz := s.heap.size)
  generalize hAe : va_A [(h0, .inr (12, [a0, .int 0, a2, a3, .ref h4, a5, .ref h6, .ref h7, a8])), (h4, .inr (4, [b0, .int 0, .int 0, b3, b4, b5, b6, b7, b8, b9, b10, b11, b12, b13])), (h6, .inr (8, [c0, .int 0, c2])), (h7, .inr (9, [e0, e1, .ref h8, e3, e4, e5, e6, e7, e8, e9, e10, e11, e12, e13, e14, e15, e16, e17, e18, e19])), (h8, .inr (3, [d0, d1, d2, .int 0, .int 0, d5, d6, d7, d8, .int 0]))] s.heap.size = A at hD ⊢
  have hA : ∀ q : Nat, s.heap.size ≤ q → A q := fun q h => by rw [← hAe]; exact Or.inr h
  have hS : va_S A s.heap s.heap [] := va_S.rf
  have hP : va_P (dC, dI) vwCl [(h0, .inr (12, [a0, .int 0, a2, a3, .ref h4, a5, .ref h6, .ref h7, a8])), (h4, .inr (4, [b0, .int 0, .int 0, b3, b4, b5, b6, b7, b8, b9, b10, b11, b12, b13])), (h6, .inr (8, [c0, .int 0, c2])), (h7, .inr (9, [e0, e1, .ref h8, e3, e4, e5, e6, e7, e8, e9, e10, e11, e12, e13, e14, e15, e16, e17, e18, e19])), (h8, .inr (3, [d0, d1, d2, .int 0, .int 0, d5, d6, d7, d8, .int 0]))] s.heap := hP
  have hl := lv_entry ([.ref h0, .int 9]) (n := 2) (Nat.le_of_ble_eq_true rfl)
  rw [lg_entry_eq]
  generalize (lg_sl ([.ref h0, .int 9]) ++ List.replicate (2 - (lg_sl ([.ref h0, .int 9])).length) Slot.unset).toArray = ls at hl ⊢
  have hl : lv_has ls 2 [(0, .ref h0), (1, .int 9)] := hl
  refine lv_iload_n hx hb dX12_told_9_0 rfl (lv_at hl 1 rfl) ?_
  refine lv_tableIn (off := 105) (tgt := 106) hx hb dX12_told_9_1 (by decide) (by decide) (by decide) (by decide) ?_
  refine lv_aload_n hx hb dX12_told_9_106 rfl (lv_at hl 0 rfl) ?_
  refine va_get (D := (dC, dI)) (ci := 12) (v := .ref h7) (C := RX12) (T := TX12) (N := 9) hx hb hts wh_X12_told_9_X12 hown hK hP 0 rfl rfl 7 (by decide) (hts (.fieldLink RX12 49 "StreamHouse" "run" "LStreamHouse$Run;") (wm_X12_told_9 0 rfl)) (fun _ h9 => h9) rfl dX12_told_9_107 ?_
  refine va_get (D := (dC, dI)) (ci := 9) (v := .ref h8) (C := RX9) (T := TX9) (N := 20) hx hb hts wh_X12_told_9_X9 hown hK hP 3 rfl rfl 2 (by decide) (hts (.fieldLink RX12 66 "StreamHouse$Run" "disk" "LStreamHouse$Disk;") (wm_X12_told_9 1 rfl)) (fun _ h9 => h9) rfl dX12_told_9_110 ?_
  refine va_get (D := (dC, dI)) (ci := 3) (v := .int 0) (C := RX3) (T := TX3) (N := 10) hx hb hts wh_X12_told_9_X3 hown hK hP 4 rfl rfl 9 (by decide) (hts (.fieldLink RX12 70 "StreamHouse$Disk" "down" "Z") (wm_X12_told_9 2 rfl)) (fun _ h9 => h9) rfl dX12_told_9_113 ?_
  refine lv_if_eq (tgt := 123) hx hb dX12_told_9_116 (by decide) (fun _ => ?_) (fun h9 => absurd (by decide) h9)
  refine lv_iconst (v := 0) hx hb dX12_told_9_123 (by decide) ?_
  have hP9 := hP.sub (ws' := [(h0, .inr (12, [a0, .int 0, a2, a3, .ref h4, a5, .ref h6, .ref h7, a8])), (h4, .inr (4, [b0, .int 0, .int 0, b3, b4, b5, b6, b7, b8, b9, b10, b11, b12, b13])), (h6, .inr (8, [c0, .int 0, c2])), (h7, .inr (9, [e0, e1, .ref h8, e3, e4, e5, e6, e7, e8, e9, e10, e11, e12, e13, e14, e15, e16, e17, e18, e19])), (h8, .inr (3, [d0, d1, d2, .int 0, .int 0, d5, d6, d7, d8, .int 0]))]) [0, 1, 2, 3, 4] rfl
  have hD9 := hD.sub (ws' := [(h0, .inr (12, [a0, .int 0, a2, a3, .ref h4, a5, .ref h6, .ref h7, a8])), (h4, .inr (4, [b0, .int 0, .int 0, b3, b4, b5, b6, b7, b8, b9, b10, b11, b12, b13])), (h6, .inr (8, [c0, .int 0, c2])), (h7, .inr (9, [e0, e1, .ref h8, e3, e4, e5, e6, e7, e8, e9, e10, e11, e12, e13, e14, e15, e16, e17, e18, e19])), (h8, .inr (3, [d0, d1, d2, .int 0, .int 0, d5, d6, d7, d8, .int 0]))]) [0, 1, 2, 3, 4] (by decide) rfl
  have hK9 := hK.sub (tys' := []) [] rfl
  refine W.widen (k := 0) (n := 0) (by decide) (by decide) ?_
  exact W.iret (v := 0) hx hb hr (fun t ht hW => ⟨⟨0, (), rfl, rfl, by rw [ht]; exact hP9, va_K.moved hW.alike hK9, hD9⟩, hS.F ht⟩) hS.2.2 dX12_told_9_124

abbrev ar_X12_told_12 (dC : Nat → ClassId) (dI : Nat → Nat → Nat) (A : Nat → Prop) (h0 h4 h6 h7 h8 : Nat) (a0 a2 a3 a5 a8 b0 b3 b4 b5 b6 b7 b8 b9 b10 b11 b12 b13 c0 c2 e0 e1 e3 e4 e5 e6 e7 e8 e9 e10 e11 e12 e13 e14 e15 e16 e17 e18 e19 d0 d1 d2 d5 d6 d7 d8 : Value) (_ : Unit) (t : State) : Prop := va_P (dC, dI) vwCl [(h0, .inr (12, [a0, .int 0, a2, a3, .ref h4, a5, .ref h6, .ref h7, a8])), (h4, .inr (4, [b0, .int 0, .int 0, b3, b4, b5, b6, b7, b8, b9, b10, b11, b12, b13])), (h6, .inr (8, [c0, .int 0, c2])), (h7, .inr (9, [e0, e1, .ref h8, e3, e4, e5, e6, e7, e8, e9, e10, e11, e12, e13, e14, e15, e16, e17, e18, e19])), (h8, .inr (3, [d0, d1, d2, .int 0, .int 0, d5, d6, d7, d8, .int 0]))] t.heap ∧ va_K (dC, dI) vwCl [] t ∧ va_D A [(h0, .inr (12, [a0, .int 0, a2, a3, .ref h4, a5, .ref h6, .ref h7, a8])), (h4, .inr (4, [b0, .int 0, .int 0, b3, b4, b5, b6, b7, b8, b9, b10, b11, b12, b13])), (h6, .inr (8, [c0, .int 0, c2])), (h7, .inr (9, [e0, e1, .ref h8, e3, e4, e5, e6, e7, e8, e9, e10, e11, e12, e13, e14, e15, e16, e17, e18, e19])), (h8, .inr (3, [d0, d1, d2, .int 0, .int 0, d5, d6, d7, d8, .int 0]))]
theorem dX12_told_12_0 : decode cX12_told 0 = .ok (.iload_n 1, 1) := by decide +kernel
theorem dX12_told_12_1 : decode cX12_told 1 = .ok (.tableswitch 145 0 14 #[75, 145, 145, 145, 145, 83, 94, 145, 145, 105, 145, 145, 124, 132, 140], 75) := by decide +kernel
theorem dX12_told_12_125 : decode cX12_told 125 = .ok (.aload_n 0, 1) := by decide +kernel
theorem dX12_told_12_126 : decode cX12_told 126 = .ok (.getfield 40, 3) := by decide +kernel
theorem dX12_told_12_129 : decode cX12_told 129 = .ok (.getfield 251, 3) := by decide +kernel
theorem dX12_told_12_132 : decode cX12_told 132 = .ok (.ireturn, 1) := by decide +kernel
def ww_X12_told_12 : List Cond := [.fieldLink RX12 40 "StreamHouse" "pool" "LStreamHouse$Pool;", .fieldLink RX12 251 "StreamHouse$Pool" "sets" "I"]
def wv_X12_told_12 : List Cond := .code yX12_told cX12_told 2 (some .int) :: (ww_X12_told_12 ++ (u_ws RX12 TX12 9 ++ (u_ws RX8 TX8 3 ++ [])))
theorem wm_X12_told_12 {w : Cond} (i : Nat) (h : ww_X12_told_12[i]? = some w) : w ∈ wv_X12_told_12 := List.mem_cons_of_mem _ (List.mem_append_left _ (List.mem_of_getElem? h))
set_option maxRecDepth 100000 in
theorem gw_X12_told_12 : wv_X12_told_12.all goodWord = true := by decide +kernel
theorem wh_X12_told_12_X12 : ∀ w ∈ u_ws RX12 TX12 9, w ∈ wv_X12_told_12 := fun w h => List.mem_cons_of_mem _ (List.mem_append_right _ (List.mem_append_left _ h))
theorem wh_X12_told_12_X8 : ∀ w ∈ u_ws RX8 TX8 3, w ∈ wv_X12_told_12 := fun w h => List.mem_cons_of_mem _ (List.mem_append_right _ (List.mem_append_right _ (List.mem_append_left _ h)))
set_option maxHeartbeats 4000000 in
set_option maxRecDepth 100000 in
/-- told(12) of a fresh house: 0 -/
theorem r_X12_told_12 (l : Launch) (dC : Nat → ClassId) (dI : Nat → Nat → Nat) (h0 h4 h6 h7 h8 : Nat) (a0 a2 a3 a5 a8 b0 b3 b4 b5 b6 b7 b8 b9 b10 b11 b12 b13 c0 c2 e0 e1 e3 e4 e5 e6 e7 e8 e9 e10 e11 e12 e13 e14 e15 e16 e17 e18 e19 d0 d1 d2 d5 d6 d7 d8 : Value) (sz : Nat) : Met l yX12_told wv_X12_told_12 ({ frames := 0, cells := 0, slots := 0, locals := 0 }) (va_Pc [.ref h0, .int 12] (fun U => U.heap.size = sz ∧ va_P (dC, dI) vwCl [(h0, .inr (12, [a0, .int 0, a2, a3, .ref h4, a5, .ref h6, .ref h7, a8])), (h4, .inr (4, [b0, .int 0, .int 0, b3, b4, b5, b6, b7, b8, b9, b10, b11, b12, b13])), (h6, .inr (8, [c0, .int 0, c2])), (h7, .inr (9, [e0, e1, .ref h8, e3, e4, e5, e6, e7, e8, e9, e10, e11, e12, e13, e14, e15, e16, e17, e18, e19])), (h8, .inr (3, [d0, d1, d2, .int 0, .int 0, d5, d6, d7, d8, .int 0]))] U.heap ∧ va_K (dC, dI) vwCl [] U ∧ va_D (fun _ => True) [(h0, .inr (12, [a0, .int 0, a2, a3, .ref h4, a5, .ref h6, .ref h7, a8])), (h4, .inr (4, [b0, .int 0, .int 0, b3, b4, b5, b6, b7, b8, b9, b10, b11, b12, b13])), (h6, .inr (8, [c0, .int 0, c2])), (h7, .inr (9, [e0, e1, .ref h8, e3, e4, e5, e6, e7, e8, e9, e10, e11, e12, e13, e14, e15, e16, e17, e18, e19])), (h8, .inr (3, [d0, d1, d2, .int 0, .int 0, d5, d6, d7, d8, .int 0]))])) (va_Qi (fun r (_ : Unit) => r = 0) (ar_X12_told_12 dC dI (va_A [(h0, .inr (12, [a0, .int 0, a2, a3, .ref h4, a5, .ref h6, .ref h7, a8])), (h4, .inr (4, [b0, .int 0, .int 0, b3, b4, b5, b6, b7, b8, b9, b10, b11, b12, b13])), (h6, .inr (8, [c0, .int 0, c2])), (h7, .inr (9, [e0, e1, .ref h8, e3, e4, e5, e6, e7, e8, e9, e10, e11, e12, e13, e14, e15, e16, e17, e18, e19])), (h8, .inr (3, [d0, d1, d2, .int 0, .int 0, d5, d6, d7, d8, .int 0]))] sz) h0 h4 h6 h7 h8 a0 a2 a3 a5 a8 b0 b3 b4 b5 b6 b7 b8 b9 b10 b11 b12 b13 c0 c2 e0 e1 e3 e4 e5 e6 e7 e8 e9 e10 e11 e12 e13 e14 e15 e16 e17 e18 e19 d0 d1 d2 d5 d6 d7 d8) (va_A [(h0, .inr (12, [a0, .int 0, a2, a3, .ref h4, a5, .ref h6, .ref h7, a8])), (h4, .inr (4, [b0, .int 0, .int 0, b3, b4, b5, b6, b7, b8, b9, b10, b11, b12, b13])), (h6, .inr (8, [c0, .int 0, c2])), (h7, .inr (9, [e0, e1, .ref h8, e3, e4, e5, e6, e7, e8, e9, e10, e11, e12, e13, e14, e15, e16, e17, e18, e19])), (h8, .inr (3, [d0, d1, d2, .int 0, .int 0, d5, d6, d7, d8, .int 0]))] sz)) 0 0 (va_A [(h0, .inr (12, [a0, .int 0, a2, a3, .ref h4, a5, .ref h6, .ref h7, a8])), (h4, .inr (4, [b0, .int 0, .int 0, b3, b4, b5, b6, b7, b8, b9, b10, b11, b12, b13])), (h6, .inr (8, [c0, .int 0, c2])), (h7, .inr (9, [e0, e1, .ref h8, e3, e4, e5, e6, e7, e8, e9, e10, e11, e12, e13, e14, e15, e16, e17, e18, e19])), (h8, .inr (3, [d0, d1, d2, .int 0, .int 0, d5, d6, d7, d8, .int 0]))] sz) := by
  refine Met.ofW (cc := cX12_told) (maxL := 2) (ret := (some .int)) (by decide) rfl ?_
  intro p e s m args below meth c s₁ B hml hv
  obtain ⟨rfl, hsz, hP, hK, hD0⟩ := hv
  have hx := B.exec
  have hb := B.bytes
  have hr := B.returns
  have hts := atoms_spec (ws := wv_X12_told_12) B.pre
  have hown : s.vm.findClass RX12 = some m.cls := findClass_of_methodNamed B.named
  have hlocks := B.notSynchronized
  subst hsz
  have hD := hD0.self (sz := s.heap.size)
  generalize hAe : va_A [(h0, .inr (12, [a0, .int 0, a2, a3, .ref h4, a5, .ref h6, .ref h7, a8])), (h4, .inr (4, [b0, .int 0, .int 0, b3, b4, b5, b6, b7, b8, b9, b10, b11, b12, b13])), (h6, .inr (8, [c0, .int 0, c2])), (h7, .inr (9, [e0, e1, .ref h8, e3, e4, e5, e6, e7, e8, e9, e10, e11, e12, e13, e14, e15, e16, e17, e18, e19])), (h8, .inr (3, [d0, d1, d2, .int 0, .int 0, d5, d6, d7, d8, .int 0]))] s.heap.size = A at hD ⊢
  have hA : ∀ q : Nat, s.heap.size ≤ q → A q := fun q h => by rw [← hAe]; exact Or.inr h
  have hS : va_S A s.heap s.heap [] := va_S.rf
  have hP : va_P (dC, dI) vwCl [(h0, .inr (12, [a0, .int 0, a2, a3, .ref h4, a5, .ref h6, .ref h7, a8])), (h4, .inr (4, [b0, .int 0, .int 0, b3, b4, b5, b6, b7, b8, b9, b10, b11, b12, b13])), (h6, .inr (8, [c0, .int 0, c2])), (h7, .inr (9, [e0, e1, .ref h8, e3, e4, e5, e6, e7, e8, e9, e10, e11, e12, e13, e14, e15, e16, e17, e18, e19])), (h8, .inr (3, [d0, d1, d2, .int 0, .int 0, d5, d6, d7, d8, .int 0]))] s.heap := hP
  have hl := lv_entry ([.ref h0, .int 12]) (n := 2) (Nat.le_of_ble_eq_true rfl)
  rw [lg_entry_eq]
  generalize (lg_sl ([.ref h0, .int 12]) ++ List.replicate (2 - (lg_sl ([.ref h0, .int 12])).length) Slot.unset).toArray = ls at hl ⊢
  have hl : lv_has ls 2 [(0, .ref h0), (1, .int 12)] := hl
  refine lv_iload_n hx hb dX12_told_12_0 rfl (lv_at hl 1 rfl) ?_
  refine lv_tableIn (off := 124) (tgt := 125) hx hb dX12_told_12_1 (by decide) (by decide) (by decide) (by decide) ?_
  refine lv_aload_n hx hb dX12_told_12_125 rfl (lv_at hl 0 rfl) ?_
  refine va_get (D := (dC, dI)) (ci := 12) (v := .ref h6) (C := RX12) (T := TX12) (N := 9) hx hb hts wh_X12_told_12_X12 hown hK hP 0 rfl rfl 6 (by decide) (hts (.fieldLink RX12 40 "StreamHouse" "pool" "LStreamHouse$Pool;") (wm_X12_told_12 0 rfl)) (fun _ h9 => h9) rfl dX12_told_12_126 ?_
  refine va_get (D := (dC, dI)) (ci := 8) (v := .int 0) (C := RX8) (T := TX8) (N := 3) hx hb hts wh_X12_told_12_X8 hown hK hP 2 rfl rfl 1 (by decide) (hts (.fieldLink RX12 251 "StreamHouse$Pool" "sets" "I") (wm_X12_told_12 1 rfl)) (fun _ h9 => h9) rfl dX12_told_12_129 ?_
  have hP9 := hP.sub (ws' := [(h0, .inr (12, [a0, .int 0, a2, a3, .ref h4, a5, .ref h6, .ref h7, a8])), (h4, .inr (4, [b0, .int 0, .int 0, b3, b4, b5, b6, b7, b8, b9, b10, b11, b12, b13])), (h6, .inr (8, [c0, .int 0, c2])), (h7, .inr (9, [e0, e1, .ref h8, e3, e4, e5, e6, e7, e8, e9, e10, e11, e12, e13, e14, e15, e16, e17, e18, e19])), (h8, .inr (3, [d0, d1, d2, .int 0, .int 0, d5, d6, d7, d8, .int 0]))]) [0, 1, 2, 3, 4] rfl
  have hD9 := hD.sub (ws' := [(h0, .inr (12, [a0, .int 0, a2, a3, .ref h4, a5, .ref h6, .ref h7, a8])), (h4, .inr (4, [b0, .int 0, .int 0, b3, b4, b5, b6, b7, b8, b9, b10, b11, b12, b13])), (h6, .inr (8, [c0, .int 0, c2])), (h7, .inr (9, [e0, e1, .ref h8, e3, e4, e5, e6, e7, e8, e9, e10, e11, e12, e13, e14, e15, e16, e17, e18, e19])), (h8, .inr (3, [d0, d1, d2, .int 0, .int 0, d5, d6, d7, d8, .int 0]))]) [0, 1, 2, 3, 4] (by decide) rfl
  have hK9 := hK.sub (tys' := []) [] rfl
  refine W.widen (k := 0) (n := 0) (by decide) (by decide) ?_
  exact W.iret (v := 0) hx hb hr (fun t ht hW => ⟨⟨0, (), rfl, rfl, by rw [ht]; exact hP9, va_K.moved hW.alike hK9, hD9⟩, hS.F ht⟩) hS.2.2 dX12_told_12_132

abbrev ar_X12_told_13 (dC : Nat → ClassId) (dI : Nat → Nat → Nat) (A : Nat → Prop) (h0 h4 h6 h7 h8 : Nat) (a0 a2 a3 a5 a8 b0 b3 b4 b5 b6 b7 b8 b9 b10 b11 b12 b13 c0 c2 e0 e1 e3 e4 e5 e6 e7 e8 e9 e10 e11 e12 e13 e14 e15 e16 e17 e18 e19 d0 d1 d2 d5 d6 d7 d8 : Value) (_ : Unit) (t : State) : Prop := va_P (dC, dI) vwCl [(h0, .inr (12, [a0, .int 0, a2, a3, .ref h4, a5, .ref h6, .ref h7, a8])), (h4, .inr (4, [b0, .int 0, .int 0, b3, b4, b5, b6, b7, b8, b9, b10, b11, b12, b13])), (h6, .inr (8, [c0, .int 0, c2])), (h7, .inr (9, [e0, e1, .ref h8, e3, e4, e5, e6, e7, e8, e9, e10, e11, e12, e13, e14, e15, e16, e17, e18, e19])), (h8, .inr (3, [d0, d1, d2, .int 0, .int 0, d5, d6, d7, d8, .int 0]))] t.heap ∧ va_K (dC, dI) vwCl [] t ∧ va_D A [(h0, .inr (12, [a0, .int 0, a2, a3, .ref h4, a5, .ref h6, .ref h7, a8])), (h4, .inr (4, [b0, .int 0, .int 0, b3, b4, b5, b6, b7, b8, b9, b10, b11, b12, b13])), (h6, .inr (8, [c0, .int 0, c2])), (h7, .inr (9, [e0, e1, .ref h8, e3, e4, e5, e6, e7, e8, e9, e10, e11, e12, e13, e14, e15, e16, e17, e18, e19])), (h8, .inr (3, [d0, d1, d2, .int 0, .int 0, d5, d6, d7, d8, .int 0]))]
theorem dX12_told_13_0 : decode cX12_told 0 = .ok (.iload_n 1, 1) := by decide +kernel
theorem dX12_told_13_1 : decode cX12_told 1 = .ok (.tableswitch 145 0 14 #[75, 145, 145, 145, 145, 83, 94, 145, 145, 105, 145, 145, 124, 132, 140], 75) := by decide +kernel
theorem dX12_told_13_133 : decode cX12_told 133 = .ok (.aload_n 0, 1) := by decide +kernel
theorem dX12_told_13_134 : decode cX12_told 134 = .ok (.getfield 30, 3) := by decide +kernel
theorem dX12_told_13_137 : decode cX12_told 137 = .ok (.getfield 254, 3) := by decide +kernel
theorem dX12_told_13_140 : decode cX12_told 140 = .ok (.ireturn, 1) := by decide +kernel
def ww_X12_told_13 : List Cond := [.fieldLink RX12 30 "StreamHouse" "current" "LStreamHouse$Job;", .fieldLink RX12 254 "StreamHouse$Job" "outputs" "I"]
def wv_X12_told_13 : List Cond := .code yX12_told cX12_told 2 (some .int) :: (ww_X12_told_13 ++ (u_ws RX12 TX12 9 ++ (u_ws RX4 TX4 14 ++ [])))
theorem wm_X12_told_13 {w : Cond} (i : Nat) (h : ww_X12_told_13[i]? = some w) : w ∈ wv_X12_told_13 := List.mem_cons_of_mem _ (List.mem_append_left _ (List.mem_of_getElem? h))
set_option maxRecDepth 100000 in
theorem gw_X12_told_13 : wv_X12_told_13.all goodWord = true := by decide +kernel
theorem wh_X12_told_13_X12 : ∀ w ∈ u_ws RX12 TX12 9, w ∈ wv_X12_told_13 := fun w h => List.mem_cons_of_mem _ (List.mem_append_right _ (List.mem_append_left _ h))
theorem wh_X12_told_13_X4 : ∀ w ∈ u_ws RX4 TX4 14, w ∈ wv_X12_told_13 := fun w h => List.mem_cons_of_mem _ (List.mem_append_right _ (List.mem_append_right _ (List.mem_append_left _ h)))
set_option maxHeartbeats 4000000 in
set_option maxRecDepth 100000 in
/-- told(13) of a fresh house: 0 -/
theorem r_X12_told_13 (l : Launch) (dC : Nat → ClassId) (dI : Nat → Nat → Nat) (h0 h4 h6 h7 h8 : Nat) (a0 a2 a3 a5 a8 b0 b3 b4 b5 b6 b7 b8 b9 b10 b11 b12 b13 c0 c2 e0 e1 e3 e4 e5 e6 e7 e8 e9 e10 e11 e12 e13 e14 e15 e16 e17 e18 e19 d0 d1 d2 d5 d6 d7 d8 : Value) (sz : Nat) : Met l yX12_told wv_X12_told_13 ({ frames := 0, cells := 0, slots := 0, locals := 0 }) (va_Pc [.ref h0, .int 13] (fun U => U.heap.size = sz ∧ va_P (dC, dI) vwCl [(h0, .inr (12, [a0, .int 0, a2, a3, .ref h4, a5, .ref h6, .ref h7, a8])), (h4, .inr (4, [b0, .int 0, .int 0, b3, b4, b5, b6, b7, b8, b9, b10, b11, b12, b13])), (h6, .inr (8, [c0, .int 0, c2])), (h7, .inr (9, [e0, e1, .ref h8, e3, e4, e5, e6, e7, e8, e9, e10, e11, e12, e13, e14, e15, e16, e17, e18, e19])), (h8, .inr (3, [d0, d1, d2, .int 0, .int 0, d5, d6, d7, d8, .int 0]))] U.heap ∧ va_K (dC, dI) vwCl [] U ∧ va_D (fun _ => True) [(h0, .inr (12, [a0, .int 0, a2, a3, .ref h4, a5, .ref h6, .ref h7, a8])), (h4, .inr (4, [b0, .int 0, .int 0, b3, b4, b5, b6, b7, b8, b9, b10, b11, b12, b13])), (h6, .inr (8, [c0, .int 0, c2])), (h7, .inr (9, [e0, e1, .ref h8, e3, e4, e5, e6, e7, e8, e9, e10, e11, e12, e13, e14, e15, e16, e17, e18, e19])), (h8, .inr (3, [d0, d1, d2, .int 0, .int 0, d5, d6, d7, d8, .int 0]))])) (va_Qi (fun r (_ : Unit) => r = 0) (ar_X12_told_13 dC dI (va_A [(h0, .inr (12, [a0, .int 0, a2, a3, .ref h4, a5, .ref h6, .ref h7, a8])), (h4, .inr (4, [b0, .int 0, .int 0, b3, b4, b5, b6, b7, b8, b9, b10, b11, b12, b13])), (h6, .inr (8, [c0, .int 0, c2])), (h7, .inr (9, [e0, e1, .ref h8, e3, e4, e5, e6, e7, e8, e9, e10, e11, e12, e13, e14, e15, e16, e17, e18, e19])), (h8, .inr (3, [d0, d1, d2, .int 0, .int 0, d5, d6, d7, d8, .int 0]))] sz) h0 h4 h6 h7 h8 a0 a2 a3 a5 a8 b0 b3 b4 b5 b6 b7 b8 b9 b10 b11 b12 b13 c0 c2 e0 e1 e3 e4 e5 e6 e7 e8 e9 e10 e11 e12 e13 e14 e15 e16 e17 e18 e19 d0 d1 d2 d5 d6 d7 d8) (va_A [(h0, .inr (12, [a0, .int 0, a2, a3, .ref h4, a5, .ref h6, .ref h7, a8])), (h4, .inr (4, [b0, .int 0, .int 0, b3, b4, b5, b6, b7, b8, b9, b10, b11, b12, b13])), (h6, .inr (8, [c0, .int 0, c2])), (h7, .inr (9, [e0, e1, .ref h8, e3, e4, e5, e6, e7, e8, e9, e10, e11, e12, e13, e14, e15, e16, e17, e18, e19])), (h8, .inr (3, [d0, d1, d2, .int 0, .int 0, d5, d6, d7, d8, .int 0]))] sz)) 0 0 (va_A [(h0, .inr (12, [a0, .int 0, a2, a3, .ref h4, a5, .ref h6, .ref h7, a8])), (h4, .inr (4, [b0, .int 0, .int 0, b3, b4, b5, b6, b7, b8, b9, b10, b11, b12, b13])), (h6, .inr (8, [c0, .int 0, c2])), (h7, .inr (9, [e0, e1, .ref h8, e3, e4, e5, e6, e7, e8, e9, e10, e11, e12, e13, e14, e15, e16, e17, e18, e19])), (h8, .inr (3, [d0, d1, d2, .int 0, .int 0, d5, d6, d7, d8, .int 0]))] sz) := by
  refine Met.ofW (cc := cX12_told) (maxL := 2) (ret := (some .int)) (by decide) rfl ?_
  intro p e s m args below meth c s₁ B hml hv
  obtain ⟨rfl, hsz, hP, hK, hD0⟩ := hv
  have hx := B.exec
  have hb := B.bytes
  have hr := B.returns
  have hts := atoms_spec (ws := wv_X12_told_13) B.pre
  have hown : s.vm.findClass RX12 = some m.cls := findClass_of_methodNamed B.named
  have hlocks := B.notSynchronized
  subst hsz
  have hD := hD0.self (sz := s.heap.size)
  generalize hAe : va_A [(h0, .inr (12, [a0, .int 0, a2, a3, .ref h4, a5, .ref h6, .ref h7, a8])), (h4, .inr (4, [b0, .int 0, .int 0, b3, b4, b5, b6, b7, b8, b9, b10, b11, b12, b13])), (h6, .inr (8, [c0, .int 0, c2])), (h7, .inr (9, [e0, e1, .ref h8, e3, e4, e5, e6, e7, e8, e9, e10, e11, e12, e13, e14, e15, e16, e17, e18, e19])), (h8, .inr (3, [d0, d1, d2, .int 0, .int 0, d5, d6, d7, d8, .int 0]))] s.heap.size = A at hD ⊢
  have hA : ∀ q : Nat, s.heap.size ≤ q → A q := fun q h => by rw [← hAe]; exact Or.inr h
  have hS : va_S A s.heap s.heap [] := va_S.rf
  have hP : va_P (dC, dI) vwCl [(h0, .inr (12, [a0, .int 0, a2, a3, .ref h4, a5, .ref h6, .ref h7, a8])), (h4, .inr (4, [b0, .int 0, .int 0, b3, b4, b5, b6, b7, b8, b9, b10, b11, b12, b13])), (h6, .inr (8, [c0, .int 0, c2])), (h7, .inr (9, [e0, e1, .ref h8, e3, e4, e5, e6, e7, e8, e9, e10, e11, e12, e13, e14, e15, e16, e17, e18, e19])), (h8, .inr (3, [d0, d1, d2, .int 0, .int 0, d5, d6, d7, d8, .int 0]))] s.heap := hP
  have hl := lv_entry ([.ref h0, .int 13]) (n := 2) (Nat.le_of_ble_eq_true rfl)
  rw [lg_entry_eq]
  generalize (lg_sl ([.ref h0, .int 13]) ++ List.replicate (2 - (lg_sl ([.ref h0, .int 13])).length) Slot.unset).toArray = ls at hl ⊢
  have hl : lv_has ls 2 [(0, .ref h0), (1, .int 13)] := hl
  refine lv_iload_n hx hb dX12_told_13_0 rfl (lv_at hl 1 rfl) ?_
  refine lv_tableIn (off := 132) (tgt := 133) hx hb dX12_told_13_1 (by decide) (by decide) (by decide) (by decide) ?_
  refine lv_aload_n hx hb dX12_told_13_133 rfl (lv_at hl 0 rfl) ?_
  refine va_get (D := (dC, dI)) (ci := 12) (v := .ref h4) (C := RX12) (T := TX12) (N := 9) hx hb hts wh_X12_told_13_X12 hown hK hP 0 rfl rfl 4 (by decide) (hts (.fieldLink RX12 30 "StreamHouse" "current" "LStreamHouse$Job;") (wm_X12_told_13 0 rfl)) (fun _ h9 => h9) rfl dX12_told_13_134 ?_
  refine va_get (D := (dC, dI)) (ci := 4) (v := .int 0) (C := RX4) (T := TX4) (N := 14) hx hb hts wh_X12_told_13_X4 hown hK hP 1 rfl rfl 2 (by decide) (hts (.fieldLink RX12 254 "StreamHouse$Job" "outputs" "I") (wm_X12_told_13 1 rfl)) (fun _ h9 => h9) rfl dX12_told_13_137 ?_
  have hP9 := hP.sub (ws' := [(h0, .inr (12, [a0, .int 0, a2, a3, .ref h4, a5, .ref h6, .ref h7, a8])), (h4, .inr (4, [b0, .int 0, .int 0, b3, b4, b5, b6, b7, b8, b9, b10, b11, b12, b13])), (h6, .inr (8, [c0, .int 0, c2])), (h7, .inr (9, [e0, e1, .ref h8, e3, e4, e5, e6, e7, e8, e9, e10, e11, e12, e13, e14, e15, e16, e17, e18, e19])), (h8, .inr (3, [d0, d1, d2, .int 0, .int 0, d5, d6, d7, d8, .int 0]))]) [0, 1, 2, 3, 4] rfl
  have hD9 := hD.sub (ws' := [(h0, .inr (12, [a0, .int 0, a2, a3, .ref h4, a5, .ref h6, .ref h7, a8])), (h4, .inr (4, [b0, .int 0, .int 0, b3, b4, b5, b6, b7, b8, b9, b10, b11, b12, b13])), (h6, .inr (8, [c0, .int 0, c2])), (h7, .inr (9, [e0, e1, .ref h8, e3, e4, e5, e6, e7, e8, e9, e10, e11, e12, e13, e14, e15, e16, e17, e18, e19])), (h8, .inr (3, [d0, d1, d2, .int 0, .int 0, d5, d6, d7, d8, .int 0]))]) [0, 1, 2, 3, 4] (by decide) rfl
  have hK9 := hK.sub (tys' := []) [] rfl
  refine W.widen (k := 0) (n := 0) (by decide) (by decide) ?_
  exact W.iret (v := 0) hx hb hr (fun t ht hW => ⟨⟨0, (), rfl, rfl, by rw [ht]; exact hP9, va_K.moved hW.alike hK9, hD9⟩, hS.F ht⟩) hS.2.2 dX12_told_13_140

abbrev ar_X12_told_14 (dC : Nat → ClassId) (dI : Nat → Nat → Nat) (A : Nat → Prop) (h0 h4 h6 h7 h8 : Nat) (a0 a2 a3 a5 a8 b0 b3 b4 b5 b6 b7 b8 b9 b10 b11 b12 b13 c0 c2 e0 e1 e3 e4 e5 e6 e7 e8 e9 e10 e11 e12 e13 e14 e15 e16 e17 e18 e19 d0 d1 d2 d5 d6 d7 d8 : Value) (_ : Unit) (t : State) : Prop := va_P (dC, dI) vwCl [(h0, .inr (12, [a0, .int 0, a2, a3, .ref h4, a5, .ref h6, .ref h7, a8])), (h4, .inr (4, [b0, .int 0, .int 0, b3, b4, b5, b6, b7, b8, b9, b10, b11, b12, b13])), (h6, .inr (8, [c0, .int 0, c2])), (h7, .inr (9, [e0, e1, .ref h8, e3, e4, e5, e6, e7, e8, e9, e10, e11, e12, e13, e14, e15, e16, e17, e18, e19])), (h8, .inr (3, [d0, d1, d2, .int 0, .int 0, d5, d6, d7, d8, .int 0]))] t.heap ∧ va_K (dC, dI) vwCl [] t ∧ va_D A [(h0, .inr (12, [a0, .int 0, a2, a3, .ref h4, a5, .ref h6, .ref h7, a8])), (h4, .inr (4, [b0, .int 0, .int 0, b3, b4, b5, b6, b7, b8, b9, b10, b11, b12, b13])), (h6, .inr (8, [c0, .int 0, c2])), (h7, .inr (9, [e0, e1, .ref h8, e3, e4, e5, e6, e7, e8, e9, e10, e11, e12, e13, e14, e15, e16, e17, e18, e19])), (h8, .inr (3, [d0, d1, d2, .int 0, .int 0, d5, d6, d7, d8, .int 0]))]
theorem dX12_told_14_0 : decode cX12_told 0 = .ok (.iload_n 1, 1) := by decide +kernel
theorem dX12_told_14_1 : decode cX12_told 1 = .ok (.tableswitch 145 0 14 #[75, 145, 145, 145, 145, 83, 94, 145, 145, 105, 145, 145, 124, 132, 140], 75) := by decide +kernel
theorem dX12_told_14_141 : decode cX12_told 141 = .ok (.aload_n 0, 1) := by decide +kernel
theorem dX12_told_14_142 : decode cX12_told 142 = .ok (.getfield 13, 3) := by decide +kernel
theorem dX12_told_14_145 : decode cX12_told 145 = .ok (.ireturn, 1) := by decide +kernel
def ww_X12_told_14 : List Cond := [.fieldLink RX12 13 "StreamHouse" "tapeLength" "I"]
def wv_X12_told_14 : List Cond := .code yX12_told cX12_told 2 (some .int) :: (ww_X12_told_14 ++ (u_ws RX12 TX12 9 ++ []))
theorem wm_X12_told_14 {w : Cond} (i : Nat) (h : ww_X12_told_14[i]? = some w) : w ∈ wv_X12_told_14 := List.mem_cons_of_mem _ (List.mem_append_left _ (List.mem_of_getElem? h))
set_option maxRecDepth 100000 in
theorem gw_X12_told_14 : wv_X12_told_14.all goodWord = true := by decide +kernel
theorem wh_X12_told_14_X12 : ∀ w ∈ u_ws RX12 TX12 9, w ∈ wv_X12_told_14 := fun w h => List.mem_cons_of_mem _ (List.mem_append_right _ (List.mem_append_left _ h))
set_option maxHeartbeats 4000000 in
set_option maxRecDepth 100000 in
/-- told(14) of a fresh house: 0 -/
theorem r_X12_told_14 (l : Launch) (dC : Nat → ClassId) (dI : Nat → Nat → Nat) (h0 h4 h6 h7 h8 : Nat) (a0 a2 a3 a5 a8 b0 b3 b4 b5 b6 b7 b8 b9 b10 b11 b12 b13 c0 c2 e0 e1 e3 e4 e5 e6 e7 e8 e9 e10 e11 e12 e13 e14 e15 e16 e17 e18 e19 d0 d1 d2 d5 d6 d7 d8 : Value) (sz : Nat) : Met l yX12_told wv_X12_told_14 ({ frames := 0, cells := 0, slots := 0, locals := 0 }) (va_Pc [.ref h0, .int 14] (fun U => U.heap.size = sz ∧ va_P (dC, dI) vwCl [(h0, .inr (12, [a0, .int 0, a2, a3, .ref h4, a5, .ref h6, .ref h7, a8])), (h4, .inr (4, [b0, .int 0, .int 0, b3, b4, b5, b6, b7, b8, b9, b10, b11, b12, b13])), (h6, .inr (8, [c0, .int 0, c2])), (h7, .inr (9, [e0, e1, .ref h8, e3, e4, e5, e6, e7, e8, e9, e10, e11, e12, e13, e14, e15, e16, e17, e18, e19])), (h8, .inr (3, [d0, d1, d2, .int 0, .int 0, d5, d6, d7, d8, .int 0]))] U.heap ∧ va_K (dC, dI) vwCl [] U ∧ va_D (fun _ => True) [(h0, .inr (12, [a0, .int 0, a2, a3, .ref h4, a5, .ref h6, .ref h7, a8])), (h4, .inr (4, [b0, .int 0, .int 0, b3, b4, b5, b6, b7, b8, b9, b10, b11, b12, b13])), (h6, .inr (8, [c0, .int 0, c2])), (h7, .inr (9, [e0, e1, .ref h8, e3, e4, e5, e6, e7, e8, e9, e10, e11, e12, e13, e14, e15, e16, e17, e18, e19])), (h8, .inr (3, [d0, d1, d2, .int 0, .int 0, d5, d6, d7, d8, .int 0]))])) (va_Qi (fun r (_ : Unit) => r = 0) (ar_X12_told_14 dC dI (va_A [(h0, .inr (12, [a0, .int 0, a2, a3, .ref h4, a5, .ref h6, .ref h7, a8])), (h4, .inr (4, [b0, .int 0, .int 0, b3, b4, b5, b6, b7, b8, b9, b10, b11, b12, b13])), (h6, .inr (8, [c0, .int 0, c2])), (h7, .inr (9, [e0, e1, .ref h8, e3, e4, e5, e6, e7, e8, e9, e10, e11, e12, e13, e14, e15, e16, e17, e18, e19])), (h8, .inr (3, [d0, d1, d2, .int 0, .int 0, d5, d6, d7, d8, .int 0]))] sz) h0 h4 h6 h7 h8 a0 a2 a3 a5 a8 b0 b3 b4 b5 b6 b7 b8 b9 b10 b11 b12 b13 c0 c2 e0 e1 e3 e4 e5 e6 e7 e8 e9 e10 e11 e12 e13 e14 e15 e16 e17 e18 e19 d0 d1 d2 d5 d6 d7 d8) (va_A [(h0, .inr (12, [a0, .int 0, a2, a3, .ref h4, a5, .ref h6, .ref h7, a8])), (h4, .inr (4, [b0, .int 0, .int 0, b3, b4, b5, b6, b7, b8, b9, b10, b11, b12, b13])), (h6, .inr (8, [c0, .int 0, c2])), (h7, .inr (9, [e0, e1, .ref h8, e3, e4, e5, e6, e7, e8, e9, e10, e11, e12, e13, e14, e15, e16, e17, e18, e19])), (h8, .inr (3, [d0, d1, d2, .int 0, .int 0, d5, d6, d7, d8, .int 0]))] sz)) 0 0 (va_A [(h0, .inr (12, [a0, .int 0, a2, a3, .ref h4, a5, .ref h6, .ref h7, a8])), (h4, .inr (4, [b0, .int 0, .int 0, b3, b4, b5, b6, b7, b8, b9, b10, b11, b12, b13])), (h6, .inr (8, [c0, .int 0, c2])), (h7, .inr (9, [e0, e1, .ref h8, e3, e4, e5, e6, e7, e8, e9, e10, e11, e12, e13, e14, e15, e16, e17, e18, e19])), (h8, .inr (3, [d0, d1, d2, .int 0, .int 0, d5, d6, d7, d8, .int 0]))] sz) := by
  refine Met.ofW (cc := cX12_told) (maxL := 2) (ret := (some .int)) (by decide) rfl ?_
  intro p e s m args below meth c s₁ B hml hv
  obtain ⟨rfl, hsz, hP, hK, hD0⟩ := hv
  have hx := B.exec
  have hb := B.bytes
  have hr := B.returns
  have hts := atoms_spec (ws := wv_X12_told_14) B.pre
  have hown : s.vm.findClass RX12 = some m.cls := findClass_of_methodNamed B.named
  have hlocks := B.notSynchronized
  subst hsz
  have hD := hD0.self (sz := s.heap.size)
  generalize hAe : va_A [(h0, .inr (12, [a0, .int 0, a2, a3, .ref h4, a5, .ref h6, .ref h7, a8])), (h4, .inr (4, [b0, .int 0, .int 0, b3, b4, b5, b6, b7, b8, b9, b10, b11, b12, b13])), (h6, .inr (8, [c0, .int 0, c2])), (h7, .inr (9, [e0, e1, .ref h8, e3, e4, e5, e6, e7, e8, e9, e10, e11, e12, e13, e14, e15, e16, e17, e18, e19])), (h8, .inr (3, [d0, d1, d2, .int 0, .int 0, d5, d6, d7, d8, .int 0]))] s.heap.size = A at hD ⊢
  have hA : ∀ q : Nat, s.heap.size ≤ q → A q := fun q h => by rw [← hAe]; exact Or.inr h
  have hS : va_S A s.heap s.heap [] := va_S.rf
  have hP : va_P (dC, dI) vwCl [(h0, .inr (12, [a0, .int 0, a2, a3, .ref h4, a5, .ref h6, .ref h7, a8])), (h4, .inr (4, [b0, .int 0, .int 0, b3, b4, b5, b6, b7, b8, b9, b10, b11, b12, b13])), (h6, .inr (8, [c0, .int 0, c2])), (h7, .inr (9, [e0, e1, .ref h8, e3, e4, e5, e6, e7, e8, e9, e10, e11, e12, e13, e14, e15, e16, e17, e18, e19])), (h8, .inr (3, [d0, d1, d2, .int 0, .int 0, d5, d6, d7, d8, .int 0]))] s.heap := hP
  have hl := lv_entry ([.ref h0, .int 14]) (n := 2) (Nat.le_of_ble_eq_true rfl)
  rw [lg_entry_eq]
  generalize (lg_sl ([.ref h0, .int 14]) ++ List.replicate (2 - (lg_sl ([.ref h0, .int 14])).length) Slot.unset).toArray = ls at hl ⊢
  have hl : lv_has ls 2 [(0, .ref h0), (1, .int 14)] := hl
  refine lv_iload_n hx hb dX12_told_14_0 rfl (lv_at hl 1 rfl) ?_
  refine lv_tableIn (off := 140) (tgt := 141) hx hb dX12_told_14_1 (by decide) (by decide) (by decide) (by decide) ?_
  refine lv_aload_n hx hb dX12_told_14_141 rfl (lv_at hl 0 rfl) ?_
  refine va_get (D := (dC, dI)) (ci := 12) (v := .int 0) (C := RX12) (T := TX12) (N := 9) hx hb hts wh_X12_told_14_X12 hown hK hP 0 rfl rfl 1 (by decide) (hts (.fieldLink RX12 13 "StreamHouse" "tapeLength" "I") (wm_X12_told_14 0 rfl)) (fun _ h9 => h9) rfl dX12_told_14_142 ?_
  have hP9 := hP.sub (ws' := [(h0, .inr (12, [a0, .int 0, a2, a3, .ref h4, a5, .ref h6, .ref h7, a8])), (h4, .inr (4, [b0, .int 0, .int 0, b3, b4, b5, b6, b7, b8, b9, b10, b11, b12, b13])), (h6, .inr (8, [c0, .int 0, c2])), (h7, .inr (9, [e0, e1, .ref h8, e3, e4, e5, e6, e7, e8, e9, e10, e11, e12, e13, e14, e15, e16, e17, e18, e19])), (h8, .inr (3, [d0, d1, d2, .int 0, .int 0, d5, d6, d7, d8, .int 0]))]) [0, 1, 2, 3, 4] rfl
  have hD9 := hD.sub (ws' := [(h0, .inr (12, [a0, .int 0, a2, a3, .ref h4, a5, .ref h6, .ref h7, a8])), (h4, .inr (4, [b0, .int 0, .int 0, b3, b4, b5, b6, b7, b8, b9, b10, b11, b12, b13])), (h6, .inr (8, [c0, .int 0, c2])), (h7, .inr (9, [e0, e1, .ref h8, e3, e4, e5, e6, e7, e8, e9, e10, e11, e12, e13, e14, e15, e16, e17, e18, e19])), (h8, .inr (3, [d0, d1, d2, .int 0, .int 0, d5, d6, d7, d8, .int 0]))]) [0, 1, 2, 3, 4] (by decide) rfl
  have hK9 := hK.sub (tys' := []) [] rfl
  refine W.widen (k := 0) (n := 0) (by decide) (by decide) ?_
  exact W.iret (v := 0) hx hb hr (fun t ht hW => ⟨⟨0, (), rfl, rfl, by rw [ht]; exact hP9, va_K.moved hW.alike hK9, hD9⟩, hS.F ht⟩) hS.2.2 dX12_told_14_145


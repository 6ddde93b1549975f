abbrev ax_X12_close_X (dC : Nat → ClassId) (dI : Nat → Nat → Nat) (A : Nat → Prop) (h0 : Nat) (k1 : Int32) (a0 a1 a2 a3 a4 a5 a6 a7 a8 : Value) (E : String) (_ : Unit) (t : State) : Prop := E = "java/lang/IndexOutOfBoundsException" ∧ va_P (dC, dI) vwCl [(h0, .inr (12, [a0, a1, a2, a3, a4, a5, a6, a7, a8]))] t.heap ∧ va_K (dC, dI) vwCl [] t ∧ va_D A [(h0, .inr (12, [a0, a1, a2, a3, a4, a5, a6, a7, a8]))]
theorem dX12_close_X_0 : decode cX12_close 0 = .ok (.iload_n 1, 1) := by decide +kernel
theorem dX12_close_X_1 : decode cX12_close 1 = .ok (.ifCond .lt 8, 3) := by decide +kernel
theorem dX12_close_X_4 : decode cX12_close 4 = .ok (.iload_n 1, 1) := by decide +kernel
theorem dX12_close_X_5 : decode cX12_close 5 = .ok (.iconst 4, 1) := by decide +kernel
theorem dX12_close_X_6 : decode cX12_close 6 = .ok (.if_icmp .lt 11, 3) := by decide +kernel
theorem dX12_close_X_9 : decode cX12_close 9 = .ok (.new 92, 3) := by decide +kernel
theorem dX12_close_X_12 : decode cX12_close 12 = .ok (.dup, 1) := by decide +kernel
theorem dX12_close_X_13 : decode cX12_close 13 = .ok (.invokespecial 94, 3) := by decide +kernel
theorem dX12_close_X_16 : decode cX12_close 16 = .ok (.athrow, 1) := by decide +kernel
def ww_X12_close_X : List Cond := [.classLink RX12 92 "java/lang/IndexOutOfBoundsException", .initialized "java/lang/IndexOutOfBoundsException"]
def wv_X12_close_X : List Cond := .code yX12_close cX12_close 3 (some .boolean) :: (ww_X12_close_X ++ ((vx_at0 RX12 94 "java/lang/IndexOutOfBoundsException" ["java/lang/RuntimeException", "java/lang/Exception"]).filter goodWord ++ []))
theorem wm_X12_close_X {w : Cond} (i : Nat) (h : ww_X12_close_X[i]? = some w) : w ∈ wv_X12_close_X := List.mem_cons_of_mem _ (List.mem_append_left _ (List.mem_of_getElem? h))
set_option maxRecDepth 100000 in
theorem gw_X12_close_X : wv_X12_close_X.all goodWord = true := by decide +kernel
theorem wx_X12_close_X_94 : ∀ w ∈ (vx_at0 RX12 94 "java/lang/IndexOutOfBoundsException" ["java/lang/RuntimeException", "java/lang/Exception"]).filter goodWord, w ∈ wv_X12_close_X := fun w h => List.mem_cons_of_mem _ (List.mem_append_right _ (List.mem_append_left _ h))
set_option maxHeartbeats 4000000 in
set_option maxRecDepth 100000 in
/-- close(k) of no source: IndexOutOfBoundsException -/
theorem x_X12_close_X (l : Launch) (hl0 : l.stackTraces = false) (dC : Nat → ClassId) (dI : Nat → Nat → Nat) (h0 : Nat) (k1 : Int32) (a0 a1 a2 a3 a4 a5 a6 a7 a8 : Value) (sz : Nat) : vx_Met l yX12_close wv_X12_close_X ({ frames := 6, cells := 1, slots := 6, locals := 81 }) (va_Pc [.ref h0, .int k1] (fun U => U.heap.size = sz ∧ va_P (dC, dI) vwCl [(h0, .inr (12, [a0, a1, a2, a3, a4, a5, a6, a7, a8]))] U.heap ∧ va_K (dC, dI) vwCl [] U ∧ va_D (fun _ => True) [(h0, .inr (12, [a0, a1, a2, a3, a4, a5, a6, a7, a8]))] ∧ xz_F U ∧ xz_Z (va_A [(h0, .inr (12, [a0, a1, a2, a3, a4, a5, a6, a7, a8]))] sz) U U.heap ∧ (k1 < 0 ∨ 4 ≤ k1))) (va_Qi (fun _ (_ : Unit) => False) (fun _ _ => True) (va_A [(h0, .inr (12, [a0, a1, a2, a3, a4, a5, a6, a7, a8]))] sz)) (vx_X (fun _ : Unit => True) (ax_X12_close_X dC dI (va_A [(h0, .inr (12, [a0, a1, a2, a3, a4, a5, a6, a7, a8]))] sz) h0 k1 a0 a1 a2 a3 a4 a5 a6 a7 a8) (va_A [(h0, .inr (12, [a0, a1, a2, a3, a4, a5, a6, a7, a8]))] sz)) 1 6 (va_A [(h0, .inr (12, [a0, a1, a2, a3, a4, a5, a6, a7, a8]))] sz) := by
  refine vx_ofW (cc := cX12_close) (maxL := 3) (ret := (some .boolean)) (by decide) rfl ?_
  intro p e s m args below meth c s₁ B hml hex hv
  obtain ⟨rfl, hsz, hP, hK, hD0, hF9, hZ9, hpre⟩ := hv
  have hx := B.exec
  have hb := B.bytes
  have hr := B.returns
  have hts := atoms_spec (ws := wv_X12_close_X) B.pre
  have hown : s.vm.findClass RX12 = some m.cls := findClass_of_methodNamed B.named
  have hlocks := B.notSynchronized
  subst hsz
  have hD := hD0.self (sz := s.heap.size)
  generalize hAe : va_A [(h0, .inr (12, [a0, a1, a2, a3, a4, a5, a6, a7, a8]))] s.heap.size = A at hD hZ9 ⊢
  have hA : ∀ q : Nat, s.heap.size ≤ q → A q := fun q h => by rw [← hAe]; exact Or.inr h
  have hS : va_S A s.heap s.heap [] := va_S.rf
  have hP : va_P (dC, dI) vwCl [(h0, .inr (12, [a0, a1, a2, a3, a4, a5, a6, a7, a8]))] s.heap := hP
  have hl := lv_entry ([.ref h0, .int k1]) (n := 3) (Nat.le_of_ble_eq_true rfl)
  rw [lg_entry_eq]
  generalize (lg_sl ([.ref h0, .int k1]) ++ List.replicate (3 - (lg_sl ([.ref h0, .int k1])).length) Slot.unset).toArray = ls at hl ⊢
  have hl : lv_has ls 3 [(0, .ref h0), (1, .int k1)] := hl
  have hout : ∀ {k : Nat}, ∀ x ∈ c.exceptionTable.toList, covers x k = false := fun x h => (hex x h).elim
  refine lv_iload_n hx hb dX12_close_X_0 rfl (lv_at hl 1 rfl) ?_
  refine lv_if_lt (tgt := 9) hx hb dX12_close_X_1 (by decide) (fun hc => ?_) (fun hc => ?_)
  · have h_1 : 1 ≤ 1 := by decide
    have h_2 : 6 ≤ 6 := by decide
    have hat9 : ∀ w ∈ vx_at0 RX12 94 "java/lang/IndexOutOfBoundsException" ["java/lang/RuntimeException", "java/lang/Exception"], w.before _ s = true := vx_hat (B := [.declares (Bundle.init0 "java/lang/RuntimeException"), .declares (Bundle.init0 "java/lang/Exception"), .declares (Bundle.init0 Bundle.tN), .castable "java/lang/IndexOutOfBoundsException" "java/lang/IndexOutOfBoundsException"]) (fun w hw => hts w (wx_X12_close_X_94 w hw)) (by decide +kernel) (vx_c (va_Nw.use rfl hF9.1) (vx_c (va_Nw.use rfl hF9.2.1) (vx_c (va_Nw.use rfl hF9.2.2.1) (vx_c (va_Nw.use rfl hF9.2.2.2.2.2.1) vx_n))))
    have hP9 := hP.sub (ws' := [(h0, .inr (12, [a0, a1, a2, a3, a4, a5, a6, a7, a8]))]) [0] rfl
    have hD9 := hD.sub (ws' := [(h0, .inr (12, [a0, a1, a2, a3, a4, a5, a6, a7, a8]))]) [0] (by decide) rfl
    have hK9 := hK.sub (tys' := []) [] rfl
    exact vx_throw0 (A := A) hx hb hl0 hown (by decide +kernel) (by decide +kernel) (hts (.classLink RX12 92 "java/lang/IndexOutOfBoundsException") (wm_X12_close_X 0 rfl)) (hts (.initialized "java/lang/IndexOutOfBoundsException") (wm_X12_close_X 1 rfl)) hat9 (by decide +kernel) hZ9.1 hZ9.2 hS (hl.1.trans hml.symm) dX12_close_X_9 dX12_close_X_12 dX12_close_X_13 dX12_close_X_16 hout (by decide) (by decide) h_1 h_2 hlocks (fun t9 ha9 hz9 hk9 => ⟨(), trivial, ⟨rfl, (xz_keep hS hP9 hz9 hk9).1, va_K.moved ha9 hK9, hD9⟩, (xz_keep hS hP9 hz9 hk9).2⟩) hS.2.2 (by decide) (by decide)
  · refine lv_iload_n hx hb dX12_close_X_4 rfl (lv_at hl 1 rfl) ?_
    refine lv_iconst (v := 4) hx hb dX12_close_X_5 (by decide) ?_
    refine lv_icmp_lt (tgt := 17) hx hb dX12_close_X_6 (by decide) (fun h9 => absurd h9 (by rcases hpre with h | h; exact absurd h hc; exact Int32.not_lt.mpr h)) (fun _ => ?_)
    have h_3 : 1 ≤ 1 := by decide
    have h_4 : 6 ≤ 6 := by decide
    have hat9 : ∀ w ∈ vx_at0 RX12 94 "java/lang/IndexOutOfBoundsException" ["java/lang/RuntimeException", "java/lang/Exception"], w.before _ s = true := vx_hat (B := [.declares (Bundle.init0 "java/lang/RuntimeException"), .declares (Bundle.init0 "java/lang/Exception"), .declares (Bundle.init0 Bundle.tN), .castable "java/lang/IndexOutOfBoundsException" "java/lang/IndexOutOfBoundsException"]) (fun w hw => hts w (wx_X12_close_X_94 w hw)) (by decide +kernel) (vx_c (va_Nw.use rfl hF9.1) (vx_c (va_Nw.use rfl hF9.2.1) (vx_c (va_Nw.use rfl hF9.2.2.1) (vx_c (va_Nw.use rfl hF9.2.2.2.2.2.1) vx_n))))
    have hP9 := hP.sub (ws' := [(h0, .inr (12, [a0, a1, a2, a3, a4, a5, a6, a7, a8]))]) [0] rfl
    have hD9 := hD.sub (ws' := [(h0, .inr (12, [a0, a1, a2, a3, a4, a5, a6, a7, a8]))]) [0] (by decide) rfl
    have hK9 := hK.sub (tys' := []) [] rfl
    exact vx_throw0 (A := A) hx hb hl0 hown (by decide +kernel) (by decide +kernel) (hts (.classLink RX12 92 "java/lang/IndexOutOfBoundsException") (wm_X12_close_X 0 rfl)) (hts (.initialized "java/lang/IndexOutOfBoundsException") (wm_X12_close_X 1 rfl)) hat9 (by decide +kernel) hZ9.1 hZ9.2 hS (hl.1.trans hml.symm) dX12_close_X_9 dX12_close_X_12 dX12_close_X_13 dX12_close_X_16 hout (by decide) (by decide) h_3 h_4 hlocks (fun t9 ha9 hz9 hk9 => ⟨(), trivial, ⟨rfl, (xz_keep hS hP9 hz9 hk9).1, va_K.moved ha9 hK9, hD9⟩, (xz_keep hS hP9 hz9 hk9).2⟩) hS.2.2 (by decide) (by decide)

abbrev ax_X12_give_X (dC : Nat → ClassId) (dI : Nat → Nat → Nat) (A : Nat → Prop) (h0 : Nat) (k1 k2 : Int32) (g1 g2 g3 g4 : Int64) (a0 a1 a2 a3 a4 a5 a6 a7 a8 : Value) (E : String) (_ : Unit) (t : State) : Prop := E = "java/lang/IndexOutOfBoundsException" ∧ va_P (dC, dI) vwCl [(h0, .inr (12, [a0, a1, a2, a3, a4, a5, a6, a7, a8]))] t.heap ∧ va_K (dC, dI) vwCl [] t ∧ va_D A [(h0, .inr (12, [a0, a1, a2, a3, a4, a5, a6, a7, a8]))]
theorem dX12_give_X_0 : decode cX12_give 0 = .ok (.iload_n 1, 1) := by decide +kernel
theorem dX12_give_X_1 : decode cX12_give 1 = .ok (.ifCond .lt 8, 3) := by decide +kernel
theorem dX12_give_X_4 : decode cX12_give 4 = .ok (.iload_n 1, 1) := by decide +kernel
theorem dX12_give_X_5 : decode cX12_give 5 = .ok (.iconst 4, 1) := by decide +kernel
theorem dX12_give_X_6 : decode cX12_give 6 = .ok (.if_icmp .lt 11, 3) := by decide +kernel
theorem dX12_give_X_9 : decode cX12_give 9 = .ok (.new 92, 3) := by decide +kernel
theorem dX12_give_X_12 : decode cX12_give 12 = .ok (.dup, 1) := by decide +kernel
theorem dX12_give_X_13 : decode cX12_give 13 = .ok (.invokespecial 94, 3) := by decide +kernel
theorem dX12_give_X_16 : decode cX12_give 16 = .ok (.athrow, 1) := by decide +kernel
def ww_X12_give_X : List Cond := [.classLink RX12 92 "java/lang/IndexOutOfBoundsException", .initialized "java/lang/IndexOutOfBoundsException"]
def wv_X12_give_X : List Cond := .code yX12_give cX12_give 14 (some .int) :: (ww_X12_give_X ++ ((vx_at0 RX12 94 "java/lang/IndexOutOfBoundsException" ["java/lang/RuntimeException", "java/lang/Exception"]).filter goodWord ++ []))
theorem wm_X12_give_X {w : Cond} (i : Nat) (h : ww_X12_give_X[i]? = some w) : w ∈ wv_X12_give_X := List.mem_cons_of_mem _ (List.mem_append_left _ (List.mem_of_getElem? h))
set_option maxRecDepth 100000 in
theorem gw_X12_give_X : wv_X12_give_X.all goodWord = true := by decide +kernel
theorem wx_X12_give_X_94 : ∀ w ∈ (vx_at0 RX12 94 "java/lang/IndexOutOfBoundsException" ["java/lang/RuntimeException", "java/lang/Exception"]).filter goodWord, w ∈ wv_X12_give_X := fun w h => List.mem_cons_of_mem _ (List.mem_append_right _ (List.mem_append_left _ h))
set_option maxHeartbeats 4000000 in
set_option maxRecDepth 100000 in
/-- give(k, ..) of no source: IndexOutOfBoundsException -/
theorem x_X12_give_X (l : Launch) (hl0 : l.stackTraces = false) (dC : Nat → ClassId) (dI : Nat → Nat → Nat) (h0 : Nat) (k1 k2 : Int32) (g1 g2 g3 g4 : Int64) (a0 a1 a2 a3 a4 a5 a6 a7 a8 : Value) (sz : Nat) : vx_Met l yX12_give wv_X12_give_X ({ frames := 6, cells := 1, slots := 6, locals := 81 }) (va_Pc [.ref h0, .int k1, .int k2, .long g1, .long g2, .long g3, .long g4] (fun U => U.heap.size = sz ∧ va_P (dC, dI) vwCl [(h0, .inr (12, [a0, a1, a2, a3, a4, a5, a6, a7, a8]))] U.heap ∧ va_K (dC, dI) vwCl [] U ∧ va_D (fun _ => True) [(h0, .inr (12, [a0, a1, a2, a3, a4, a5, a6, a7, a8]))] ∧ xz_F U ∧ xz_Z (va_A [(h0, .inr (12, [a0, a1, a2, a3, a4, a5, a6, a7, a8]))] sz) U U.heap ∧ (k1 < 0 ∨ 4 ≤ k1))) (va_Qi (fun _ (_ : Unit) => False) (fun _ _ => True) (va_A [(h0, .inr (12, [a0, a1, a2, a3, a4, a5, a6, a7, a8]))] sz)) (vx_X (fun _ : Unit => True) (ax_X12_give_X dC dI (va_A [(h0, .inr (12, [a0, a1, a2, a3, a4, a5, a6, a7, a8]))] sz) h0 k1 k2 g1 g2 g3 g4 a0 a1 a2 a3 a4 a5 a6 a7 a8) (va_A [(h0, .inr (12, [a0, a1, a2, a3, a4, a5, a6, a7, a8]))] sz)) 1 6 (va_A [(h0, .inr (12, [a0, a1, a2, a3, a4, a5, a6, a7, a8]))] sz) := by
  refine vx_ofW (cc := cX12_give) (maxL := 14) (ret := (some .int)) (by decide) rfl ?_
  intro p e s m args below meth c s₁ B hml hex hv
  obtain ⟨rfl, hsz, hP, hK, hD0, hF9, hZ9, hpre⟩ := hv
  have hx := B.exec
  have hb := B.bytes
  have hr := B.returns
  have hts := atoms_spec (ws := wv_X12_give_X) B.pre
  have hown : s.vm.findClass RX12 = some m.cls := findClass_of_methodNamed B.named
  have hlocks := B.notSynchronized
  subst hsz
  have hD := hD0.self (sz := s.heap.size)
  generalize hAe : va_A [(h0, .inr (12, [a0, a1, a2, a3, a4, a5, a6, a7, a8]))] s.heap.size = A at hD hZ9 ⊢
  have hA : ∀ q : Nat, s.heap.size ≤ q → A q := fun q h => by rw [← hAe]; exact Or.inr h
  have hS : va_S A s.heap s.heap [] := va_S.rf
  have hP : va_P (dC, dI) vwCl [(h0, .inr (12, [a0, a1, a2, a3, a4, a5, a6, a7, a8]))] s.heap := hP
  have hl := lv_entry ([.ref h0, .int k1, .int k2, .long g1, .long g2, .long g3, .long g4]) (n := 14) (Nat.le_of_ble_eq_true rfl)
  rw [lg_entry_eq]
  generalize (lg_sl ([.ref h0, .int k1, .int k2, .long g1, .long g2, .long g3, .long g4]) ++ List.replicate (14 - (lg_sl ([.ref h0, .int k1, .int k2, .long g1, .long g2, .long g3, .long g4])).length) Slot.unset).toArray = ls at hl ⊢
  have hl : lv_has ls 14 [(0, .ref h0), (1, .int k1), (2, .int k2), (3, .long g1), (5, .long g2), (7, .long g3), (9, .long g4)] := hl
  have hout : ∀ {k : Nat}, ∀ x ∈ c.exceptionTable.toList, covers x k = false := fun x h => (hex x h).elim
  refine lv_iload_n hx hb dX12_give_X_0 rfl (lv_at hl 1 rfl) ?_
  refine lv_if_lt (tgt := 9) hx hb dX12_give_X_1 (by decide) (fun hc => ?_) (fun hc => ?_)
  · have h_1 : 1 ≤ 1 := by decide
    have h_2 : 6 ≤ 6 := by decide
    have hat9 : ∀ w ∈ vx_at0 RX12 94 "java/lang/IndexOutOfBoundsException" ["java/lang/RuntimeException", "java/lang/Exception"], w.before _ s = true := vx_hat (B := [.declares (Bundle.init0 "java/lang/RuntimeException"), .declares (Bundle.init0 "java/lang/Exception"), .declares (Bundle.init0 Bundle.tN), .castable "java/lang/IndexOutOfBoundsException" "java/lang/IndexOutOfBoundsException"]) (fun w hw => hts w (wx_X12_give_X_94 w hw)) (by decide +kernel) (vx_c (va_Nw.use rfl hF9.1) (vx_c (va_Nw.use rfl hF9.2.1) (vx_c (va_Nw.use rfl hF9.2.2.1) (vx_c (va_Nw.use rfl hF9.2.2.2.2.2.1) vx_n))))
    have hP9 := hP.sub (ws' := [(h0, .inr (12, [a0, a1, a2, a3, a4, a5, a6, a7, a8]))]) [0] rfl
    have hD9 := hD.sub (ws' := [(h0, .inr (12, [a0, a1, a2, a3, a4, a5, a6, a7, a8]))]) [0] (by decide) rfl
    have hK9 := hK.sub (tys' := []) [] rfl
    exact vx_throw0 (A := A) hx hb hl0 hown (by decide +kernel) (by decide +kernel) (hts (.classLink RX12 92 "java/lang/IndexOutOfBoundsException") (wm_X12_give_X 0 rfl)) (hts (.initialized "java/lang/IndexOutOfBoundsException") (wm_X12_give_X 1 rfl)) hat9 (by decide +kernel) hZ9.1 hZ9.2 hS (hl.1.trans hml.symm) dX12_give_X_9 dX12_give_X_12 dX12_give_X_13 dX12_give_X_16 hout (by decide) (by decide) h_1 h_2 hlocks (fun t9 ha9 hz9 hk9 => ⟨(), trivial, ⟨rfl, (xz_keep hS hP9 hz9 hk9).1, va_K.moved ha9 hK9, hD9⟩, (xz_keep hS hP9 hz9 hk9).2⟩) hS.2.2 (by decide) (by decide)
  · refine lv_iload_n hx hb dX12_give_X_4 rfl (lv_at hl 1 rfl) ?_
    refine lv_iconst (v := 4) hx hb dX12_give_X_5 (by decide) ?_
    refine lv_icmp_lt (tgt := 17) hx hb dX12_give_X_6 (by decide) (fun h9 => absurd h9 (by rcases hpre with h | h; exact absurd h hc; exact Int32.not_lt.mpr h)) (fun _ => ?_)
    have h_3 : 1 ≤ 1 := by decide
    have h_4 : 6 ≤ 6 := by decide
    have hat9 : ∀ w ∈ vx_at0 RX12 94 "java/lang/IndexOutOfBoundsException" ["java/lang/RuntimeException", "java/lang/Exception"], w.before _ s = true := vx_hat (B := [.declares (Bundle.init0 "java/lang/RuntimeException"), .declares (Bundle.init0 "java/lang/Exception"), .declares (Bundle.init0 Bundle.tN), .castable "java/lang/IndexOutOfBoundsException" "java/lang/IndexOutOfBoundsException"]) (fun w hw => hts w (wx_X12_give_X_94 w hw)) (by decide +kernel) (vx_c (va_Nw.use rfl hF9.1) (vx_c (va_Nw.use rfl hF9.2.1) (vx_c (va_Nw.use rfl hF9.2.2.1) (vx_c (va_Nw.use rfl hF9.2.2.2.2.2.1) vx_n))))
    have hP9 := hP.sub (ws' := [(h0, .inr (12, [a0, a1, a2, a3, a4, a5, a6, a7, a8]))]) [0] rfl
    have hD9 := hD.sub (ws' := [(h0, .inr (12, [a0, a1, a2, a3, a4, a5, a6, a7, a8]))]) [0] (by decide) rfl
    have hK9 := hK.sub (tys' := []) [] rfl
    exact vx_throw0 (A := A) hx hb hl0 hown (by decide +kernel) (by decide +kernel) (hts (.classLink RX12 92 "java/lang/IndexOutOfBoundsException") (wm_X12_give_X 0 rfl)) (hts (.initialized "java/lang/IndexOutOfBoundsException") (wm_X12_give_X 1 rfl)) hat9 (by decide +kernel) hZ9.1 hZ9.2 hS (hl.1.trans hml.symm) dX12_give_X_9 dX12_give_X_12 dX12_give_X_13 dX12_give_X_16 hout (by decide) (by decide) h_3 h_4 hlocks (fun t9 ha9 hz9 hk9 => ⟨(), trivial, ⟨rfl, (xz_keep hS hP9 hz9 hk9).1, va_K.moved ha9 hK9, hD9⟩, (xz_keep hS hP9 hz9 hk9).2⟩) hS.2.2 (by decide) (by decide)

abbrev ax_X12_close_S (dC : Nat → ClassId) (dI : Nat → Nat → Nat) (A : Nat → Prop) (h0 h4 h5 : Nat) (k1 : Int32) (cB : ClassId) (f1 : Nat → Int32) (a0 a1 a2 a3 a5 a6 a7 a8 b0 b1 b2 b3 b5 b6 b7 b8 b9 b10 b11 b12 b13 : Value) (E : String) (_ : Unit) (t : State) : Prop := E = "java/lang/IllegalStateException" ∧ va_P (dC, dI) vwCl [(h0, .inr (12, [a0, a1, a2, a3, .ref h4, a5, a6, a7, a8])), (h4, .inr (4, [b0, b1, b2, b3, .ref h5, b5, b6, b7, b8, b9, b10, b11, b12, b13])), (h5, .inl (cB, 4, .inl f1))] t.heap ∧ va_K (dC, dI) vwCl [(cB, .int)] t ∧ va_D A [(h0, .inr (12, [a0, a1, a2, a3, .ref h4, a5, a6, a7, a8])), (h4, .inr (4, [b0, b1, b2, b3, .ref h5, b5, b6, b7, b8, b9, b10, b11, b12, b13])), (h5, .inl (cB, 4, .inl f1))]
theorem dX12_close_S_0 : decode cX12_close 0 = .ok (.iload_n 1, 1) := by decide +kernel
theorem dX12_close_S_1 : decode cX12_close 1 = .ok (.ifCond .lt 8, 3) := by decide +kernel
theorem dX12_close_S_4 : decode cX12_close 4 = .ok (.iload_n 1, 1) := by decide +kernel
theorem dX12_close_S_5 : decode cX12_close 5 = .ok (.iconst 4, 1) := by decide +kernel
theorem dX12_close_S_6 : decode cX12_close 6 = .ok (.if_icmp .lt 11, 3) := by decide +kernel
theorem dX12_close_S_17 : decode cX12_close 17 = .ok (.aload_n 0, 1) := by decide +kernel
theorem dX12_close_S_18 : decode cX12_close 18 = .ok (.getfield 30, 3) := by decide +kernel
theorem dX12_close_S_21 : decode cX12_close 21 = .ok (.getfield 117, 3) := by decide +kernel
theorem dX12_close_S_24 : decode cX12_close 24 = .ok (.iload_n 1, 1) := by decide +kernel
theorem dX12_close_S_25 : decode cX12_close 25 = .ok (.iaload, 1) := by decide +kernel
theorem dX12_close_S_26 : decode cX12_close 26 = .ok (.iconst (-1), 1) := by decide +kernel
theorem dX12_close_S_27 : decode cX12_close 27 = .ok (.if_icmp .ne 11, 3) := by decide +kernel
theorem dX12_close_S_30 : decode cX12_close 30 = .ok (.new 76, 3) := by decide +kernel
theorem dX12_close_S_33 : decode cX12_close 33 = .ok (.dup, 1) := by decide +kernel
theorem dX12_close_S_34 : decode cX12_close 34 = .ok (.invokespecial 78, 3) := by decide +kernel
theorem dX12_close_S_37 : decode cX12_close 37 = .ok (.athrow, 1) := by decide +kernel
def ww_X12_close_S : List Cond := [.fieldLink RX12 30 "StreamHouse" "current" "LStreamHouse$Job;", .fieldLink RX12 117 "StreamHouse$Job" "sourceOps" "[I", .classLink RX12 76 "java/lang/IllegalStateException", .initialized "java/lang/IllegalStateException"]
def wv_X12_close_S : List Cond := .code yX12_close cX12_close 3 (some .boolean) :: (ww_X12_close_S ++ (u_ws RX12 TX12 9 ++ (u_ws RX4 TX4 14 ++ ((vx_at0 RX12 78 "java/lang/IllegalStateException" ["java/lang/RuntimeException", "java/lang/Exception"]).filter goodWord ++ []))))
theorem wm_X12_close_S {w : Cond} (i : Nat) (h : ww_X12_close_S[i]? = some w) : w ∈ wv_X12_close_S := List.mem_cons_of_mem _ (List.mem_append_left _ (List.mem_of_getElem? h))
set_option maxRecDepth 100000 in
theorem gw_X12_close_S : wv_X12_close_S.all goodWord = true := by decide +kernel
theorem wh_X12_close_S_X12 : ∀ w ∈ u_ws RX12 TX12 9, w ∈ wv_X12_close_S := fun w h => List.mem_cons_of_mem _ (List.mem_append_right _ (List.mem_append_left _ h))
theorem wh_X12_close_S_X4 : ∀ w ∈ u_ws RX4 TX4 14, w ∈ wv_X12_close_S := fun w h => List.mem_cons_of_mem _ (List.mem_append_right _ (List.mem_append_right _ (List.mem_append_left _ h)))
theorem wx_X12_close_S_78 : ∀ w ∈ (vx_at0 RX12 78 "java/lang/IllegalStateException" ["java/lang/RuntimeException", "java/lang/Exception"]).filter goodWord, w ∈ wv_X12_close_S := fun w h => List.mem_cons_of_mem _ (List.mem_append_right _ (List.mem_append_right _ (List.mem_append_right _ (List.mem_append_left _ h))))
set_option maxHeartbeats 4000000 in
set_option maxRecDepth 100000 in
/-- close(k) where there is no job: IllegalStateException -/
theorem x_X12_close_S (l : Launch) (hl0 : l.stackTraces = false) (dC : Nat → ClassId) (dI : Nat → Nat → Nat) (h0 h4 h5 : Nat) (k1 : Int32) (cB : ClassId) (f1 : Nat → Int32) (a0 a1 a2 a3 a5 a6 a7 a8 b0 b1 b2 b3 b5 b6 b7 b8 b9 b10 b11 b12 b13 : Value) (sz : Nat) : vx_Met l yX12_close wv_X12_close_S ({ frames := 6, cells := 1, slots := 6, locals := 81 }) (va_Pc [.ref h0, .int k1] (fun U => U.heap.size = sz ∧ va_P (dC, dI) vwCl [(h0, .inr (12, [a0, a1, a2, a3, .ref h4, a5, a6, a7, a8])), (h4, .inr (4, [b0, b1, b2, b3, .ref h5, b5, b6, b7, b8, b9, b10, b11, b12, b13])), (h5, .inl (cB, 4, .inl f1))] U.heap ∧ va_K (dC, dI) vwCl [(cB, .int)] U ∧ va_D (fun _ => True) [(h0, .inr (12, [a0, a1, a2, a3, .ref h4, a5, a6, a7, a8])), (h4, .inr (4, [b0, b1, b2, b3, .ref h5, b5, b6, b7, b8, b9, b10, b11, b12, b13])), (h5, .inl (cB, 4, .inl f1))] ∧ xz_F U ∧ xz_Z (va_A [(h0, .inr (12, [a0, a1, a2, a3, .ref h4, a5, a6, a7, a8])), (h4, .inr (4, [b0, b1, b2, b3, .ref h5, b5, b6, b7, b8, b9, b10, b11, b12, b13])), (h5, .inl (cB, 4, .inl f1))] sz) U U.heap ∧ (¬ k1 < 0 ∧ k1 < 4 ∧ vp_in k1 4 ∧ f1 k1.toNatClampNeg = (-1)))) (va_Qi (fun _ (_ : Unit) => False) (fun _ _ => True) (va_A [(h0, .inr (12, [a0, a1, a2, a3, .ref h4, a5, a6, a7, a8])), (h4, .inr (4, [b0, b1, b2, b3, .ref h5, b5, b6, b7, b8, b9, b10, b11, b12, b13])), (h5, .inl (cB, 4, .inl f1))] sz)) (vx_X (fun _ : Unit => True) (ax_X12_close_S dC dI (va_A [(h0, .inr (12, [a0, a1, a2, a3, .ref h4, a5, a6, a7, a8])), (h4, .inr (4, [b0, b1, b2, b3, .ref h5, b5, b6, b7, b8, b9, b10, b11, b12, b13])), (h5, .inl (cB, 4, .inl f1))] sz) h0 h4 h5 k1 cB f1 a0 a1 a2 a3 a5 a6 a7 a8 b0 b1 b2 b3 b5 b6 b7 b8 b9 b10 b11 b12 b13) (va_A [(h0, .inr (12, [a0, a1, a2, a3, .ref h4, a5, a6, a7, a8])), (h4, .inr (4, [b0, b1, b2, b3, .ref h5, b5, b6, b7, b8, b9, b10, b11, b12, b13])), (h5, .inl (cB, 4, .inl f1))] sz)) 1 6 (va_A [(h0, .inr (12, [a0, a1, a2, a3, .ref h4, a5, a6, a7, a8])), (h4, .inr (4, [b0, b1, b2, b3, .ref h5, b5, b6, b7, b8, b9, b10, b11, b12, b13])), (h5, .inl (cB, 4, .inl f1))] sz) := by
  refine vx_ofW (cc := cX12_close) (maxL := 3) (ret := (some .boolean)) (by decide) rfl ?_
  intro p e s m args below meth c s₁ B hml hex hv
  obtain ⟨rfl, hsz, hP, hK, hD0, hF9, hZ9, hpre⟩ := hv
  have hx := B.exec
  have hb := B.bytes
  have hr := B.returns
  have hts := atoms_spec (ws := wv_X12_close_S) B.pre
  have hown : s.vm.findClass RX12 = some m.cls := findClass_of_methodNamed B.named
  have hlocks := B.notSynchronized
  subst hsz
  have hD := hD0.self (sz := s.heap.size)
  generalize hAe : va_A [(h0, .inr (12, [a0, a1, a2, a3, .ref h4, a5, a6, a7, a8])), (h4, .inr (4, [b0, b1, b2, b3, .ref h5, b5, b6, b7, b8, b9, b10, b11, b12, b13])), (h5, .inl (cB, 4, .inl f1))] s.heap.size = A at hD hZ9 ⊢
  have hA : ∀ q : Nat, s.heap.size ≤ q → A q := fun q h => by rw [← hAe]; exact Or.inr h
  have hS : va_S A s.heap s.heap [] := va_S.rf
  have hP : va_P (dC, dI) vwCl [(h0, .inr (12, [a0, a1, a2, a3, .ref h4, a5, a6, a7, a8])), (h4, .inr (4, [b0, b1, b2, b3, .ref h5, b5, b6, b7, b8, b9, b10, b11, b12, b13])), (h5, .inl (cB, 4, .inl f1))] s.heap := hP
  have hl := lv_entry ([.ref h0, .int k1]) (n := 3) (Nat.le_of_ble_eq_true rfl)
  rw [lg_entry_eq]
  generalize (lg_sl ([.ref h0, .int k1]) ++ List.replicate (3 - (lg_sl ([.ref h0, .int k1])).length) Slot.unset).toArray = ls at hl ⊢
  have hl : lv_has ls 3 [(0, .ref h0), (1, .int k1)] := hl
  have hout : ∀ {k : Nat}, ∀ x ∈ c.exceptionTable.toList, covers x k = false := fun x h => (hex x h).elim
  refine lv_iload_n hx hb dX12_close_S_0 rfl (lv_at hl 1 rfl) ?_
  refine lv_if_lt (tgt := 9) hx hb dX12_close_S_1 (by decide) (fun h9 => absurd h9 hpre.1) (fun _ => ?_)
  refine lv_iload_n hx hb dX12_close_S_4 rfl (lv_at hl 1 rfl) ?_
  refine lv_iconst (v := 4) hx hb dX12_close_S_5 (by decide) ?_
  refine lv_icmp_lt (tgt := 17) hx hb dX12_close_S_6 (by decide) (fun _ => ?_) (fun h9 => absurd hpre.2.1 h9)
  refine lv_aload_n hx hb dX12_close_S_17 rfl (lv_at hl 0 rfl) ?_
  refine va_get (D := (dC, dI)) (ci := 12) (v := .ref h4) (C := RX12) (T := TX12) (N := 9) hx hb hts wh_X12_close_S_X12 hown hK hP 0 rfl rfl 4 (by decide) (hts (.fieldLink RX12 30 "StreamHouse" "current" "LStreamHouse$Job;") (wm_X12_close_S 0 rfl)) (fun _ h9 => h9) rfl dX12_close_S_18 ?_
  refine va_get (D := (dC, dI)) (ci := 4) (v := .ref h5) (C := RX4) (T := TX4) (N := 14) hx hb hts wh_X12_close_S_X4 hown hK hP 1 rfl rfl 4 (by decide) (hts (.fieldLink RX12 117 "StreamHouse$Job" "sourceOps" "[I") (wm_X12_close_S 1 rfl)) (fun _ h9 => h9) rfl dX12_close_S_21 ?_
  refine lv_iload_n hx hb dX12_close_S_24 rfl (lv_at hl 1 rfl) ?_
  refine va_iald hx hb hK hP 2 0 rfl rfl hpre.2.2.1 dX12_close_S_25 ?_
  refine lv_iconst (v := (-1)) hx hb dX12_close_S_26 (by decide) ?_
  refine lv_icmp_ne (tgt := 38) hx hb dX12_close_S_27 (by decide) (fun h9 => absurd hpre.2.2.2 h9) (fun _ => ?_)
  have h_1 : 1 ≤ 1 := by decide
  have h_2 : 6 ≤ 6 := by decide
  have hat9 : ∀ w ∈ vx_at0 RX12 78 "java/lang/IllegalStateException" ["java/lang/RuntimeException", "java/lang/Exception"], w.before _ s = true := vx_hat (B := [.declares (Bundle.init0 "java/lang/RuntimeException"), .declares (Bundle.init0 "java/lang/Exception"), .declares (Bundle.init0 Bundle.tN), .castable "java/lang/IllegalStateException" "java/lang/IllegalStateException"]) (fun w hw => hts w (wx_X12_close_S_78 w hw)) (by decide +kernel) (vx_c (va_Nw.use rfl hF9.1) (vx_c (va_Nw.use rfl hF9.2.1) (vx_c (va_Nw.use rfl hF9.2.2.1) (vx_c (va_Nw.use rfl hF9.2.2.2.1) vx_n))))
  have hP9 := hP.sub (ws' := [(h0, .inr (12, [a0, a1, a2, a3, .ref h4, a5, a6, a7, a8])), (h4, .inr (4, [b0, b1, b2, b3, .ref h5, b5, b6, b7, b8, b9, b10, b11, b12, b13])), (h5, .inl (cB, 4, .inl f1))]) [0, 1, 2] rfl
  have hD9 := hD.sub (ws' := [(h0, .inr (12, [a0, a1, a2, a3, .ref h4, a5, a6, a7, a8])), (h4, .inr (4, [b0, b1, b2, b3, .ref h5, b5, b6, b7, b8, b9, b10, b11, b12, b13])), (h5, .inl (cB, 4, .inl f1))]) [0, 1, 2] (by decide) rfl
  have hK9 := hK.sub (tys' := [(cB, .int)]) [0] rfl
  exact vx_throw0 (A := A) hx hb hl0 hown (by decide +kernel) (by decide +kernel) (hts (.classLink RX12 76 "java/lang/IllegalStateException") (wm_X12_close_S 2 rfl)) (hts (.initialized "java/lang/IllegalStateException") (wm_X12_close_S 3 rfl)) hat9 (by decide +kernel) hZ9.1 hZ9.2 hS (hl.1.trans hml.symm) dX12_close_S_30 dX12_close_S_33 dX12_close_S_34 dX12_close_S_37 hout (by decide) (by decide) h_1 h_2 hlocks (fun t9 ha9 hz9 hk9 => ⟨(), trivial, ⟨rfl, (xz_keep hS hP9 hz9 hk9).1, va_K.moved ha9 hK9, hD9⟩, (xz_keep hS hP9 hz9 hk9).2⟩) hS.2.2 (by decide) (by decide)

abbrev ax_X12_give_S (dC : Nat → ClassId) (dI : Nat → Nat → Nat) (A : Nat → Prop) (h0 h4 h5 : Nat) (k1 k2 : Int32) (g1 g2 g3 g4 : Int64) (cB : ClassId) (f1 : Nat → Int32) (a0 a1 a2 a3 a5 a6 a7 a8 b0 b1 b2 b3 b5 b6 b7 b8 b9 b10 b11 b12 b13 : Value) (E : String) (_ : Unit) (t : State) : Prop := E = "java/lang/IllegalStateException" ∧ va_P (dC, dI) vwCl [(h0, .inr (12, [a0, a1, a2, a3, .ref h4, a5, a6, a7, a8])), (h4, .inr (4, [b0, b1, b2, b3, .ref h5, b5, b6, b7, b8, b9, b10, b11, b12, b13])), (h5, .inl (cB, 4, .inl f1))] t.heap ∧ va_K (dC, dI) vwCl [(cB, .int)] t ∧ va_D A [(h0, .inr (12, [a0, a1, a2, a3, .ref h4, a5, a6, a7, a8])), (h4, .inr (4, [b0, b1, b2, b3, .ref h5, b5, b6, b7, b8, b9, b10, b11, b12, b13])), (h5, .inl (cB, 4, .inl f1))]
theorem dX12_give_S_0 : decode cX12_give 0 = .ok (.iload_n 1, 1) := by decide +kernel
theorem dX12_give_S_1 : decode cX12_give 1 = .ok (.ifCond .lt 8, 3) := by decide +kernel
theorem dX12_give_S_4 : decode cX12_give 4 = .ok (.iload_n 1, 1) := by decide +kernel
theorem dX12_give_S_5 : decode cX12_give 5 = .ok (.iconst 4, 1) := by decide +kernel
theorem dX12_give_S_6 : decode cX12_give 6 = .ok (.if_icmp .lt 11, 3) := by decide +kernel
theorem dX12_give_S_17 : decode cX12_give 17 = .ok (.aload_n 0, 1) := by decide +kernel
theorem dX12_give_S_18 : decode cX12_give 18 = .ok (.getfield 30, 3) := by decide +kernel
theorem dX12_give_S_21 : decode cX12_give 21 = .ok (.getfield 117, 3) := by decide +kernel
theorem dX12_give_S_24 : decode cX12_give 24 = .ok (.iload_n 1, 1) := by decide +kernel
theorem dX12_give_S_25 : decode cX12_give 25 = .ok (.iaload, 1) := by decide +kernel
theorem dX12_give_S_26 : decode cX12_give 26 = .ok (.iconst (-1), 1) := by decide +kernel
theorem dX12_give_S_27 : decode cX12_give 27 = .ok (.if_icmp .eq 15, 3) := by decide +kernel
theorem dX12_give_S_42 : decode cX12_give 42 = .ok (.new 76, 3) := by decide +kernel
theorem dX12_give_S_45 : decode cX12_give 45 = .ok (.dup, 1) := by decide +kernel
theorem dX12_give_S_46 : decode cX12_give 46 = .ok (.invokespecial 78, 3) := by decide +kernel
theorem dX12_give_S_49 : decode cX12_give 49 = .ok (.athrow, 1) := by decide +kernel
def ww_X12_give_S : List Cond := [.fieldLink RX12 30 "StreamHouse" "current" "LStreamHouse$Job;", .fieldLink RX12 117 "StreamHouse$Job" "sourceOps" "[I", .classLink RX12 76 "java/lang/IllegalStateException", .initialized "java/lang/IllegalStateException"]
def wv_X12_give_S : List Cond := .code yX12_give cX12_give 14 (some .int) :: (ww_X12_give_S ++ (u_ws RX12 TX12 9 ++ (u_ws RX4 TX4 14 ++ ((vx_at0 RX12 78 "java/lang/IllegalStateException" ["java/lang/RuntimeException", "java/lang/Exception"]).filter goodWord ++ []))))
theorem wm_X12_give_S {w : Cond} (i : Nat) (h : ww_X12_give_S[i]? = some w) : w ∈ wv_X12_give_S := List.mem_cons_of_mem _ (List.mem_append_left _ (List.mem_of_getElem? h))
set_option maxRecDepth 100000 in
theorem gw_X12_give_S : wv_X12_give_S.all goodWord = true := by decide +kernel
theorem wh_X12_give_S_X12 : ∀ w ∈ u_ws RX12 TX12 9, w ∈ wv_X12_give_S := fun w h => List.mem_cons_of_mem _ (List.mem_append_right _ (List.mem_append_left _ h))
theorem wh_X12_give_S_X4 : ∀ w ∈ u_ws RX4 TX4 14, w ∈ wv_X12_give_S := fun w h => List.mem_cons_of_mem _ (List.mem_append_right _ (List.mem_append_right _ (List.mem_append_left _ h)))
theorem wx_X12_give_S_78 : ∀ w ∈ (vx_at0 RX12 78 "java/lang/IllegalStateException" ["java/lang/RuntimeException", "java/lang/Exception"]).filter goodWord, w ∈ wv_X12_give_S := fun w h => List.mem_cons_of_mem _ (List.mem_append_right _ (List.mem_append_right _ (List.mem_append_right _ (List.mem_append_left _ h))))
set_option maxHeartbeats 4000000 in
set_option maxRecDepth 100000 in
/-- give(k, ..) where there is no job: IllegalStateException -/
theorem x_X12_give_S (l : Launch) (hl0 : l.stackTraces = false) (dC : Nat → ClassId) (dI : Nat → Nat → Nat) (h0 h4 h5 : Nat) (k1 k2 : Int32) (g1 g2 g3 g4 : Int64) (cB : ClassId) (f1 : Nat → Int32) (a0 a1 a2 a3 a5 a6 a7 a8 b0 b1 b2 b3 b5 b6 b7 b8 b9 b10 b11 b12 b13 : Value) (sz : Nat) : vx_Met l yX12_give wv_X12_give_S ({ frames := 6, cells := 1, slots := 6, locals := 81 }) (va_Pc [.ref h0, .int k1, .int k2, .long g1, .long g2, .long g3, .long g4] (fun U => U.heap.size = sz ∧ va_P (dC, dI) vwCl [(h0, .inr (12, [a0, a1, a2, a3, .ref h4, a5, a6, a7, a8])), (h4, .inr (4, [b0, b1, b2, b3, .ref h5, b5, b6, b7, b8, b9, b10, b11, b12, b13])), (h5, .inl (cB, 4, .inl f1))] U.heap ∧ va_K (dC, dI) vwCl [(cB, .int)] U ∧ va_D (fun _ => True) [(h0, .inr (12, [a0, a1, a2, a3, .ref h4, a5, a6, a7, a8])), (h4, .inr (4, [b0, b1, b2, b3, .ref h5, b5, b6, b7, b8, b9, b10, b11, b12, b13])), (h5, .inl (cB, 4, .inl f1))] ∧ xz_F U ∧ xz_Z (va_A [(h0, .inr (12, [a0, a1, a2, a3, .ref h4, a5, a6, a7, a8])), (h4, .inr (4, [b0, b1, b2, b3, .ref h5, b5, b6, b7, b8, b9, b10, b11, b12, b13])), (h5, .inl (cB, 4, .inl f1))] sz) U U.heap ∧ (¬ k1 < 0 ∧ k1 < 4 ∧ vp_in k1 4 ∧ f1 k1.toNatClampNeg = (-1)))) (va_Qi (fun _ (_ : Unit) => False) (fun _ _ => True) (va_A [(h0, .inr (12, [a0, a1, a2, a3, .ref h4, a5, a6, a7, a8])), (h4, .inr (4, [b0, b1, b2, b3, .ref h5, b5, b6, b7, b8, b9, b10, b11, b12, b13])), (h5, .inl (cB, 4, .inl f1))] sz)) (vx_X (fun _ : Unit => True) (ax_X12_give_S dC dI (va_A [(h0, .inr (12, [a0, a1, a2, a3, .ref h4, a5, a6, a7, a8])), (h4, .inr (4, [b0, b1, b2, b3, .ref h5, b5, b6, b7, b8, b9, b10, b11, b12, b13])), (h5, .inl (cB, 4, .inl f1))] sz) h0 h4 h5 k1 k2 g1 g2 g3 g4 cB f1 a0 a1 a2 a3 a5 a6 a7 a8 b0 b1 b2 b3 b5 b6 b7 b8 b9 b10 b11 b12 b13) (va_A [(h0, .inr (12, [a0, a1, a2, a3, .ref h4, a5, a6, a7, a8])), (h4, .inr (4, [b0, b1, b2, b3, .ref h5, b5, b6, b7, b8, b9, b10, b11, b12, b13])), (h5, .inl (cB, 4, .inl f1))] sz)) 1 6 (va_A [(h0, .inr (12, [a0, a1, a2, a3, .ref h4, a5, a6, a7, a8])), (h4, .inr (4, [b0, b1, b2, b3, .ref h5, b5, b6, b7, b8, b9, b10, b11, b12, b13])), (h5, .inl (cB, 4, .inl f1))] sz) := by
  refine vx_ofW (cc := cX12_give) (maxL := 14) (ret := (some .int)) (by decide) rfl ?_
  intro p e s m args below meth c s₁ B hml hex hv
  obtain ⟨rfl, hsz, hP, hK, hD0, hF9, hZ9, hpre⟩ := hv
  have hx := B.exec
  have hb := B.bytes
  have hr := B.returns
  have hts := atoms_spec (ws := wv_X12_give_S) B.pre
  have hown : s.vm.findClass RX12 = some m.cls := findClass_of_methodNamed B.named
  have hlocks := B.notSynchronized
  subst hsz
  have hD := hD0.self (sz := s.heap.size)
  generalize hAe : va_A [(h0, .inr (12, [a0, a1, a2, a3, .ref h4, a5, a6, a7, a8])), (h4, .inr (4, [b0, b1, b2, b3, .ref h5, b5, b6, b7, b8, b9, b10, b11, b12, b13])), (h5, .inl (cB, 4, .inl f1))] s.heap.size = A at hD hZ9 ⊢
  have hA : ∀ q : Nat, s.heap.size ≤ q → A q := fun q h => by rw [← hAe]; exact Or.inr h
  have hS : va_S A s.heap s.heap [] := va_S.rf
  have hP : va_P (dC, dI) vwCl [(h0, .inr (12, [a0, a1, a2, a3, .ref h4, a5, a6, a7, a8])), (h4, .inr (4, [b0, b1, b2, b3, .ref h5, b5, b6, b7, b8, b9, b10, b11, b12, b13])), (h5, .inl (cB, 4, .inl f1))] s.heap := hP
  have hl := lv_entry ([.ref h0, .int k1, .int k2, .long g1, .long g2, .long g3, .long g4]) (n := 14) (Nat.le_of_ble_eq_true rfl)
  rw [lg_entry_eq]
  generalize (lg_sl ([.ref h0, .int k1, .int k2, .long g1, .long g2, .long g3, .long g4]) ++ List.replicate (14 - (lg_sl ([.ref h0, .int k1, .int k2, .long g1, .long g2, .long g3, .long g4])).length) Slot.unset).toArray = ls at hl ⊢
  have hl : lv_has ls 14 [(0, .ref h0), (1, .int k1), (2, .int k2), (3, .long g1), (5, .long g2), (7, .long g3), (9, .long g4)] := hl
  have hout : ∀ {k : Nat}, ∀ x ∈ c.exceptionTable.toList, covers x k = false := fun x h => (hex x h).elim
  refine lv_iload_n hx hb dX12_give_S_0 rfl (lv_at hl 1 rfl) ?_
  refine lv_if_lt (tgt := 9) hx hb dX12_give_S_1 (by decide) (fun h9 => absurd h9 hpre.1) (fun _ => ?_)
  refine lv_iload_n hx hb dX12_give_S_4 rfl (lv_at hl 1 rfl) ?_
  refine lv_iconst (v := 4) hx hb dX12_give_S_5 (by decide) ?_
  refine lv_icmp_lt (tgt := 17) hx hb dX12_give_S_6 (by decide) (fun _ => ?_) (fun h9 => absurd hpre.2.1 h9)
  refine lv_aload_n hx hb dX12_give_S_17 rfl (lv_at hl 0 rfl) ?_
  refine va_get (D := (dC, dI)) (ci := 12) (v := .ref h4) (C := RX12) (T := TX12) (N := 9) hx hb hts wh_X12_give_S_X12 hown hK hP 0 rfl rfl 4 (by decide) (hts (.fieldLink RX12 30 "StreamHouse" "current" "LStreamHouse$Job;") (wm_X12_give_S 0 rfl)) (fun _ h9 => h9) rfl dX12_give_S_18 ?_
  refine va_get (D := (dC, dI)) (ci := 4) (v := .ref h5) (C := RX4) (T := TX4) (N := 14) hx hb hts wh_X12_give_S_X4 hown hK hP 1 rfl rfl 4 (by decide) (hts (.fieldLink RX12 117 "StreamHouse$Job" "sourceOps" "[I") (wm_X12_give_S 1 rfl)) (fun _ h9 => h9) rfl dX12_give_S_21 ?_
  refine lv_iload_n hx hb dX12_give_S_24 rfl (lv_at hl 1 rfl) ?_
  refine va_iald hx hb hK hP 2 0 rfl rfl hpre.2.2.1 dX12_give_S_25 ?_
  refine lv_iconst (v := (-1)) hx hb dX12_give_S_26 (by decide) ?_
  refine lv_icmp_eq (tgt := 42) hx hb dX12_give_S_27 (by decide) (fun _ => ?_) (fun h9 => absurd hpre.2.2.2 h9)
  have h_1 : 1 ≤ 1 := by decide
  have h_2 : 6 ≤ 6 := by decide
  have hat9 : ∀ w ∈ vx_at0 RX12 78 "java/lang/IllegalStateException" ["java/lang/RuntimeException", "java/lang/Exception"], w.before _ s = true := vx_hat (B := [.declares (Bundle.init0 "java/lang/RuntimeException"), .declares (Bundle.init0 "java/lang/Exception"), .declares (Bundle.init0 Bundle.tN), .castable "java/lang/IllegalStateException" "java/lang/IllegalStateException"]) (fun w hw => hts w (wx_X12_give_S_78 w hw)) (by decide +kernel) (vx_c (va_Nw.use rfl hF9.1) (vx_c (va_Nw.use rfl hF9.2.1) (vx_c (va_Nw.use rfl hF9.2.2.1) (vx_c (va_Nw.use rfl hF9.2.2.2.1) vx_n))))
  have hP9 := hP.sub (ws' := [(h0, .inr (12, [a0, a1, a2, a3, .ref h4, a5, a6, a7, a8])), (h4, .inr (4, [b0, b1, b2, b3, .ref h5, b5, b6, b7, b8, b9, b10, b11, b12, b13])), (h5, .inl (cB, 4, .inl f1))]) [0, 1, 2] rfl
  have hD9 := hD.sub (ws' := [(h0, .inr (12, [a0, a1, a2, a3, .ref h4, a5, a6, a7, a8])), (h4, .inr (4, [b0, b1, b2, b3, .ref h5, b5, b6, b7, b8, b9, b10, b11, b12, b13])), (h5, .inl (cB, 4, .inl f1))]) [0, 1, 2] (by decide) rfl
  have hK9 := hK.sub (tys' := [(cB, .int)]) [0] rfl
  exact vx_throw0 (A := A) hx hb hl0 hown (by decide +kernel) (by decide +kernel) (hts (.classLink RX12 76 "java/lang/IllegalStateException") (wm_X12_give_S 2 rfl)) (hts (.initialized "java/lang/IllegalStateException") (wm_X12_give_S 3 rfl)) hat9 (by decide +kernel) hZ9.1 hZ9.2 hS (hl.1.trans hml.symm) dX12_give_S_42 dX12_give_S_45 dX12_give_S_46 dX12_give_S_49 hout (by decide) (by decide) h_1 h_2 hlocks (fun t9 ha9 hz9 hk9 => ⟨(), trivial, ⟨rfl, (xz_keep hS hP9 hz9 hk9).1, va_K.moved ha9 hK9, hD9⟩, (xz_keep hS hP9 hz9 hk9).2⟩) hS.2.2 (by decide) (by decide)

abbrev ax_X12_crash_A (dC : Nat → ClassId) (dI : Nat → Nat → Nat) (A : Nat → Prop) (h0 h7 h8 : Nat) (k1 : Int32) (a0 a1 a2 a3 a4 a5 a6 a8 b0 b1 b3 b4 b5 b6 b7 b8 b9 b10 b11 b12 b13 b14 b15 b16 b17 b18 b19 d0 d1 d2 d3 d4 d5 d6 d7 d8 : Value) (E : String) (_ : Unit) (t : State) : Prop := E = "java/lang/IllegalArgumentException" ∧ va_P (dC, dI) vwCl [(h0, .inr (12, [a0, a1, a2, a3, a4, a5, a6, .ref h7, a8])), (h7, .inr (9, [b0, b1, .ref h8, b3, b4, b5, b6, b7, b8, b9, b10, b11, b12, b13, b14, b15, b16, b17, b18, b19])), (h8, .inr (3, [d0, d1, d2, d3, d4, d5, d6, d7, d8, .int 0]))] t.heap ∧ va_K (dC, dI) vwCl [] t ∧ va_D A [(h0, .inr (12, [a0, a1, a2, a3, a4, a5, a6, .ref h7, a8])), (h7, .inr (9, [b0, b1, .ref h8, b3, b4, b5, b6, b7, b8, b9, b10, b11, b12, b13, b14, b15, b16, b17, b18, b19])), (h8, .inr (3, [d0, d1, d2, d3, d4, d5, d6, d7, d8, .int 0]))]
theorem dX12_crash_A_0 : decode cX12_crash 0 = .ok (.aload_n 0, 1) := by decide +kernel
theorem dX12_crash_A_1 : decode cX12_crash 1 = .ok (.getfield 49, 3) := by decide +kernel
theorem dX12_crash_A_4 : decode cX12_crash 4 = .ok (.getfield 66, 3) := by decide +kernel
theorem dX12_crash_A_7 : decode cX12_crash 7 = .ok (.getfield 70, 3) := by decide +kernel
theorem dX12_crash_A_10 : decode cX12_crash 10 = .ok (.ifCond .eq 11, 3) := by decide +kernel
theorem dX12_crash_A_21 : decode cX12_crash 21 = .ok (.iload_n 1, 1) := by decide +kernel
theorem dX12_crash_A_22 : decode cX12_crash 22 = .ok (.iconst (-1), 1) := by decide +kernel
theorem dX12_crash_A_23 : decode cX12_crash 23 = .ok (.if_icmp .ge 11, 3) := by decide +kernel
theorem dX12_crash_A_26 : decode cX12_crash 26 = .ok (.new 60, 3) := by decide +kernel
theorem dX12_crash_A_29 : decode cX12_crash 29 = .ok (.dup, 1) := by decide +kernel
theorem dX12_crash_A_30 : decode cX12_crash 30 = .ok (.invokespecial 62, 3) := by decide +kernel
theorem dX12_crash_A_33 : decode cX12_crash 33 = .ok (.athrow, 1) := by decide +kernel
def ww_X12_crash_A : List Cond := [.fieldLink RX12 49 "StreamHouse" "run" "LStreamHouse$Run;", .fieldLink RX12 66 "StreamHouse$Run" "disk" "LStreamHouse$Disk;", .fieldLink RX12 70 "StreamHouse$Disk" "down" "Z", .classLink RX12 60 "java/lang/IllegalArgumentException", .initialized "java/lang/IllegalArgumentException"]
def wv_X12_crash_A : List Cond := .code yX12_crash cX12_crash 2 none :: (ww_X12_crash_A ++ (u_ws RX12 TX12 9 ++ (u_ws RX9 TX9 20 ++ (u_ws RX3 TX3 10 ++ ((vx_at0 RX12 62 "java/lang/IllegalArgumentException" ["java/lang/RuntimeException", "java/lang/Exception"]).filter goodWord ++ [])))))
theorem wm_X12_crash_A {w : Cond} (i : Nat) (h : ww_X12_crash_A[i]? = some w) : w ∈ wv_X12_crash_A := List.mem_cons_of_mem _ (List.mem_append_left _ (List.mem_of_getElem? h))
set_option maxRecDepth 100000 in
theorem gw_X12_crash_A : wv_X12_crash_A.all goodWord = true := by decide +kernel
theorem wh_X12_crash_A_X12 : ∀ w ∈ u_ws RX12 TX12 9, w ∈ wv_X12_crash_A := fun w h => List.mem_cons_of_mem _ (List.mem_append_right _ (List.mem_append_left _ h))
theorem wh_X12_crash_A_X9 : ∀ w ∈ u_ws RX9 TX9 20, w ∈ wv_X12_crash_A := fun w h => List.mem_cons_of_mem _ (List.mem_append_right _ (List.mem_append_right _ (List.mem_append_left _ h)))
theorem wh_X12_crash_A_X3 : ∀ w ∈ u_ws RX3 TX3 10, w ∈ wv_X12_crash_A := fun w h => List.mem_cons_of_mem _ (List.mem_append_right _ (List.mem_append_right _ (List.mem_append_right _ (List.mem_append_left _ h))))
theorem wx_X12_crash_A_62 : ∀ w ∈ (vx_at0 RX12 62 "java/lang/IllegalArgumentException" ["java/lang/RuntimeException", "java/lang/Exception"]).filter goodWord, w ∈ wv_X12_crash_A := fun w h => List.mem_cons_of_mem _ (List.mem_append_right _ (List.mem_append_right _ (List.mem_append_right _ (List.mem_append_right _ (List.mem_append_left _ h)))))
set_option maxHeartbeats 4000000 in
set_option maxRecDepth 100000 in
/-- crash(k), k below NONE: IllegalArgumentException -/
theorem x_X12_crash_A (l : Launch) (hl0 : l.stackTraces = false) (dC : Nat → ClassId) (dI : Nat → Nat → Nat) (h0 h7 h8 : Nat) (k1 : Int32) (a0 a1 a2 a3 a4 a5 a6 a8 b0 b1 b3 b4 b5 b6 b7 b8 b9 b10 b11 b12 b13 b14 b15 b16 b17 b18 b19 d0 d1 d2 d3 d4 d5 d6 d7 d8 : Value) (sz : Nat) : vx_Met l yX12_crash wv_X12_crash_A ({ frames := 6, cells := 1, slots := 6, locals := 81 }) (va_Pc [.ref h0, .int k1] (fun U => U.heap.size = sz ∧ va_P (dC, dI) vwCl [(h0, .inr (12, [a0, a1, a2, a3, a4, a5, a6, .ref h7, a8])), (h7, .inr (9, [b0, b1, .ref h8, b3, b4, b5, b6, b7, b8, b9, b10, b11, b12, b13, b14, b15, b16, b17, b18, b19])), (h8, .inr (3, [d0, d1, d2, d3, d4, d5, d6, d7, d8, .int 0]))] U.heap ∧ va_K (dC, dI) vwCl [] U ∧ va_D (fun _ => True) [(h0, .inr (12, [a0, a1, a2, a3, a4, a5, a6, .ref h7, a8])), (h7, .inr (9, [b0, b1, .ref h8, b3, b4, b5, b6, b7, b8, b9, b10, b11, b12, b13, b14, b15, b16, b17, b18, b19])), (h8, .inr (3, [d0, d1, d2, d3, d4, d5, d6, d7, d8, .int 0]))] ∧ xz_F U ∧ xz_Z (va_A [(h0, .inr (12, [a0, a1, a2, a3, a4, a5, a6, .ref h7, a8])), (h7, .inr (9, [b0, b1, .ref h8, b3, b4, b5, b6, b7, b8, b9, b10, b11, b12, b13, b14, b15, b16, b17, b18, b19])), (h8, .inr (3, [d0, d1, d2, d3, d4, d5, d6, d7, d8, .int 0]))] sz) U U.heap ∧ k1 < (-1))) (va_Qv (fun _ : Unit => False) (fun _ _ => True) (va_A [(h0, .inr (12, [a0, a1, a2, a3, a4, a5, a6, .ref h7, a8])), (h7, .inr (9, [b0, b1, .ref h8, b3, b4, b5, b6, b7, b8, b9, b10, b11, b12, b13, b14, b15, b16, b17, b18, b19])), (h8, .inr (3, [d0, d1, d2, d3, d4, d5, d6, d7, d8, .int 0]))] sz)) (vx_X (fun _ : Unit => True) (ax_X12_crash_A dC dI (va_A [(h0, .inr (12, [a0, a1, a2, a3, a4, a5, a6, .ref h7, a8])), (h7, .inr (9, [b0, b1, .ref h8, b3, b4, b5, b6, b7, b8, b9, b10, b11, b12, b13, b14, b15, b16, b17, b18, b19])), (h8, .inr (3, [d0, d1, d2, d3, d4, d5, d6, d7, d8, .int 0]))] sz) h0 h7 h8 k1 a0 a1 a2 a3 a4 a5 a6 a8 b0 b1 b3 b4 b5 b6 b7 b8 b9 b10 b11 b12 b13 b14 b15 b16 b17 b18 b19 d0 d1 d2 d3 d4 d5 d6 d7 d8) (va_A [(h0, .inr (12, [a0, a1, a2, a3, a4, a5, a6, .ref h7, a8])), (h7, .inr (9, [b0, b1, .ref h8, b3, b4, b5, b6, b7, b8, b9, b10, b11, b12, b13, b14, b15, b16, b17, b18, b19])), (h8, .inr (3, [d0, d1, d2, d3, d4, d5, d6, d7, d8, .int 0]))] sz)) 1 6 (va_A [(h0, .inr (12, [a0, a1, a2, a3, a4, a5, a6, .ref h7, a8])), (h7, .inr (9, [b0, b1, .ref h8, b3, b4, b5, b6, b7, b8, b9, b10, b11, b12, b13, b14, b15, b16, b17, b18, b19])), (h8, .inr (3, [d0, d1, d2, d3, d4, d5, d6, d7, d8, .int 0]))] sz) := by
  refine vx_ofW (cc := cX12_crash) (maxL := 2) (ret := none) (by decide) rfl ?_
  intro p e s m args below meth c s₁ B hml hex hv
  obtain ⟨rfl, hsz, hP, hK, hD0, hF9, hZ9, hpre⟩ := hv
  have hx := B.exec
  have hb := B.bytes
  have hr := B.returns
  have hts := atoms_spec (ws := wv_X12_crash_A) B.pre
  have hown : s.vm.findClass RX12 = some m.cls := findClass_of_methodNamed B.named
  have hlocks := B.notSynchronized
  subst hsz
  have hD := hD0.self (sz := s.heap.size)
  generalize hAe : va_A [(h0, .inr (12, [a0, a1, a2, a3, a4, a5, a6, .ref h7, a8])), (h7, .inr (9, [b0, b1, .ref h8, b3, b4, b5, b6, b7, b8, b9, b10, b11, b12, b13, b14, b15, b16, b17, b18, b19])), (h8, .inr (3, [d0, d1, d2, d3, d4, d5, d6, d7, d8, .int 0]))] s.heap.size = A at hD hZ9 ⊢
  have hA : ∀ q : Nat, s.heap.size ≤ q → A q := fun q h => by rw [← hAe]; exact Or.inr h
  have hS : va_S A s.heap s.heap [] := va_S.rf
  have hP : va_P (dC, dI) vwCl [(h0, .inr (12, [a0, a1, a2, a3, a4, a5, a6, .ref h7, a8])), (h7, .inr (9, [b0, b1, .ref h8, b3, b4, b5, b6, b7, b8, b9, b10, b11, b12, b13, b14, b15, b16, b17, b18, b19])), (h8, .inr (3, [d0, d1, d2, d3, d4, d5, d6, d7, d8, .int 0]))] s.heap := hP
  have hl := lv_entry ([.ref h0, .int k1]) (n := 2) (Nat.le_of_ble_eq_true rfl)
  rw [lg_entry_eq]
  generalize (lg_sl ([.ref h0, .int k1]) ++ List.replicate (2 - (lg_sl ([.ref h0, .int k1])).length) Slot.unset).toArray = ls at hl ⊢
  have hl : lv_has ls 2 [(0, .ref h0), (1, .int k1)] := hl
  have hout : ∀ {k : Nat}, ∀ x ∈ c.exceptionTable.toList, covers x k = false := fun x h => (hex x h).elim
  refine lv_aload_n hx hb dX12_crash_A_0 rfl (lv_at hl 0 rfl) ?_
  refine va_get (D := (dC, dI)) (ci := 12) (v := .ref h7) (C := RX12) (T := TX12) (N := 9) hx hb hts wh_X12_crash_A_X12 hown hK hP 0 rfl rfl 7 (by decide) (hts (.fieldLink RX12 49 "StreamHouse" "run" "LStreamHouse$Run;") (wm_X12_crash_A 0 rfl)) (fun _ h9 => h9) rfl dX12_crash_A_1 ?_
  refine va_get (D := (dC, dI)) (ci := 9) (v := .ref h8) (C := RX9) (T := TX9) (N := 20) hx hb hts wh_X12_crash_A_X9 hown hK hP 1 rfl rfl 2 (by decide) (hts (.fieldLink RX12 66 "StreamHouse$Run" "disk" "LStreamHouse$Disk;") (wm_X12_crash_A 1 rfl)) (fun _ h9 => h9) rfl dX12_crash_A_4 ?_
  refine va_get (D := (dC, dI)) (ci := 3) (v := .int 0) (C := RX3) (T := TX3) (N := 10) hx hb hts wh_X12_crash_A_X3 hown hK hP 2 rfl rfl 9 (by decide) (hts (.fieldLink RX12 70 "StreamHouse$Disk" "down" "Z") (wm_X12_crash_A 2 rfl)) (fun _ h9 => h9) rfl dX12_crash_A_7 ?_
  refine lv_if_eq (tgt := 21) hx hb dX12_crash_A_10 (by decide) (fun _ => ?_) (fun h9 => absurd (by decide) h9)
  refine lv_iload_n hx hb dX12_crash_A_21 rfl (lv_at hl 1 rfl) ?_
  refine lv_iconst (v := (-1)) hx hb dX12_crash_A_22 (by decide) ?_
  refine lv_icmp_ge (tgt := 34) hx hb dX12_crash_A_23 (by decide) (fun h9 => absurd h9 (Int32.not_le.mpr hpre)) (fun _ => ?_)
  have h_1 : 1 ≤ 1 := by decide
  have h_2 : 6 ≤ 6 := by decide
  have hat9 : ∀ w ∈ vx_at0 RX12 62 "java/lang/IllegalArgumentException" ["java/lang/RuntimeException", "java/lang/Exception"], w.before _ s = true := vx_hat (B := [.declares (Bundle.init0 "java/lang/RuntimeException"), .declares (Bundle.init0 "java/lang/Exception"), .declares (Bundle.init0 Bundle.tN), .castable "java/lang/IllegalArgumentException" "java/lang/IllegalArgumentException"]) (fun w hw => hts w (wx_X12_crash_A_62 w hw)) (by decide +kernel) (vx_c (va_Nw.use rfl hF9.1) (vx_c (va_Nw.use rfl hF9.2.1) (vx_c (va_Nw.use rfl hF9.2.2.1) (vx_c (va_Nw.use rfl hF9.2.2.2.2.1) vx_n))))
  have hP9 := hP.sub (ws' := [(h0, .inr (12, [a0, a1, a2, a3, a4, a5, a6, .ref h7, a8])), (h7, .inr (9, [b0, b1, .ref h8, b3, b4, b5, b6, b7, b8, b9, b10, b11, b12, b13, b14, b15, b16, b17, b18, b19])), (h8, .inr (3, [d0, d1, d2, d3, d4, d5, d6, d7, d8, .int 0]))]) [0, 1, 2] rfl
  have hD9 := hD.sub (ws' := [(h0, .inr (12, [a0, a1, a2, a3, a4, a5, a6, .ref h7, a8])), (h7, .inr (9, [b0, b1, .ref h8, b3, b4, b5, b6, b7, b8, b9, b10, b11, b12, b13, b14, b15, b16, b17, b18, b19])), (h8, .inr (3, [d0, d1, d2, d3, d4, d5, d6, d7, d8, .int 0]))]) [0, 1, 2] (by decide) rfl
  have hK9 := hK.sub (tys' := []) [] rfl
  exact vx_throw0 (A := A) hx hb hl0 hown (by decide +kernel) (by decide +kernel) (hts (.classLink RX12 60 "java/lang/IllegalArgumentException") (wm_X12_crash_A 3 rfl)) (hts (.initialized "java/lang/IllegalArgumentException") (wm_X12_crash_A 4 rfl)) hat9 (by decide +kernel) hZ9.1 hZ9.2 hS (hl.1.trans hml.symm) dX12_crash_A_26 dX12_crash_A_29 dX12_crash_A_30 dX12_crash_A_33 hout (by decide) (by decide) h_1 h_2 hlocks (fun t9 ha9 hz9 hk9 => ⟨(), trivial, ⟨rfl, (xz_keep hS hP9 hz9 hk9).1, va_K.moved ha9 hK9, hD9⟩, (xz_keep hS hP9 hz9 hk9).2⟩) hS.2.2 (by decide) (by decide)

abbrev ax_X12_feed_A (dC : Nat → ClassId) (dI : Nat → Nat → Nat) (A : Nat → Prop) (h0 : Nat) (k1 : Int32) (g1 : Int64) (a0 a1 a2 a3 a4 a5 a6 a7 a8 : Value) (E : String) (_ : Unit) (t : State) : Prop := E = "java/lang/IllegalArgumentException" ∧ va_P (dC, dI) vwCl [(h0, .inr (12, [a0, a1, a2, a3, a4, a5, a6, a7, a8]))] t.heap ∧ va_K (dC, dI) vwCl [] t ∧ va_D A [(h0, .inr (12, [a0, a1, a2, a3, a4, a5, a6, a7, a8]))]
theorem dX12_feed_A_0 : decode cX12_feed 0 = .ok (.iload_n 3, 1) := by decide +kernel
theorem dX12_feed_A_1 : decode cX12_feed 1 = .ok (.iconst 1, 1) := by decide +kernel
theorem dX12_feed_A_2 : decode cX12_feed 2 = .ok (.if_icmp .lt 9, 3) := by decide +kernel
theorem dX12_feed_A_5 : decode cX12_feed 5 = .ok (.iload_n 3, 1) := by decide +kernel
theorem dX12_feed_A_6 : decode cX12_feed 6 = .ok (.bipush 8, 2) := by decide +kernel
theorem dX12_feed_A_8 : decode cX12_feed 8 = .ok (.if_icmp .le 11, 3) := by decide +kernel
theorem dX12_feed_A_11 : decode cX12_feed 11 = .ok (.new 60, 3) := by decide +kernel
theorem dX12_feed_A_14 : decode cX12_feed 14 = .ok (.dup, 1) := by decide +kernel
theorem dX12_feed_A_15 : decode cX12_feed 15 = .ok (.invokespecial 62, 3) := by decide +kernel
theorem dX12_feed_A_18 : decode cX12_feed 18 = .ok (.athrow, 1) := by decide +kernel
def ww_X12_feed_A : List Cond := [.classLink RX12 60 "java/lang/IllegalArgumentException", .initialized "java/lang/IllegalArgumentException"]
def wv_X12_feed_A : List Cond := .code yX12_feed cX12_feed 5 (some .int) :: (ww_X12_feed_A ++ ((vx_at0 RX12 62 "java/lang/IllegalArgumentException" ["java/lang/RuntimeException", "java/lang/Exception"]).filter goodWord ++ []))
theorem wm_X12_feed_A {w : Cond} (i : Nat) (h : ww_X12_feed_A[i]? = some w) : w ∈ wv_X12_feed_A := List.mem_cons_of_mem _ (List.mem_append_left _ (List.mem_of_getElem? h))
set_option maxRecDepth 100000 in
theorem gw_X12_feed_A : wv_X12_feed_A.all goodWord = true := by decide +kernel
theorem wx_X12_feed_A_62 : ∀ w ∈ (vx_at0 RX12 62 "java/lang/IllegalArgumentException" ["java/lang/RuntimeException", "java/lang/Exception"]).filter goodWord, w ∈ wv_X12_feed_A := fun w h => List.mem_cons_of_mem _ (List.mem_append_right _ (List.mem_append_left _ h))
set_option maxHeartbeats 4000000 in
set_option maxRecDepth 100000 in
/-- feed(.., k), k not 1 .. 8: IllegalArgumentException -/
theorem x_X12_feed_A (l : Launch) (hl0 : l.stackTraces = false) (dC : Nat → ClassId) (dI : Nat → Nat → Nat) (h0 : Nat) (k1 : Int32) (g1 : Int64) (a0 a1 a2 a3 a4 a5 a6 a7 a8 : Value) (sz : Nat) : vx_Met l yX12_feed wv_X12_feed_A ({ frames := 6, cells := 1, slots := 6, locals := 81 }) (va_Pc [.ref h0, .long g1, .int k1] (fun U => U.heap.size = sz ∧ va_P (dC, dI) vwCl [(h0, .inr (12, [a0, a1, a2, a3, a4, a5, a6, a7, a8]))] U.heap ∧ va_K (dC, dI) vwCl [] U ∧ va_D (fun _ => True) [(h0, .inr (12, [a0, a1, a2, a3, a4, a5, a6, a7, a8]))] ∧ xz_F U ∧ xz_Z (va_A [(h0, .inr (12, [a0, a1, a2, a3, a4, a5, a6, a7, a8]))] sz) U U.heap ∧ (k1 < 1 ∨ 8 < k1))) (va_Qi (fun _ (_ : Unit) => False) (fun _ _ => True) (va_A [(h0, .inr (12, [a0, a1, a2, a3, a4, a5, a6, a7, a8]))] sz)) (vx_X (fun _ : Unit => True) (ax_X12_feed_A dC dI (va_A [(h0, .inr (12, [a0, a1, a2, a3, a4, a5, a6, a7, a8]))] sz) h0 k1 g1 a0 a1 a2 a3 a4 a5 a6 a7 a8) (va_A [(h0, .inr (12, [a0, a1, a2, a3, a4, a5, a6, a7, a8]))] sz)) 1 6 (va_A [(h0, .inr (12, [a0, a1, a2, a3, a4, a5, a6, a7, a8]))] sz) := by
  refine vx_ofW (cc := cX12_feed) (maxL := 5) (ret := (some .int)) (by decide) rfl ?_
  intro p e s m args below meth c s₁ B hml hex hv
  obtain ⟨rfl, hsz, hP, hK, hD0, hF9, hZ9, hpre⟩ := hv
  have hx := B.exec
  have hb := B.bytes
  have hr := B.returns
  have hts := atoms_spec (ws := wv_X12_feed_A) B.pre
  have hown : s.vm.findClass RX12 = some m.cls := findClass_of_methodNamed B.named
  have hlocks := B.notSynchronized
  subst hsz
  have hD := hD0.self (sz := s.heap.size)
  generalize hAe : va_A [(h0, .inr (12, [a0, a1, a2, a3, a4, a5, a6, a7, a8]))] s.heap.size = A at hD hZ9 ⊢
  have hA : ∀ q : Nat, s.heap.size ≤ q → A q := fun q h => by rw [← hAe]; exact Or.inr h
  have hS : va_S A s.heap s.heap [] := va_S.rf
  have hP : va_P (dC, dI) vwCl [(h0, .inr (12, [a0, a1, a2, a3, a4, a5, a6, a7, a8]))] s.heap := hP
  have hl := lv_entry ([.ref h0, .long g1, .int k1]) (n := 5) (Nat.le_of_ble_eq_true rfl)
  rw [lg_entry_eq]
  generalize (lg_sl ([.ref h0, .long g1, .int k1]) ++ List.replicate (5 - (lg_sl ([.ref h0, .long g1, .int k1])).length) Slot.unset).toArray = ls at hl ⊢
  have hl : lv_has ls 5 [(0, .ref h0), (1, .long g1), (3, .int k1)] := hl
  have hout : ∀ {k : Nat}, ∀ x ∈ c.exceptionTable.toList, covers x k = false := fun x h => (hex x h).elim
  refine lv_iload_n hx hb dX12_feed_A_0 rfl (lv_at hl 2 rfl) ?_
  refine lv_iconst (v := 1) hx hb dX12_feed_A_1 (by decide) ?_
  refine lv_icmp_lt (tgt := 11) hx hb dX12_feed_A_2 (by decide) (fun hc => ?_) (fun hc => ?_)
  · have h_1 : 1 ≤ 1 := by decide
    have h_2 : 6 ≤ 6 := by decide
    have hat9 : ∀ w ∈ vx_at0 RX12 62 "java/lang/IllegalArgumentException" ["java/lang/RuntimeException", "java/lang/Exception"], w.before _ s = true := vx_hat (B := [.declares (Bundle.init0 "java/lang/RuntimeException"), .declares (Bundle.init0 "java/lang/Exception"), .declares (Bundle.init0 Bundle.tN), .castable "java/lang/IllegalArgumentException" "java/lang/IllegalArgumentException"]) (fun w hw => hts w (wx_X12_feed_A_62 w hw)) (by decide +kernel) (vx_c (va_Nw.use rfl hF9.1) (vx_c (va_Nw.use rfl hF9.2.1) (vx_c (va_Nw.use rfl hF9.2.2.1) (vx_c (va_Nw.use rfl hF9.2.2.2.2.1) vx_n))))
    have hP9 := hP.sub (ws' := [(h0, .inr (12, [a0, a1, a2, a3, a4, a5, a6, a7, a8]))]) [0] rfl
    have hD9 := hD.sub (ws' := [(h0, .inr (12, [a0, a1, a2, a3, a4, a5, a6, a7, a8]))]) [0] (by decide) rfl
    have hK9 := hK.sub (tys' := []) [] rfl
    exact vx_throw0 (A := A) hx hb hl0 hown (by decide +kernel) (by decide +kernel) (hts (.classLink RX12 60 "java/lang/IllegalArgumentException") (wm_X12_feed_A 0 rfl)) (hts (.initialized "java/lang/IllegalArgumentException") (wm_X12_feed_A 1 rfl)) hat9 (by decide +kernel) hZ9.1 hZ9.2 hS (hl.1.trans hml.symm) dX12_feed_A_11 dX12_feed_A_14 dX12_feed_A_15 dX12_feed_A_18 hout (by decide) (by decide) h_1 h_2 hlocks (fun t9 ha9 hz9 hk9 => ⟨(), trivial, ⟨rfl, (xz_keep hS hP9 hz9 hk9).1, va_K.moved ha9 hK9, hD9⟩, (xz_keep hS hP9 hz9 hk9).2⟩) hS.2.2 (by decide) (by decide)
  · refine lv_iload_n hx hb dX12_feed_A_5 rfl (lv_at hl 2 rfl) ?_
    refine lv_bipush (v := 8) hx hb dX12_feed_A_6 (by decide) ?_
    refine lv_icmp_le (tgt := 19) hx hb dX12_feed_A_8 (by decide) (fun h9 => absurd h9 (by rcases hpre with h | h; exact absurd h hc; exact Int32.not_le.mpr h)) (fun _ => ?_)
    have h_3 : 1 ≤ 1 := by decide
    have h_4 : 6 ≤ 6 := by decide
    have hat9 : ∀ w ∈ vx_at0 RX12 62 "java/lang/IllegalArgumentException" ["java/lang/RuntimeException", "java/lang/Exception"], w.before _ s = true := vx_hat (B := [.declares (Bundle.init0 "java/lang/RuntimeException"), .declares (Bundle.init0 "java/lang/Exception"), .declares (Bundle.init0 Bundle.tN), .castable "java/lang/IllegalArgumentException" "java/lang/IllegalArgumentException"]) (fun w hw => hts w (wx_X12_feed_A_62 w hw)) (by decide +kernel) (vx_c (va_Nw.use rfl hF9.1) (vx_c (va_Nw.use rfl hF9.2.1) (vx_c (va_Nw.use rfl hF9.2.2.1) (vx_c (va_Nw.use rfl hF9.2.2.2.2.1) vx_n))))
    have hP9 := hP.sub (ws' := [(h0, .inr (12, [a0, a1, a2, a3, a4, a5, a6, a7, a8]))]) [0] rfl
    have hD9 := hD.sub (ws' := [(h0, .inr (12, [a0, a1, a2, a3, a4, a5, a6, a7, a8]))]) [0] (by decide) rfl
    have hK9 := hK.sub (tys' := []) [] rfl
    exact vx_throw0 (A := A) hx hb hl0 hown (by decide +kernel) (by decide +kernel) (hts (.classLink RX12 60 "java/lang/IllegalArgumentException") (wm_X12_feed_A 0 rfl)) (hts (.initialized "java/lang/IllegalArgumentException") (wm_X12_feed_A 1 rfl)) hat9 (by decide +kernel) hZ9.1 hZ9.2 hS (hl.1.trans hml.symm) dX12_feed_A_11 dX12_feed_A_14 dX12_feed_A_15 dX12_feed_A_18 hout (by decide) (by decide) h_3 h_4 hlocks (fun t9 ha9 hz9 hk9 => ⟨(), trivial, ⟨rfl, (xz_keep hS hP9 hz9 hk9).1, va_K.moved ha9 hK9, hD9⟩, (xz_keep hS hP9 hz9 hk9).2⟩) hS.2.2 (by decide) (by decide)


abbrev ar_L_operator (dC : Nat → ClassId) (dI : Nat → Nat → Nat) (A : Nat → Prop) (h0 h4 ho : Nat) (cO : ClassId) (fo : Nat → Int64) (k1 k2 : Int32) (a0 a1 a2 a3 a5 a6 a7 a8 b0 b2 b3 b4 b5 b6 b7 b8 b9 b10 b11 b12 b13 : Value) (_ : Unit) (t : State) : Prop := va_P (dC, dI) vwCl [(h0, .inr (12, [a0, a1, a2, a3, .ref h4, a5, a6, a7, a8])), (h4, .inr (4, [b0, .int 0, b2, b3, b4, b5, b6, b7, b8, b9, b10, b11, b12, b13])), (ho, .inl (cO, 1, .inr (.inl fo)))] t.heap ∧ va_K (dC, dI) vwCl [(cO, .long)] t ∧ va_D A [(h0, .inr (12, [a0, a1, a2, a3, .ref h4, a5, a6, a7, a8])), (h4, .inr (4, [b0, .int 0, b2, b3, b4, b5, b6, b7, b8, b9, b10, b11, b12, b13])), (ho, .inl (cO, 1, .inr (.inl fo)))]
theorem dL_operator_0 : decode cL_operator 0 = .ok (.aload_n 3, 1) := by decide +kernel
theorem dL_operator_1 : decode cL_operator 1 = .ok (.iconst 0, 1) := by decide +kernel
theorem dL_operator_2 : decode cL_operator 2 = .ok (.aload_n 0, 1) := by decide +kernel
theorem dL_operator_3 : decode cL_operator 3 = .ok (.iload_n 1, 1) := by decide +kernel
theorem dL_operator_4 : decode cL_operator 4 = .ok (.iload_n 2, 1) := by decide +kernel
theorem dL_operator_5 : decode cL_operator 5 = .ok (.invokevirtual 23, 3) := by decide +kernel
theorem dL_operator_12 : decode cL_operator 12 = .ok (.astore 4, 2) := by decide +kernel
theorem dL_operator_14 : decode cL_operator 14 = .ok (.iconst 1, 1) := by decide +kernel
theorem dL_operator_15 : decode cL_operator 15 = .ok (.ireturn, 1) := by decide +kernel
def ww_L_operator : List Cond := [.methodLink RL 23 yX12_operator, .instanceMethod yX12_operator, .selects RX12 yX12_operator yX12_operator, .initialized RX12, .classLink RL 27 "java/lang/IndexOutOfBoundsException"]
def wv_L_operator : List Cond := .codeWith yL_operator cL_operator 5 (some .int) [(0, 9, 12, 27), (0, 9, 16, 13)] :: (ww_L_operator ++ (wv_X12_operator ++ []))
theorem wm_L_operator {w : Cond} (i : Nat) (h : ww_L_operator[i]? = some w) : w ∈ wv_L_operator := List.mem_cons_of_mem _ (List.mem_append_left _ (List.mem_of_getElem? h))
set_option maxRecDepth 100000 in
theorem gw_L_operator : wv_L_operator.all goodWord = true := by decide +kernel
theorem wg_L_operator_X12_operator : GoodIn wv_L_operator wv_X12_operator := goodIn_sub (fun w h => List.mem_cons_of_mem _ (List.mem_append_right _ (List.mem_append_left _ h))) gw_X12_operator
theorem wV_L_operator_X12_operator_23 : GoodIn wv_L_operator (wsV RL 23 RX12 yX12_operator wv_X12_operator) := goodIn_app (goodIn_sub (fun w h => by simp only [List.mem_cons, List.not_mem_nil, or_false] at h; rcases h with rfl | rfl | rfl | rfl <;> first | exact wm_L_operator 0 rfl | exact wm_L_operator 1 rfl | exact wm_L_operator 2 rfl | exact wm_L_operator 3 rfl) (by decide +kernel)) wg_L_operator_X12_operator
set_option maxHeartbeats 4000000 in
set_option maxRecDepth 100000 in
/-- the law's operator on a fresh house -/
theorem r_L_operator (l : Launch) (hl0 : l.stackTraces = false) (dC : Nat → ClassId) (dI : Nat → Nat → Nat) (h0 h4 ho : Nat) (cO : ClassId) (fo : Nat → Int64) (k1 k2 : Int32) (a0 a1 a2 a3 a5 a6 a7 a8 b0 b2 b3 b4 b5 b6 b7 b8 b9 b10 b11 b12 b13 : Value) (sz : Nat) : Met l yL_operator wv_L_operator ({ frames := 7, cells := 1, slots := 6, locals := 104 }) (va_Pc [.ref h0, .int k1, .int k2, .ref ho] (fun U => U.heap.size = sz ∧ va_P (dC, dI) vwCl [(h0, .inr (12, [a0, a1, a2, a3, .ref h4, a5, a6, a7, a8])), (h4, .inr (4, [b0, .int 0, b2, b3, b4, b5, b6, b7, b8, b9, b10, b11, b12, b13])), (ho, .inl (cO, 1, .inr (.inl fo)))] U.heap ∧ va_K (dC, dI) vwCl [(cO, .long)] U ∧ va_D (fun _ => True) [(h0, .inr (12, [a0, a1, a2, a3, .ref h4, a5, a6, a7, a8])), (h4, .inr (4, [b0, .int 0, b2, b3, b4, b5, b6, b7, b8, b9, b10, b11, b12, b13])), (ho, .inl (cO, 1, .inr (.inl fo)))] ∧ xz_F U ∧ xz_Z (va_A [(h0, .inr (12, [a0, a1, a2, a3, .ref h4, a5, a6, a7, a8])), (h4, .inr (4, [b0, .int 0, b2, b3, b4, b5, b6, b7, b8, b9, b10, b11, b12, b13])), (ho, .inl (cO, 1, .inr (.inl fo)))] sz) U U.heap)) (va_Qi (fun r (_ : Unit) => r = 1) (ar_L_operator dC dI (va_A [(h0, .inr (12, [a0, a1, a2, a3, .ref h4, a5, a6, a7, a8])), (h4, .inr (4, [b0, .int 0, b2, b3, b4, b5, b6, b7, b8, b9, b10, b11, b12, b13])), (ho, .inl (cO, 1, .inr (.inl fo)))] sz) h0 h4 ho cO fo k1 k2 a0 a1 a2 a3 a5 a6 a7 a8 b0 b2 b3 b4 b5 b6 b7 b8 b9 b10 b11 b12 b13) (va_A [(h0, .inr (12, [a0, a1, a2, a3, .ref h4, a5, a6, a7, a8])), (h4, .inr (4, [b0, .int 0, b2, b3, b4, b5, b6, b7, b8, b9, b10, b11, b12, b13])), (ho, .inl (cO, 1, .inr (.inl fo)))] sz)) 1 6 (va_A [(h0, .inr (12, [a0, a1, a2, a3, .ref h4, a5, a6, a7, a8])), (h4, .inr (4, [b0, .int 0, b2, b3, b4, b5, b6, b7, b8, b9, b10, b11, b12, b13])), (ho, .inl (cO, 1, .inr (.inl fo)))] sz) := by
  refine va_MetW (cc := cL_operator) (maxL := 5) (ret := (some .int)) (hh := [(0, 9, 12, 27), (0, 9, 16, 13)]) (by decide) rfl ?_
  intro p e s m args below meth c s₁ B hml hv
  obtain ⟨rfl, hsz, hP, hK, hD0, hF9, hZ9⟩ := hv
  have hx := B.exec
  have hb := B.bytes
  have hr := B.returns
  have hts := atoms_spec (ws := wv_L_operator) B.pre
  have hown : s.vm.findClass RL = some m.cls := findClass_of_methodNamed B.named
  have hlocks := B.notSynchronized
  subst hsz
  have hD := hD0.self (sz := s.heap.size)
  generalize hAe : va_A [(h0, .inr (12, [a0, a1, a2, a3, .ref h4, a5, a6, a7, a8])), (h4, .inr (4, [b0, .int 0, b2, b3, b4, b5, b6, b7, b8, b9, b10, b11, b12, b13])), (ho, .inl (cO, 1, .inr (.inl fo)))] s.heap.size = A at hD hZ9 ⊢
  have hA : ∀ q : Nat, s.heap.size ≤ q → A q := fun q h => by rw [← hAe]; exact Or.inr h
  have hS : va_S A s.heap s.heap [] := va_S.rf
  have hP : va_P (dC, dI) vwCl [(h0, .inr (12, [a0, a1, a2, a3, .ref h4, a5, a6, a7, a8])), (h4, .inr (4, [b0, .int 0, b2, b3, b4, b5, b6, b7, b8, b9, b10, b11, b12, b13])), (ho, .inl (cO, 1, .inr (.inl fo)))] s.heap := hP
  have hl := lv_entry ([.ref h0, .int k1, .int k2, .ref ho]) (n := 5) (Nat.le_of_ble_eq_true rfl)
  rw [lg_entry_eq]
  generalize (lg_sl ([.ref h0, .int k1, .int k2, .ref ho]) ++ List.replicate (5 - (lg_sl ([.ref h0, .int k1, .int k2, .ref ho])).length) Slot.unset).toArray = ls at hl ⊢
  have hl : lv_has ls 5 [(0, .ref h0), (1, .int k1), (2, .int k2), (3, .ref ho)] := hl
  have htab : c.exceptionTable.toList = [⟨0, 9, 12, 27⟩, ⟨0, 9, 16, 13⟩] := vx_table (x := yL_operator) B (hts _ List.mem_cons_self)
  refine lv_aload_n hx hb dL_operator_0 rfl (lv_at hl 3 rfl) ?_
  refine lv_iconst (v := 0) hx hb dL_operator_1 (by decide) ?_
  refine lv_aload_n hx hb dL_operator_2 rfl (lv_at hl 0 rfl) ?_
  refine lv_iload_n hx hb dL_operator_3 rfl (lv_at hl 1 rfl) ?_
  refine lv_iload_n hx hb dL_operator_4 rfl (lv_at hl 2 rfl) ?_
  have hPc := hP.sub (ws' := [(h0, .inr (12, [a0, a1, a2, a3, .ref h4, a5, a6, a7, a8])), (h4, .inr (4, [b0, .int 0, b2, b3, b4, b5, b6, b7, b8, b9, b10, b11, b12, b13]))]) [0, 1] rfl
  have hDc := hD.sub (ws' := [(h0, .inr (12, [a0, a1, a2, a3, .ref h4, a5, a6, a7, a8])), (h4, .inr (4, [b0, .int 0, b2, b3, b4, b5, b6, b7, b8, b9, b10, b11, b12, b13]))]) [0, 1] (by decide) rfl
  have hKc := hK.sub (tys' := []) [] rfl
  have hFc := va_free (wc := [(h0, .inr (12, [a0, a1, a2, a3, .ref h4, a5, a6, a7, a8])), (h4, .inr (4, [b0, .int 0, b2, b3, b4, b5, b6, b7, b8, b9, b10, b11, b12, b13]))]) hD hS hA [0, 1] rfl
  have h_1 : 1 ≤ 1 := by decide
  have h_2 : 6 ≤ 6 := by decide
  refine xz_callX (vx_runV (As := [.int k1, .int k2]) (rest := [.int 0, .ref ho]) ⟨hx, hb, hml, hown, hts⟩ (x_X12_operator l hl0 dC dI h0 h4 k1 k2 a0 a1 a2 a3 a5 a6 a7 a8 b0 b2 b3 b4 b5 b6 b7 b8 b9 b10 b11 b12 b13 _) (cwV 2 hts wV_L_operator_X12_operator_23 rfl rfl rfl (by decide +kernel) ⟨Nat.le_of_ble_eq_true rfl, Nat.le_of_ble_eq_true rfl⟩) ⟨fun a U g mk q => by obtain ⟨q0, q1, qP, qK, qD, qf0, qf1⟩ := q; exact ⟨q0, q1, qP, va_K.moved (u := U) (U := U.calling g mk a) (Vm.Alike.refl U.vm) qK, qD, xz_F.same rfl qf0, xz_Z.same (Vm.Alike.refl _) rfl qf1⟩, va_recv hKc hPc (ci := 12) (q0 := 0) rfl rfl, fun U hU hW => ⟨rfl, by rw [hU], by rw [hU]; exact hPc, va_K.moved hW.alike hKc, hDc.weaken (fun _ _ _ _ => trivial), xz_F.warm hW hF9, (hZ9.to hS hFc hW.alike hU)⟩⟩ rfl rfl hl.1 rfl (lv_room (Nat.le_of_ble_eq_true rfl)) dL_operator_5 ⟨h_1, h_2⟩) (fun _ _ _ h9 => by obtain ⟨⟨_, h9⟩, _⟩ := h9; simp at h9) hS hFc (fun q _ h => hFc q h) (fun E ce x3 u t H1 locs ht hvm hw hB hz1 hk1 hS hce hcv hcl => ?_)
  obtain ⟨hE, hP1, hK1, hD1⟩ := hB
  subst hE
  rw [ht] at hP1
  have hK1 := va_K.moved hvm.symm hK1
  obtain ⟨hP, hD⟩ := va_join (wr := [(ho, .inl (cO, 1, .inr (.inl fo)))]) (w1 := [(h0, .inr (12, [a0, a1, a2, a3, .ref h4, a5, a6, a7, a8])), (h4, .inr (4, [b0, .int 0, b2, b3, b4, b5, b6, b7, b8, b9, b10, b11, b12, b13]))]) hP hD [0, 1] [2] rfl rfl (by decide) (by decide) hk1 hFc hP1 hD1
  have hK := (hK.sub (tys' := [(cO, .long)]) [0] rfl).app hK1
  generalize H1 = H at hP hS hce ⊢
  have hP : va_P (dC, dI) vwCl [(ho, .inl (cO, 1, .inr (.inl fo))), (h0, .inr (12, [a0, a1, a2, a3, .ref h4, a5, a6, a7, a8])), (h4, .inr (4, [b0, .int 0, b2, b3, b4, b5, b6, b7, b8, b9, b10, b11, b12, b13]))] H := hP
  have hD : va_D A [(ho, .inl (cO, 1, .inr (.inl fo))), (h0, .inr (12, [a0, a1, a2, a3, .ref h4, a5, a6, a7, a8])), (h4, .inr (4, [b0, .int 0, b2, b3, b4, b5, b6, b7, b8, b9, b10, b11, b12, b13]))] := hD
  have hK : va_K (dC, dI) vwCl [(cO, .long)] s := hK
  refine vx_widen (k := 1) (n := 6) (by decide) (by decide) ?_
  refine vx_catch (own := RL) (name := "java/lang/IndexOutOfBoundsException") (E := "java/lang/IndexOutOfBoundsException") hown [] ⟨0, 9, 12, 27⟩ [⟨0, 9, 16, 13⟩] htab (fun z9 hz9 => nomatch hz9) (by decide) (by decide) (hts (.classLink RL 27 "java/lang/IndexOutOfBoundsException") (wm_L_operator 4 rfl)) (va_Nw.use rfl hF9.2.2.2.2.2.1) hce hcv hcl ?_
  refine lv_astore (lv' := [(4, .ref x3), (0, .ref h0), (1, .int k1), (2, .int k2), (3, .ref ho)]) hx hb dL_operator_12 hl (by decide) rfl (fun ls hl => ?_)
  refine lv_iconst (v := 1) hx hb dL_operator_14 (by decide) ?_
  have hP9 := hP.sub (ws' := [(h0, .inr (12, [a0, a1, a2, a3, .ref h4, a5, a6, a7, a8])), (h4, .inr (4, [b0, .int 0, b2, b3, b4, b5, b6, b7, b8, b9, b10, b11, b12, b13])), (ho, .inl (cO, 1, .inr (.inl fo)))]) [1, 2, 0] rfl
  have hD9 := hD.sub (ws' := [(h0, .inr (12, [a0, a1, a2, a3, .ref h4, a5, a6, a7, a8])), (h4, .inr (4, [b0, .int 0, b2, b3, b4, b5, b6, b7, b8, b9, b10, b11, b12, b13])), (ho, .inl (cO, 1, .inr (.inl fo)))]) [1, 2, 0] (by decide) rfl
  have hK9 := hK.sub (tys' := [(cO, .long)]) [0] rfl
  refine W.widen (k := 1) (n := 6) (by decide) (by decide) ?_
  exact W.iret (v := 1) hx hb hr (fun t ht hW => ⟨⟨1, (), rfl, rfl, by rw [ht]; exact hP9, va_K.moved hW.alike hK9, hD9⟩, hS.F ht⟩) hS.2.2 dL_operator_15

abbrev ar_L_start (dC : Nat → ClassId) (dI : Nat → Nat → Nat) (A : Nat → Prop) (h0 h4 ho : Nat) (cO : ClassId) (fo : Nat → Int64) (k1 k2 : Int32) (g1 : Int64) (a0 a1 a2 a3 a5 a6 a7 a8 b0 b2 b3 b4 b5 b6 b7 b8 b9 b10 b11 b12 b13 : Value) (_ : Unit) (t : State) : Prop := va_P (dC, dI) vwCl [(h0, .inr (12, [a0, a1, a2, a3, .ref h4, a5, a6, a7, a8])), (h4, .inr (4, [b0, .int 0, b2, b3, b4, b5, b6, b7, b8, b9, b10, b11, b12, b13])), (ho, .inl (cO, 1, .inr (.inl fo)))] t.heap ∧ va_K (dC, dI) vwCl [(cO, .long)] t ∧ va_D A [(h0, .inr (12, [a0, a1, a2, a3, .ref h4, a5, a6, a7, a8])), (h4, .inr (4, [b0, .int 0, b2, b3, b4, b5, b6, b7, b8, b9, b10, b11, b12, b13])), (ho, .inl (cO, 1, .inr (.inl fo)))]
theorem dL_start_0 : decode cL_start 0 = .ok (.aload 5, 2) := by decide +kernel
theorem dL_start_2 : decode cL_start 2 = .ok (.iconst 0, 1) := by decide +kernel
theorem dL_start_3 : decode cL_start 3 = .ok (.aload_n 0, 1) := by decide +kernel
theorem dL_start_4 : decode cL_start 4 = .ok (.iload_n 1, 1) := by decide +kernel
theorem dL_start_5 : decode cL_start 5 = .ok (.iload_n 2, 1) := by decide +kernel
theorem dL_start_6 : decode cL_start 6 = .ok (.lload_n 3, 1) := by decide +kernel
theorem dL_start_7 : decode cL_start 7 = .ok (.invokevirtual 37, 3) := by decide +kernel
theorem dL_start_15 : decode cL_start 15 = .ok (.astore 6, 2) := by decide +kernel
theorem dL_start_17 : decode cL_start 17 = .ok (.iconst 1, 1) := by decide +kernel
theorem dL_start_18 : decode cL_start 18 = .ok (.ireturn, 1) := by decide +kernel
def ww_L_start : List Cond := [.methodLink RL 37 yX12_start, .instanceMethod yX12_start, .selects RX12 yX12_start yX12_start, .initialized RX12, .classLink RL 21 "java/lang/IllegalStateException"]
def wv_L_start : List Cond := .codeWith yL_start cL_start 7 (some .int) [(0, 12, 15, 21), (0, 12, 19, 13)] :: (ww_L_start ++ (wv_X12_start ++ []))
theorem wm_L_start {w : Cond} (i : Nat) (h : ww_L_start[i]? = some w) : w ∈ wv_L_start := List.mem_cons_of_mem _ (List.mem_append_left _ (List.mem_of_getElem? h))
set_option maxRecDepth 100000 in
theorem gw_L_start : wv_L_start.all goodWord = true := by decide +kernel
theorem wg_L_start_X12_start : GoodIn wv_L_start wv_X12_start := goodIn_sub (fun w h => List.mem_cons_of_mem _ (List.mem_append_right _ (List.mem_append_left _ h))) gw_X12_start
theorem wV_L_start_X12_start_37 : GoodIn wv_L_start (wsV RL 37 RX12 yX12_start wv_X12_start) := goodIn_app (goodIn_sub (fun w h => by simp only [List.mem_cons, List.not_mem_nil, or_false] at h; rcases h with rfl | rfl | rfl | rfl <;> first | exact wm_L_start 0 rfl | exact wm_L_start 1 rfl | exact wm_L_start 2 rfl | exact wm_L_start 3 rfl) (by decide +kernel)) wg_L_start_X12_start
set_option maxHeartbeats 4000000 in
set_option maxRecDepth 100000 in
/-- the law's start on a fresh house -/
theorem r_L_start (l : Launch) (hl0 : l.stackTraces = false) (dC : Nat → ClassId) (dI : Nat → Nat → Nat) (h0 h4 ho : Nat) (cO : ClassId) (fo : Nat → Int64) (k1 k2 : Int32) (g1 : Int64) (a0 a1 a2 a3 a5 a6 a7 a8 b0 b2 b3 b4 b5 b6 b7 b8 b9 b10 b11 b12 b13 : Value) (sz : Nat) : Met l yL_start wv_L_start ({ frames := 7, cells := 1, slots := 6, locals := 105 }) (va_Pc [.ref h0, .int k1, .int k2, .long g1, .ref ho] (fun U => U.heap.size = sz ∧ va_P (dC, dI) vwCl [(h0, .inr (12, [a0, a1, a2, a3, .ref h4, a5, a6, a7, a8])), (h4, .inr (4, [b0, .int 0, b2, b3, b4, b5, b6, b7, b8, b9, b10, b11, b12, b13])), (ho, .inl (cO, 1, .inr (.inl fo)))] U.heap ∧ va_K (dC, dI) vwCl [(cO, .long)] U ∧ va_D (fun _ => True) [(h0, .inr (12, [a0, a1, a2, a3, .ref h4, a5, a6, a7, a8])), (h4, .inr (4, [b0, .int 0, b2, b3, b4, b5, b6, b7, b8, b9, b10, b11, b12, b13])), (ho, .inl (cO, 1, .inr (.inl fo)))] ∧ xz_F U ∧ xz_Z (va_A [(h0, .inr (12, [a0, a1, a2, a3, .ref h4, a5, a6, a7, a8])), (h4, .inr (4, [b0, .int 0, b2, b3, b4, b5, b6, b7, b8, b9, b10, b11, b12, b13])), (ho, .inl (cO, 1, .inr (.inl fo)))] sz) U U.heap)) (va_Qi (fun r (_ : Unit) => r = 1) (ar_L_start dC dI (va_A [(h0, .inr (12, [a0, a1, a2, a3, .ref h4, a5, a6, a7, a8])), (h4, .inr (4, [b0, .int 0, b2, b3, b4, b5, b6, b7, b8, b9, b10, b11, b12, b13])), (ho, .inl (cO, 1, .inr (.inl fo)))] sz) h0 h4 ho cO fo k1 k2 g1 a0 a1 a2 a3 a5 a6 a7 a8 b0 b2 b3 b4 b5 b6 b7 b8 b9 b10 b11 b12 b13) (va_A [(h0, .inr (12, [a0, a1, a2, a3, .ref h4, a5, a6, a7, a8])), (h4, .inr (4, [b0, .int 0, b2, b3, b4, b5, b6, b7, b8, b9, b10, b11, b12, b13])), (ho, .inl (cO, 1, .inr (.inl fo)))] sz)) 1 6 (va_A [(h0, .inr (12, [a0, a1, a2, a3, .ref h4, a5, a6, a7, a8])), (h4, .inr (4, [b0, .int 0, b2, b3, b4, b5, b6, b7, b8, b9, b10, b11, b12, b13])), (ho, .inl (cO, 1, .inr (.inl fo)))] sz) := by
  refine va_MetW (cc := cL_start) (maxL := 7) (ret := (some .int)) (hh := [(0, 12, 15, 21), (0, 12, 19, 13)]) (by decide) rfl ?_
  intro p e s m args below meth c s₁ B hml hv
  obtain ⟨rfl, hsz, hP, hK, hD0, hF9, hZ9⟩ := hv
  have hx := B.exec
  have hb := B.bytes
  have hr := B.returns
  have hts := atoms_spec (ws := wv_L_start) B.pre
  have hown : s.vm.findClass RL = some m.cls := findClass_of_methodNamed B.named
  have hlocks := B.notSynchronized
  subst hsz
  have hD := hD0.self (sz := s.heap.size)
  generalize hAe : va_A [(h0, .inr (12, [a0, a1, a2, a3, .ref h4, a5, a6, a7, a8])), (h4, .inr (4, [b0, .int 0, b2, b3, b4, b5, b6, b7, b8, b9, b10, b11, b12, b13])), (ho, .inl (cO, 1, .inr (.inl fo)))] s.heap.size = A at hD hZ9 ⊢
  have hA : ∀ q : Nat, s.heap.size ≤ q → A q := fun q h => by rw [← hAe]; exact Or.inr h
  have hS : va_S A s.heap s.heap [] := va_S.rf
  have hP : va_P (dC, dI) vwCl [(h0, .inr (12, [a0, a1, a2, a3, .ref h4, a5, a6, a7, a8])), (h4, .inr (4, [b0, .int 0, b2, b3, b4, b5, b6, b7, b8, b9, b10, b11, b12, b13])), (ho, .inl (cO, 1, .inr (.inl fo)))] s.heap := hP
  have hl := lv_entry ([.ref h0, .int k1, .int k2, .long g1, .ref ho]) (n := 7) (Nat.le_of_ble_eq_true rfl)
  rw [lg_entry_eq]
  generalize (lg_sl ([.ref h0, .int k1, .int k2, .long g1, .ref ho]) ++ List.replicate (7 - (lg_sl ([.ref h0, .int k1, .int k2, .long g1, .ref ho])).length) Slot.unset).toArray = ls at hl ⊢
  have hl : lv_has ls 7 [(0, .ref h0), (1, .int k1), (2, .int k2), (3, .long g1), (5, .ref ho)] := hl
  have htab : c.exceptionTable.toList = [⟨0, 12, 15, 21⟩, ⟨0, 12, 19, 13⟩] := vx_table (x := yL_start) B (hts _ List.mem_cons_self)
  refine lv_aload hx hb dL_start_0 (lv_at hl 4 rfl) ?_
  refine lv_iconst (v := 0) hx hb dL_start_2 (by decide) ?_
  refine lv_aload_n hx hb dL_start_3 rfl (lv_at hl 0 rfl) ?_
  refine lv_iload_n hx hb dL_start_4 rfl (lv_at hl 1 rfl) ?_
  refine lv_iload_n hx hb dL_start_5 rfl (lv_at hl 2 rfl) ?_
  refine lv_lload_n hx hb dL_start_6 rfl (lv_at hl 3 rfl) ?_
  have hPc := hP.sub (ws' := [(h0, .inr (12, [a0, a1, a2, a3, .ref h4, a5, a6, a7, a8])), (h4, .inr (4, [b0, .int 0, b2, b3, b4, b5, b6, b7, b8, b9, b10, b11, b12, b13]))]) [0, 1] rfl
  have hDc := hD.sub (ws' := [(h0, .inr (12, [a0, a1, a2, a3, .ref h4, a5, a6, a7, a8])), (h4, .inr (4, [b0, .int 0, b2, b3, b4, b5, b6, b7, b8, b9, b10, b11, b12, b13]))]) [0, 1] (by decide) rfl
  have hKc := hK.sub (tys' := []) [] rfl
  have hFc := va_free (wc := [(h0, .inr (12, [a0, a1, a2, a3, .ref h4, a5, a6, a7, a8])), (h4, .inr (4, [b0, .int 0, b2, b3, b4, b5, b6, b7, b8, b9, b10, b11, b12, b13]))]) hD hS hA [0, 1] rfl
  have h_1 : 1 ≤ 1 := by decide
  have h_2 : 6 ≤ 6 := by decide
  refine xz_callX (vx_runV (As := [.int k1, .int k2, .long g1]) (rest := [.int 0, .ref ho]) ⟨hx, hb, hml, hown, hts⟩ (x_X12_start l hl0 dC dI h0 h4 k1 k2 g1 a0 a1 a2 a3 a5 a6 a7 a8 b0 b2 b3 b4 b5 b6 b7 b8 b9 b10 b11 b12 b13 _) (cwV 3 hts wV_L_start_X12_start_37 rfl rfl rfl (by decide +kernel) ⟨Nat.le_of_ble_eq_true rfl, Nat.le_of_ble_eq_true rfl⟩) ⟨fun a U g mk q => by obtain ⟨q0, q1, qP, qK, qD, qf0, qf1⟩ := q; exact ⟨q0, q1, qP, va_K.moved (u := U) (U := U.calling g mk a) (Vm.Alike.refl U.vm) qK, qD, xz_F.same rfl qf0, xz_Z.same (Vm.Alike.refl _) rfl qf1⟩, va_recv hKc hPc (ci := 12) (q0 := 0) rfl rfl, fun U hU hW => ⟨rfl, by rw [hU], by rw [hU]; exact hPc, va_K.moved hW.alike hKc, hDc.weaken (fun _ _ _ _ => trivial), xz_F.warm hW hF9, (hZ9.to hS hFc hW.alike hU)⟩⟩ rfl rfl hl.1 rfl (lv_room (Nat.le_of_ble_eq_true rfl)) dL_start_7 ⟨h_1, h_2⟩) (fun _ _ _ h9 => by obtain ⟨⟨_, h9⟩, _⟩ := h9; simp at h9) hS hFc (fun q _ h => hFc q h) (fun E ce x3 u t H1 locs ht hvm hw hB hz1 hk1 hS hce hcv hcl => ?_)
  obtain ⟨hE, hP1, hK1, hD1⟩ := hB
  subst hE
  rw [ht] at hP1
  have hK1 := va_K.moved hvm.symm hK1
  obtain ⟨hP, hD⟩ := va_join (wr := [(ho, .inl (cO, 1, .inr (.inl fo)))]) (w1 := [(h0, .inr (12, [a0, a1, a2, a3, .ref h4, a5, a6, a7, a8])), (h4, .inr (4, [b0, .int 0, b2, b3, b4, b5, b6, b7, b8, b9, b10, b11, b12, b13]))]) hP hD [0, 1] [2] rfl rfl (by decide) (by decide) hk1 hFc hP1 hD1
  have hK := (hK.sub (tys' := [(cO, .long)]) [0] rfl).app hK1
  generalize H1 = H at hP hS hce ⊢
  have hP : va_P (dC, dI) vwCl [(ho, .inl (cO, 1, .inr (.inl fo))), (h0, .inr (12, [a0, a1, a2, a3, .ref h4, a5, a6, a7, a8])), (h4, .inr (4, [b0, .int 0, b2, b3, b4, b5, b6, b7, b8, b9, b10, b11, b12, b13]))] H := hP
  have hD : va_D A [(ho, .inl (cO, 1, .inr (.inl fo))), (h0, .inr (12, [a0, a1, a2, a3, .ref h4, a5, a6, a7, a8])), (h4, .inr (4, [b0, .int 0, b2, b3, b4, b5, b6, b7, b8, b9, b10, b11, b12, b13]))] := hD
  have hK : va_K (dC, dI) vwCl [(cO, .long)] s := hK
  refine vx_widen (k := 1) (n := 6) (by decide) (by decide) ?_
  refine vx_catch (own := RL) (name := "java/lang/IllegalStateException") (E := "java/lang/IllegalStateException") hown [] ⟨0, 12, 15, 21⟩ [⟨0, 12, 19, 13⟩] htab (fun z9 hz9 => nomatch hz9) (by decide) (by decide) (hts (.classLink RL 21 "java/lang/IllegalStateException") (wm_L_start 4 rfl)) (va_Nw.use rfl hF9.2.2.2.1) hce hcv hcl ?_
  refine lv_astore (lv' := [(6, .ref x3), (0, .ref h0), (1, .int k1), (2, .int k2), (3, .long g1), (5, .ref ho)]) hx hb dL_start_15 hl (by decide) rfl (fun ls hl => ?_)
  refine lv_iconst (v := 1) hx hb dL_start_17 (by decide) ?_
  have hP9 := hP.sub (ws' := [(h0, .inr (12, [a0, a1, a2, a3, .ref h4, a5, a6, a7, a8])), (h4, .inr (4, [b0, .int 0, b2, b3, b4, b5, b6, b7, b8, b9, b10, b11, b12, b13])), (ho, .inl (cO, 1, .inr (.inl fo)))]) [1, 2, 0] rfl
  have hD9 := hD.sub (ws' := [(h0, .inr (12, [a0, a1, a2, a3, .ref h4, a5, a6, a7, a8])), (h4, .inr (4, [b0, .int 0, b2, b3, b4, b5, b6, b7, b8, b9, b10, b11, b12, b13])), (ho, .inl (cO, 1, .inr (.inl fo)))]) [1, 2, 0] (by decide) rfl
  have hK9 := hK.sub (tys' := [(cO, .long)]) [0] rfl
  refine W.widen (k := 1) (n := 6) (by decide) (by decide) ?_
  exact W.iret (v := 1) hx hb hr (fun t ht hW => ⟨⟨1, (), rfl, rfl, by rw [ht]; exact hP9, va_K.moved hW.alike hK9, hD9⟩, hS.F ht⟩) hS.2.2 dL_start_18

abbrev ar_L_onePass (dC : Nat → ClassId) (dI : Nat → Nat → Nat) (A : Nat → Prop) (h0 h4 ho : Nat) (cO : ClassId) (fo : Nat → Int64) (a0 a1 a2 a3 a5 a6 a7 a8 b0 b2 b3 b4 b5 b6 b7 b8 b9 b10 b11 b12 b13 : Value) (_ : Unit) (t : State) : Prop := va_P (dC, dI) vwCl [(h0, .inr (12, [a0, a1, a2, a3, .ref h4, a5, a6, a7, a8])), (h4, .inr (4, [b0, .int 0, b2, b3, b4, b5, b6, b7, b8, b9, b10, b11, b12, b13])), (ho, .inl (cO, 1, .inr (.inl fo)))] t.heap ∧ va_K (dC, dI) vwCl [(cO, .long)] t ∧ va_D A [(h0, .inr (12, [a0, a1, a2, a3, .ref h4, a5, a6, a7, a8])), (h4, .inr (4, [b0, .int 0, b2, b3, b4, b5, b6, b7, b8, b9, b10, b11, b12, b13])), (ho, .inl (cO, 1, .inr (.inl fo)))]
theorem dL_onePass_0 : decode cL_onePass 0 = .ok (.aload_n 1, 1) := by decide +kernel
theorem dL_onePass_1 : decode cL_onePass 1 = .ok (.iconst 0, 1) := by decide +kernel
theorem dL_onePass_2 : decode cL_onePass 2 = .ok (.aload_n 0, 1) := by decide +kernel
theorem dL_onePass_3 : decode cL_onePass 3 = .ok (.invokevirtual 72, 3) := by decide +kernel
theorem dL_onePass_18 : decode cL_onePass 18 = .ok (.astore_n 2, 1) := by decide +kernel
theorem dL_onePass_19 : decode cL_onePass 19 = .ok (.iconst 1, 1) := by decide +kernel
theorem dL_onePass_20 : decode cL_onePass 20 = .ok (.ireturn, 1) := by decide +kernel
def ww_L_onePass : List Cond := [.methodLink RL 72 yX12_onePass, .instanceMethod yX12_onePass, .selects RX12 yX12_onePass yX12_onePass, .initialized RX12, .classLink RL 21 "java/lang/IllegalStateException"]
def wv_L_onePass : List Cond := .codeWith yL_onePass cL_onePass 3 (some .int) [(0, 15, 18, 21)] :: (ww_L_onePass ++ (wv_X12_onePass ++ []))
theorem wm_L_onePass {w : Cond} (i : Nat) (h : ww_L_onePass[i]? = some w) : w ∈ wv_L_onePass := List.mem_cons_of_mem _ (List.mem_append_left _ (List.mem_of_getElem? h))
set_option maxRecDepth 100000 in
theorem gw_L_onePass : wv_L_onePass.all goodWord = true := by decide +kernel
theorem wg_L_onePass_X12_onePass : GoodIn wv_L_onePass wv_X12_onePass := goodIn_sub (fun w h => List.mem_cons_of_mem _ (List.mem_append_right _ (List.mem_append_left _ h))) gw_X12_onePass
theorem wV_L_onePass_X12_onePass_72 : GoodIn wv_L_onePass (wsV RL 72 RX12 yX12_onePass wv_X12_onePass) := goodIn_app (goodIn_sub (fun w h => by simp only [List.mem_cons, List.not_mem_nil, or_false] at h; rcases h with rfl | rfl | rfl | rfl <;> first | exact wm_L_onePass 0 rfl | exact wm_L_onePass 1 rfl | exact wm_L_onePass 2 rfl | exact wm_L_onePass 3 rfl) (by decide +kernel)) wg_L_onePass_X12_onePass
set_option maxHeartbeats 4000000 in
set_option maxRecDepth 100000 in
/-- the law's onePass on a fresh house -/
theorem r_L_onePass (l : Launch) (hl0 : l.stackTraces = false) (dC : Nat → ClassId) (dI : Nat → Nat → Nat) (h0 h4 ho : Nat) (cO : ClassId) (fo : Nat → Int64) (a0 a1 a2 a3 a5 a6 a7 a8 b0 b2 b3 b4 b5 b6 b7 b8 b9 b10 b11 b12 b13 : Value) (sz : Nat) : Met l yL_onePass wv_L_onePass ({ frames := 7, cells := 1, slots := 6, locals := 102 }) (va_Pc [.ref h0, .ref ho] (fun U => U.heap.size = sz ∧ va_P (dC, dI) vwCl [(h0, .inr (12, [a0, a1, a2, a3, .ref h4, a5, a6, a7, a8])), (h4, .inr (4, [b0, .int 0, b2, b3, b4, b5, b6, b7, b8, b9, b10, b11, b12, b13])), (ho, .inl (cO, 1, .inr (.inl fo)))] U.heap ∧ va_K (dC, dI) vwCl [(cO, .long)] U ∧ va_D (fun _ => True) [(h0, .inr (12, [a0, a1, a2, a3, .ref h4, a5, a6, a7, a8])), (h4, .inr (4, [b0, .int 0, b2, b3, b4, b5, b6, b7, b8, b9, b10, b11, b12, b13])), (ho, .inl (cO, 1, .inr (.inl fo)))] ∧ xz_F U ∧ xz_Z (va_A [(h0, .inr (12, [a0, a1, a2, a3, .ref h4, a5, a6, a7, a8])), (h4, .inr (4, [b0, .int 0, b2, b3, b4, b5, b6, b7, b8, b9, b10, b11, b12, b13])), (ho, .inl (cO, 1, .inr (.inl fo)))] sz) U U.heap)) (va_Qi (fun r (_ : Unit) => r = 1) (ar_L_onePass dC dI (va_A [(h0, .inr (12, [a0, a1, a2, a3, .ref h4, a5, a6, a7, a8])), (h4, .inr (4, [b0, .int 0, b2, b3, b4, b5, b6, b7, b8, b9, b10, b11, b12, b13])), (ho, .inl (cO, 1, .inr (.inl fo)))] sz) h0 h4 ho cO fo a0 a1 a2 a3 a5 a6 a7 a8 b0 b2 b3 b4 b5 b6 b7 b8 b9 b10 b11 b12 b13) (va_A [(h0, .inr (12, [a0, a1, a2, a3, .ref h4, a5, a6, a7, a8])), (h4, .inr (4, [b0, .int 0, b2, b3, b4, b5, b6, b7, b8, b9, b10, b11, b12, b13])), (ho, .inl (cO, 1, .inr (.inl fo)))] sz)) 1 6 (va_A [(h0, .inr (12, [a0, a1, a2, a3, .ref h4, a5, a6, a7, a8])), (h4, .inr (4, [b0, .int 0, b2, b3, b4, b5, b6, b7, b8, b9, b10, b11, b12, b13])), (ho, .inl (cO, 1, .inr (.inl fo)))] sz) := by
  refine va_MetW (cc := cL_onePass) (maxL := 3) (ret := (some .int)) (hh := [(0, 15, 18, 21)]) (by decide) rfl ?_
  intro p e s m args below meth c s₁ B hml hv
  obtain ⟨rfl, hsz, hP, hK, hD0, hF9, hZ9⟩ := hv
  have hx := B.exec
  have hb := B.bytes
  have hr := B.returns
  have hts := atoms_spec (ws := wv_L_onePass) B.pre
  have hown : s.vm.findClass RL = some m.cls := findClass_of_methodNamed B.named
  have hlocks := B.notSynchronized
  subst hsz
  have hD := hD0.self (sz := s.heap.size)
  generalize hAe : va_A [(h0, .inr (12, [a0, a1, a2, a3, .ref h4, a5, a6, a7, a8])), (h4, .inr (4, [b0, .int 0, b2, b3, b4, b5, b6, b7, b8, b9, b10, b11, b12, b13])), (ho, .inl (cO, 1, .inr (.inl fo)))] s.heap.size = A at hD hZ9 ⊢
  have hA : ∀ q : Nat, s.heap.size ≤ q → A q := fun q h => by rw [← hAe]; exact Or.inr h
  have hS : va_S A s.heap s.heap [] := va_S.rf
  have hP : va_P (dC, dI) vwCl [(h0, .inr (12, [a0, a1, a2, a3, .ref h4, a5, a6, a7, a8])), (h4, .inr (4, [b0, .int 0, b2, b3, b4, b5, b6, b7, b8, b9, b10, b11, b12, b13])), (ho, .inl (cO, 1, .inr (.inl fo)))] s.heap := hP
  have hl := lv_entry ([.ref h0, .ref ho]) (n := 3) (Nat.le_of_ble_eq_true rfl)
  rw [lg_entry_eq]
  generalize (lg_sl ([.ref h0, .ref ho]) ++ List.replicate (3 - (lg_sl ([.ref h0, .ref ho])).length) Slot.unset).toArray = ls at hl ⊢
  have hl : lv_has ls 3 [(0, .ref h0), (1, .ref ho)] := hl
  have htab : c.exceptionTable.toList = [⟨0, 15, 18, 21⟩] := vx_table (x := yL_onePass) B (hts _ List.mem_cons_self)
  refine lv_aload_n hx hb dL_onePass_0 rfl (lv_at hl 1 rfl) ?_
  refine lv_iconst (v := 0) hx hb dL_onePass_1 (by decide) ?_
  refine lv_aload_n hx hb dL_onePass_2 rfl (lv_at hl 0 rfl) ?_
  have hPc := hP.sub (ws' := [(h0, .inr (12, [a0, a1, a2, a3, .ref h4, a5, a6, a7, a8])), (h4, .inr (4, [b0, .int 0, b2, b3, b4, b5, b6, b7, b8, b9, b10, b11, b12, b13]))]) [0, 1] rfl
  have hDc := hD.sub (ws' := [(h0, .inr (12, [a0, a1, a2, a3, .ref h4, a5, a6, a7, a8])), (h4, .inr (4, [b0, .int 0, b2, b3, b4, b5, b6, b7, b8, b9, b10, b11, b12, b13]))]) [0, 1] (by decide) rfl
  have hKc := hK.sub (tys' := []) [] rfl
  have hFc := va_free (wc := [(h0, .inr (12, [a0, a1, a2, a3, .ref h4, a5, a6, a7, a8])), (h4, .inr (4, [b0, .int 0, b2, b3, b4, b5, b6, b7, b8, b9, b10, b11, b12, b13]))]) hD hS hA [0, 1] rfl
  have h_1 : 1 ≤ 1 := by decide
  have h_2 : 6 ≤ 6 := by decide
  refine xz_callX (vx_runV (As := []) (rest := [.int 0, .ref ho]) ⟨hx, hb, hml, hown, hts⟩ (x_X12_onePass l hl0 dC dI h0 h4 a0 a1 a2 a3 a5 a6 a7 a8 b0 b2 b3 b4 b5 b6 b7 b8 b9 b10 b11 b12 b13 _) (cwV 0 hts wV_L_onePass_X12_onePass_72 rfl rfl rfl (by decide +kernel) ⟨Nat.le_of_ble_eq_true rfl, Nat.le_of_ble_eq_true rfl⟩) ⟨fun a U g mk q => by obtain ⟨q0, q1, qP, qK, qD, qf0, qf1⟩ := q; exact ⟨q0, q1, qP, va_K.moved (u := U) (U := U.calling g mk a) (Vm.Alike.refl U.vm) qK, qD, xz_F.same rfl qf0, xz_Z.same (Vm.Alike.refl _) rfl qf1⟩, va_recv hKc hPc (ci := 12) (q0 := 0) rfl rfl, fun U hU hW => ⟨rfl, by rw [hU], by rw [hU]; exact hPc, va_K.moved hW.alike hKc, hDc.weaken (fun _ _ _ _ => trivial), xz_F.warm hW hF9, (hZ9.to hS hFc hW.alike hU)⟩⟩ rfl rfl hl.1 rfl (lv_room (Nat.le_of_ble_eq_true rfl)) dL_onePass_3 ⟨h_1, h_2⟩) (fun _ _ _ h9 => by obtain ⟨⟨_, h9⟩, _⟩ := h9; simp at h9) hS hFc (fun q _ h => hFc q h) (fun E ce x3 u t H1 locs ht hvm hw hB hz1 hk1 hS hce hcv hcl => ?_)
  obtain ⟨hE, hP1, hK1, hD1⟩ := hB
  subst hE
  rw [ht] at hP1
  have hK1 := va_K.moved hvm.symm hK1
  obtain ⟨hP, hD⟩ := va_join (wr := [(ho, .inl (cO, 1, .inr (.inl fo)))]) (w1 := [(h0, .inr (12, [a0, a1, a2, a3, .ref h4, a5, a6, a7, a8])), (h4, .inr (4, [b0, .int 0, b2, b3, b4, b5, b6, b7, b8, b9, b10, b11, b12, b13]))]) hP hD [0, 1] [2] rfl rfl (by decide) (by decide) hk1 hFc hP1 hD1
  have hK := (hK.sub (tys' := [(cO, .long)]) [0] rfl).app hK1
  generalize H1 = H at hP hS hce ⊢
  have hP : va_P (dC, dI) vwCl [(ho, .inl (cO, 1, .inr (.inl fo))), (h0, .inr (12, [a0, a1, a2, a3, .ref h4, a5, a6, a7, a8])), (h4, .inr (4, [b0, .int 0, b2, b3, b4, b5, b6, b7, b8, b9, b10, b11, b12, b13]))] H := hP
  have hD : va_D A [(ho, .inl (cO, 1, .inr (.inl fo))), (h0, .inr (12, [a0, a1, a2, a3, .ref h4, a5, a6, a7, a8])), (h4, .inr (4, [b0, .int 0, b2, b3, b4, b5, b6, b7, b8, b9, b10, b11, b12, b13]))] := hD
  have hK : va_K (dC, dI) vwCl [(cO, .long)] s := hK
  refine vx_widen (k := 1) (n := 6) (by decide) (by decide) ?_
  refine vx_catch (own := RL) (name := "java/lang/IllegalStateException") (E := "java/lang/IllegalStateException") hown [] ⟨0, 15, 18, 21⟩ [] htab (fun z9 hz9 => nomatch hz9) (by decide) (by decide) (hts (.classLink RL 21 "java/lang/IllegalStateException") (wm_L_onePass 4 rfl)) (va_Nw.use rfl hF9.2.2.2.1) hce hcv hcl ?_
  refine lv_astore_n (lv' := [(2, .ref x3), (0, .ref h0), (1, .ref ho)]) hx hb dL_onePass_18 rfl hl (by decide) rfl (fun ls hl => ?_)
  refine lv_iconst (v := 1) hx hb dL_onePass_19 (by decide) ?_
  have hP9 := hP.sub (ws' := [(h0, .inr (12, [a0, a1, a2, a3, .ref h4, a5, a6, a7, a8])), (h4, .inr (4, [b0, .int 0, b2, b3, b4, b5, b6, b7, b8, b9, b10, b11, b12, b13])), (ho, .inl (cO, 1, .inr (.inl fo)))]) [1, 2, 0] rfl
  have hD9 := hD.sub (ws' := [(h0, .inr (12, [a0, a1, a2, a3, .ref h4, a5, a6, a7, a8])), (h4, .inr (4, [b0, .int 0, b2, b3, b4, b5, b6, b7, b8, b9, b10, b11, b12, b13])), (ho, .inl (cO, 1, .inr (.inl fo)))]) [1, 2, 0] (by decide) rfl
  have hK9 := hK.sub (tys' := [(cO, .long)]) [0] rfl
  refine W.widen (k := 1) (n := 6) (by decide) (by decide) ?_
  exact W.iret (v := 1) hx hb hr (fun t ht hW => ⟨⟨1, (), rfl, rfl, by rw [ht]; exact hP9, va_K.moved hW.alike hK9, hD9⟩, hS.F ht⟩) hS.2.2 dL_onePass_20

abbrev ar_L_records (dC : Nat → ClassId) (dI : Nat → Nat → Nat) (A : Nat → Prop) (h0 h4 ho : Nat) (cO : ClassId) (fo : Nat → Int64) (k1 : Int32) (g1 : Int64) (a0 a1 a2 a3 a5 a6 a7 a8 b0 b2 b3 b4 b5 b6 b7 b8 b9 b10 b11 b12 b13 : Value) (_ : Unit) (t : State) : Prop := va_P (dC, dI) vwCl [(h0, .inr (12, [a0, a1, a2, a3, .ref h4, a5, a6, a7, a8])), (h4, .inr (4, [b0, .int 0, b2, b3, b4, b5, b6, b7, b8, b9, b10, b11, b12, b13])), (ho, .inl (cO, 1, .inr (.inl fo)))] t.heap ∧ va_K (dC, dI) vwCl [(cO, .long)] t ∧ va_D A [(h0, .inr (12, [a0, a1, a2, a3, .ref h4, a5, a6, a7, a8])), (h4, .inr (4, [b0, .int 0, b2, b3, b4, b5, b6, b7, b8, b9, b10, b11, b12, b13])), (ho, .inl (cO, 1, .inr (.inl fo)))]
theorem dL_records_0 : decode cL_records 0 = .ok (.aload 4, 2) := by decide +kernel
theorem dL_records_2 : decode cL_records 2 = .ok (.iconst 0, 1) := by decide +kernel
theorem dL_records_3 : decode cL_records 3 = .ok (.aload_n 0, 1) := by decide +kernel
theorem dL_records_4 : decode cL_records 4 = .ok (.iload_n 1, 1) := by decide +kernel
theorem dL_records_5 : decode cL_records 5 = .ok (.lload_n 2, 1) := by decide +kernel
theorem dL_records_6 : decode cL_records 6 = .ok (.invokevirtual 82, 3) := by decide +kernel
theorem dL_records_14 : decode cL_records 14 = .ok (.astore 5, 2) := by decide +kernel
theorem dL_records_16 : decode cL_records 16 = .ok (.iconst 1, 1) := by decide +kernel
theorem dL_records_17 : decode cL_records 17 = .ok (.ireturn, 1) := by decide +kernel
def ww_L_records : List Cond := [.methodLink RL 82 yX12_records, .instanceMethod yX12_records, .selects RX12 yX12_records yX12_records, .initialized RX12, .classLink RL 27 "java/lang/IndexOutOfBoundsException"]
def wv_L_records : List Cond := .codeWith yL_records cL_records 6 (some .int) [(0, 11, 14, 27), (0, 11, 18, 21), (0, 11, 22, 13)] :: (ww_L_records ++ (wv_X12_records ++ []))
theorem wm_L_records {w : Cond} (i : Nat) (h : ww_L_records[i]? = some w) : w ∈ wv_L_records := List.mem_cons_of_mem _ (List.mem_append_left _ (List.mem_of_getElem? h))
set_option maxRecDepth 100000 in
theorem gw_L_records : wv_L_records.all goodWord = true := by decide +kernel
theorem wg_L_records_X12_records : GoodIn wv_L_records wv_X12_records := goodIn_sub (fun w h => List.mem_cons_of_mem _ (List.mem_append_right _ (List.mem_append_left _ h))) gw_X12_records
theorem wV_L_records_X12_records_82 : GoodIn wv_L_records (wsV RL 82 RX12 yX12_records wv_X12_records) := goodIn_app (goodIn_sub (fun w h => by simp only [List.mem_cons, List.not_mem_nil, or_false] at h; rcases h with rfl | rfl | rfl | rfl <;> first | exact wm_L_records 0 rfl | exact wm_L_records 1 rfl | exact wm_L_records 2 rfl | exact wm_L_records 3 rfl) (by decide +kernel)) wg_L_records_X12_records
set_option maxHeartbeats 4000000 in
set_option maxRecDepth 100000 in
/-- the law's records on a fresh house -/
theorem r_L_records (l : Launch) (hl0 : l.stackTraces = false) (dC : Nat → ClassId) (dI : Nat → Nat → Nat) (h0 h4 ho : Nat) (cO : ClassId) (fo : Nat → Int64) (k1 : Int32) (g1 : Int64) (a0 a1 a2 a3 a5 a6 a7 a8 b0 b2 b3 b4 b5 b6 b7 b8 b9 b10 b11 b12 b13 : Value) (sz : Nat) : Met l yL_records wv_L_records ({ frames := 7, cells := 1, slots := 6, locals := 104 }) (va_Pc [.ref h0, .int k1, .long g1, .ref ho] (fun U => U.heap.size = sz ∧ va_P (dC, dI) vwCl [(h0, .inr (12, [a0, a1, a2, a3, .ref h4, a5, a6, a7, a8])), (h4, .inr (4, [b0, .int 0, b2, b3, b4, b5, b6, b7, b8, b9, b10, b11, b12, b13])), (ho, .inl (cO, 1, .inr (.inl fo)))] U.heap ∧ va_K (dC, dI) vwCl [(cO, .long)] U ∧ va_D (fun _ => True) [(h0, .inr (12, [a0, a1, a2, a3, .ref h4, a5, a6, a7, a8])), (h4, .inr (4, [b0, .int 0, b2, b3, b4, b5, b6, b7, b8, b9, b10, b11, b12, b13])), (ho, .inl (cO, 1, .inr (.inl fo)))] ∧ xz_F U ∧ xz_Z (va_A [(h0, .inr (12, [a0, a1, a2, a3, .ref h4, a5, a6, a7, a8])), (h4, .inr (4, [b0, .int 0, b2, b3, b4, b5, b6, b7, b8, b9, b10, b11, b12, b13])), (ho, .inl (cO, 1, .inr (.inl fo)))] sz) U U.heap)) (va_Qi (fun r (_ : Unit) => r = 1) (ar_L_records dC dI (va_A [(h0, .inr (12, [a0, a1, a2, a3, .ref h4, a5, a6, a7, a8])), (h4, .inr (4, [b0, .int 0, b2, b3, b4, b5, b6, b7, b8, b9, b10, b11, b12, b13])), (ho, .inl (cO, 1, .inr (.inl fo)))] sz) h0 h4 ho cO fo k1 g1 a0 a1 a2 a3 a5 a6 a7 a8 b0 b2 b3 b4 b5 b6 b7 b8 b9 b10 b11 b12 b13) (va_A [(h0, .inr (12, [a0, a1, a2, a3, .ref h4, a5, a6, a7, a8])), (h4, .inr (4, [b0, .int 0, b2, b3, b4, b5, b6, b7, b8, b9, b10, b11, b12, b13])), (ho, .inl (cO, 1, .inr (.inl fo)))] sz)) 1 6 (va_A [(h0, .inr (12, [a0, a1, a2, a3, .ref h4, a5, a6, a7, a8])), (h4, .inr (4, [b0, .int 0, b2, b3, b4, b5, b6, b7, b8, b9, b10, b11, b12, b13])), (ho, .inl (cO, 1, .inr (.inl fo)))] sz) := by
  refine va_MetW (cc := cL_records) (maxL := 6) (ret := (some .int)) (hh := [(0, 11, 14, 27), (0, 11, 18, 21), (0, 11, 22, 13)]) (by decide) rfl ?_
  intro p e s m args below meth c s₁ B hml hv
  obtain ⟨rfl, hsz, hP, hK, hD0, hF9, hZ9⟩ := hv
  have hx := B.exec
  have hb := B.bytes
  have hr := B.returns
  have hts := atoms_spec (ws := wv_L_records) B.pre
  have hown : s.vm.findClass RL = some m.cls := findClass_of_methodNamed B.named
  have hlocks := B.notSynchronized
  subst hsz
  have hD := hD0.self (sz := s.heap.size)
  generalize hAe : va_A [(h0, .inr (12, [a0, a1, a2, a3, .ref h4, a5, a6, a7, a8])), (h4, .inr (4, [b0, .int 0, b2, b3, b4, b5, b6, b7, b8, b9, b10, b11, b12, b13])), (ho, .inl (cO, 1, .inr (.inl fo)))] s.heap.size = A at hD hZ9 ⊢
  have hA : ∀ q : Nat, s.heap.size ≤ q → A q := fun q h => by rw [← hAe]; exact Or.inr h
  have hS : va_S A s.heap s.heap [] := va_S.rf
  have hP : va_P (dC, dI) vwCl [(h0, .inr (12, [a0, a1, a2, a3, .ref h4, a5, a6, a7, a8])), (h4, .inr (4, [b0, .int 0, b2, b3, b4, b5, b6, b7, b8, b9, b10, b11, b12, b13])), (ho, .inl (cO, 1, .inr (.inl fo)))] s.heap := hP
  have hl := lv_entry ([.ref h0, .int k1, .long g1, .ref ho]) (n := 6) (Nat.le_of_ble_eq_true rfl)
  rw [lg_entry_eq]
  generalize (lg_sl ([.ref h0, .int k1, .long g1, .ref ho]) ++ List.replicate (6 - (lg_sl ([.ref h0, .int k1, .long g1, .ref ho])).length) Slot.unset).toArray = ls at hl ⊢
  have hl : lv_has ls 6 [(0, .ref h0), (1, .int k1), (2, .long g1), (4, .ref ho)] := hl
  have htab : c.exceptionTable.toList = [⟨0, 11, 14, 27⟩, ⟨0, 11, 18, 21⟩, ⟨0, 11, 22, 13⟩] := vx_table (x := yL_records) B (hts _ List.mem_cons_self)
  refine lv_aload hx hb dL_records_0 (lv_at hl 3 rfl) ?_
  refine lv_iconst (v := 0) hx hb dL_records_2 (by decide) ?_
  refine lv_aload_n hx hb dL_records_3 rfl (lv_at hl 0 rfl) ?_
  refine lv_iload_n hx hb dL_records_4 rfl (lv_at hl 1 rfl) ?_
  refine lv_lload_n hx hb dL_records_5 rfl (lv_at hl 2 rfl) ?_
  have hPc := hP.sub (ws' := [(h0, .inr (12, [a0, a1, a2, a3, .ref h4, a5, a6, a7, a8])), (h4, .inr (4, [b0, .int 0, b2, b3, b4, b5, b6, b7, b8, b9, b10, b11, b12, b13]))]) [0, 1] rfl
  have hDc := hD.sub (ws' := [(h0, .inr (12, [a0, a1, a2, a3, .ref h4, a5, a6, a7, a8])), (h4, .inr (4, [b0, .int 0, b2, b3, b4, b5, b6, b7, b8, b9, b10, b11, b12, b13]))]) [0, 1] (by decide) rfl
  have hKc := hK.sub (tys' := []) [] rfl
  have hFc := va_free (wc := [(h0, .inr (12, [a0, a1, a2, a3, .ref h4, a5, a6, a7, a8])), (h4, .inr (4, [b0, .int 0, b2, b3, b4, b5, b6, b7, b8, b9, b10, b11, b12, b13]))]) hD hS hA [0, 1] rfl
  have h_1 : 1 ≤ 1 := by decide
  have h_2 : 6 ≤ 6 := by decide
  refine xz_callX (vx_runV (As := [.int k1, .long g1]) (rest := [.int 0, .ref ho]) ⟨hx, hb, hml, hown, hts⟩ (x_X12_records l hl0 dC dI h0 h4 k1 g1 a0 a1 a2 a3 a5 a6 a7 a8 b0 b2 b3 b4 b5 b6 b7 b8 b9 b10 b11 b12 b13 _) (cwV 2 hts wV_L_records_X12_records_82 rfl rfl rfl (by decide +kernel) ⟨Nat.le_of_ble_eq_true rfl, Nat.le_of_ble_eq_true rfl⟩) ⟨fun a U g mk q => by obtain ⟨q0, q1, qP, qK, qD, qf0, qf1⟩ := q; exact ⟨q0, q1, qP, va_K.moved (u := U) (U := U.calling g mk a) (Vm.Alike.refl U.vm) qK, qD, xz_F.same rfl qf0, xz_Z.same (Vm.Alike.refl _) rfl qf1⟩, va_recv hKc hPc (ci := 12) (q0 := 0) rfl rfl, fun U hU hW => ⟨rfl, by rw [hU], by rw [hU]; exact hPc, va_K.moved hW.alike hKc, hDc.weaken (fun _ _ _ _ => trivial), xz_F.warm hW hF9, (hZ9.to hS hFc hW.alike hU)⟩⟩ rfl rfl hl.1 rfl (lv_room (Nat.le_of_ble_eq_true rfl)) dL_records_6 ⟨h_1, h_2⟩) (fun _ _ _ h9 => by obtain ⟨⟨_, h9⟩, _⟩ := h9; simp at h9) hS hFc (fun q _ h => hFc q h) (fun E ce x3 u t H1 locs ht hvm hw hB hz1 hk1 hS hce hcv hcl => ?_)
  obtain ⟨hE, hP1, hK1, hD1⟩ := hB
  subst hE
  rw [ht] at hP1
  have hK1 := va_K.moved hvm.symm hK1
  obtain ⟨hP, hD⟩ := va_join (wr := [(ho, .inl (cO, 1, .inr (.inl fo)))]) (w1 := [(h0, .inr (12, [a0, a1, a2, a3, .ref h4, a5, a6, a7, a8])), (h4, .inr (4, [b0, .int 0, b2, b3, b4, b5, b6, b7, b8, b9, b10, b11, b12, b13]))]) hP hD [0, 1] [2] rfl rfl (by decide) (by decide) hk1 hFc hP1 hD1
  have hK := (hK.sub (tys' := [(cO, .long)]) [0] rfl).app hK1
  generalize H1 = H at hP hS hce ⊢
  have hP : va_P (dC, dI) vwCl [(ho, .inl (cO, 1, .inr (.inl fo))), (h0, .inr (12, [a0, a1, a2, a3, .ref h4, a5, a6, a7, a8])), (h4, .inr (4, [b0, .int 0, b2, b3, b4, b5, b6, b7, b8, b9, b10, b11, b12, b13]))] H := hP
  have hD : va_D A [(ho, .inl (cO, 1, .inr (.inl fo))), (h0, .inr (12, [a0, a1, a2, a3, .ref h4, a5, a6, a7, a8])), (h4, .inr (4, [b0, .int 0, b2, b3, b4, b5, b6, b7, b8, b9, b10, b11, b12, b13]))] := hD
  have hK : va_K (dC, dI) vwCl [(cO, .long)] s := hK
  refine vx_widen (k := 1) (n := 6) (by decide) (by decide) ?_
  refine vx_catch (own := RL) (name := "java/lang/IndexOutOfBoundsException") (E := "java/lang/IndexOutOfBoundsException") hown [] ⟨0, 11, 14, 27⟩ [⟨0, 11, 18, 21⟩, ⟨0, 11, 22, 13⟩] htab (fun z9 hz9 => nomatch hz9) (by decide) (by decide) (hts (.classLink RL 27 "java/lang/IndexOutOfBoundsException") (wm_L_records 4 rfl)) (va_Nw.use rfl hF9.2.2.2.2.2.1) hce hcv hcl ?_
  refine lv_astore (lv' := [(5, .ref x3), (0, .ref h0), (1, .int k1), (2, .long g1), (4, .ref ho)]) hx hb dL_records_14 hl (by decide) rfl (fun ls hl => ?_)
  refine lv_iconst (v := 1) hx hb dL_records_16 (by decide) ?_
  have hP9 := hP.sub (ws' := [(h0, .inr (12, [a0, a1, a2, a3, .ref h4, a5, a6, a7, a8])), (h4, .inr (4, [b0, .int 0, b2, b3, b4, b5, b6, b7, b8, b9, b10, b11, b12, b13])), (ho, .inl (cO, 1, .inr (.inl fo)))]) [1, 2, 0] rfl
  have hD9 := hD.sub (ws' := [(h0, .inr (12, [a0, a1, a2, a3, .ref h4, a5, a6, a7, a8])), (h4, .inr (4, [b0, .int 0, b2, b3, b4, b5, b6, b7, b8, b9, b10, b11, b12, b13])), (ho, .inl (cO, 1, .inr (.inl fo)))]) [1, 2, 0] (by decide) rfl
  have hK9 := hK.sub (tys' := [(cO, .long)]) [0] rfl
  refine W.widen (k := 1) (n := 6) (by decide) (by decide) ?_
  exact W.iret (v := 1) hx hb hr (fun t ht hW => ⟨⟨1, (), rfl, rfl, by rw [ht]; exact hP9, va_K.moved hW.alike hK9, hD9⟩, hS.F ht⟩) hS.2.2 dL_records_17

abbrev ar_L_task (dC : Nat → ClassId) (dI : Nat → Nat → Nat) (A : Nat → Prop) (h0 h7 ho : Nat) (cO : ClassId) (fo : Nat → Int64) (k1 k2 : Int32) (a0 a1 a2 a3 a4 a5 a6 a8 b0 b1 b2 b3 b4 b5 b6 b7 b8 b9 b11 b12 b13 b14 b15 b16 b17 b18 b19 : Value) (_ : Unit) (t : State) : Prop := va_P (dC, dI) vwCl [(h0, .inr (12, [a0, a1, a2, a3, a4, a5, a6, .ref h7, a8])), (h7, .inr (9, [b0, b1, b2, b3, b4, b5, b6, b7, b8, b9, .int 0, b11, b12, b13, b14, b15, b16, b17, b18, b19])), (ho, .inl (cO, 1, .inr (.inl fo)))] t.heap ∧ va_K (dC, dI) vwCl [(cO, .long)] t ∧ va_D A [(h0, .inr (12, [a0, a1, a2, a3, a4, a5, a6, .ref h7, a8])), (h7, .inr (9, [b0, b1, b2, b3, b4, b5, b6, b7, b8, b9, .int 0, b11, b12, b13, b14, b15, b16, b17, b18, b19])), (ho, .inl (cO, 1, .inr (.inl fo)))]
theorem dL_task_0 : decode cL_task 0 = .ok (.aload_n 3, 1) := by decide +kernel
theorem dL_task_1 : decode cL_task 1 = .ok (.iconst 0, 1) := by decide +kernel
theorem dL_task_2 : decode cL_task 2 = .ok (.aload_n 0, 1) := by decide +kernel
theorem dL_task_3 : decode cL_task 3 = .ok (.iload_n 1, 1) := by decide +kernel
theorem dL_task_4 : decode cL_task 4 = .ok (.iload_n 2, 1) := by decide +kernel
theorem dL_task_5 : decode cL_task 5 = .ok (.invokevirtual 76, 3) := by decide +kernel
theorem dL_task_12 : decode cL_task 12 = .ok (.astore 4, 2) := by decide +kernel
theorem dL_task_14 : decode cL_task 14 = .ok (.iconst 1, 1) := by decide +kernel
theorem dL_task_15 : decode cL_task 15 = .ok (.ireturn, 1) := by decide +kernel
def ww_L_task : List Cond := [.methodLink RL 76 yX12_task, .instanceMethod yX12_task, .selects RX12 yX12_task yX12_task, .initialized RX12, .classLink RL 27 "java/lang/IndexOutOfBoundsException"]
def wv_L_task : List Cond := .codeWith yL_task cL_task 5 (some .int) [(0, 9, 12, 27), (0, 9, 16, 21), (0, 9, 20, 13)] :: (ww_L_task ++ (wv_X12_task ++ []))
theorem wm_L_task {w : Cond} (i : Nat) (h : ww_L_task[i]? = some w) : w ∈ wv_L_task := List.mem_cons_of_mem _ (List.mem_append_left _ (List.mem_of_getElem? h))
set_option maxRecDepth 100000 in
theorem gw_L_task : wv_L_task.all goodWord = true := by decide +kernel
theorem wg_L_task_X12_task : GoodIn wv_L_task wv_X12_task := goodIn_sub (fun w h => List.mem_cons_of_mem _ (List.mem_append_right _ (List.mem_append_left _ h))) gw_X12_task
theorem wV_L_task_X12_task_76 : GoodIn wv_L_task (wsV RL 76 RX12 yX12_task wv_X12_task) := goodIn_app (goodIn_sub (fun w h => by simp only [List.mem_cons, List.not_mem_nil, or_false] at h; rcases h with rfl | rfl | rfl | rfl <;> first | exact wm_L_task 0 rfl | exact wm_L_task 1 rfl | exact wm_L_task 2 rfl | exact wm_L_task 3 rfl) (by decide +kernel)) wg_L_task_X12_task
set_option maxHeartbeats 4000000 in
set_option maxRecDepth 100000 in
/-- the law's task on a fresh house -/
theorem r_L_task (l : Launch) (hl0 : l.stackTraces = false) (dC : Nat → ClassId) (dI : Nat → Nat → Nat) (h0 h7 ho : Nat) (cO : ClassId) (fo : Nat → Int64) (k1 k2 : Int32) (a0 a1 a2 a3 a4 a5 a6 a8 b0 b1 b2 b3 b4 b5 b6 b7 b8 b9 b11 b12 b13 b14 b15 b16 b17 b18 b19 : Value) (sz : Nat) : Met l yL_task wv_L_task ({ frames := 7, cells := 1, slots := 6, locals := 103 }) (va_Pc [.ref h0, .int k1, .int k2, .ref ho] (fun U => U.heap.size = sz ∧ va_P (dC, dI) vwCl [(h0, .inr (12, [a0, a1, a2, a3, a4, a5, a6, .ref h7, a8])), (h7, .inr (9, [b0, b1, b2, b3, b4, b5, b6, b7, b8, b9, .int 0, b11, b12, b13, b14, b15, b16, b17, b18, b19])), (ho, .inl (cO, 1, .inr (.inl fo)))] U.heap ∧ va_K (dC, dI) vwCl [(cO, .long)] U ∧ va_D (fun _ => True) [(h0, .inr (12, [a0, a1, a2, a3, a4, a5, a6, .ref h7, a8])), (h7, .inr (9, [b0, b1, b2, b3, b4, b5, b6, b7, b8, b9, .int 0, b11, b12, b13, b14, b15, b16, b17, b18, b19])), (ho, .inl (cO, 1, .inr (.inl fo)))] ∧ xz_F U ∧ xz_Z (va_A [(h0, .inr (12, [a0, a1, a2, a3, a4, a5, a6, .ref h7, a8])), (h7, .inr (9, [b0, b1, b2, b3, b4, b5, b6, b7, b8, b9, .int 0, b11, b12, b13, b14, b15, b16, b17, b18, b19])), (ho, .inl (cO, 1, .inr (.inl fo)))] sz) U U.heap)) (va_Qi (fun r (_ : Unit) => r = 1) (ar_L_task dC dI (va_A [(h0, .inr (12, [a0, a1, a2, a3, a4, a5, a6, .ref h7, a8])), (h7, .inr (9, [b0, b1, b2, b3, b4, b5, b6, b7, b8, b9, .int 0, b11, b12, b13, b14, b15, b16, b17, b18, b19])), (ho, .inl (cO, 1, .inr (.inl fo)))] sz) h0 h7 ho cO fo k1 k2 a0 a1 a2 a3 a4 a5 a6 a8 b0 b1 b2 b3 b4 b5 b6 b7 b8 b9 b11 b12 b13 b14 b15 b16 b17 b18 b19) (va_A [(h0, .inr (12, [a0, a1, a2, a3, a4, a5, a6, .ref h7, a8])), (h7, .inr (9, [b0, b1, b2, b3, b4, b5, b6, b7, b8, b9, .int 0, b11, b12, b13, b14, b15, b16, b17, b18, b19])), (ho, .inl (cO, 1, .inr (.inl fo)))] sz)) 1 6 (va_A [(h0, .inr (12, [a0, a1, a2, a3, a4, a5, a6, .ref h7, a8])), (h7, .inr (9, [b0, b1, b2, b3, b4, b5, b6, b7, b8, b9, .int 0, b11, b12, b13, b14, b15, b16, b17, b18, b19])), (ho, .inl (cO, 1, .inr (.inl fo)))] sz) := by
  refine va_MetW (cc := cL_task) (maxL := 5) (ret := (some .int)) (hh := [(0, 9, 12, 27), (0, 9, 16, 21), (0, 9, 20, 13)]) (by decide) rfl ?_
  intro p e s m args below meth c s₁ B hml hv
  obtain ⟨rfl, hsz, hP, hK, hD0, hF9, hZ9⟩ := hv
  have hx := B.exec
  have hb := B.bytes
  have hr := B.returns
  have hts := atoms_spec (ws := wv_L_task) B.pre
  have hown : s.vm.findClass RL = some m.cls := findClass_of_methodNamed B.named
  have hlocks := B.notSynchronized
  subst hsz
  have hD := hD0.self (sz := s.heap.size)
  generalize hAe : va_A [(h0, .inr (12, [a0, a1, a2, a3, a4, a5, a6, .ref h7, a8])), (h7, .inr (9, [b0, b1, b2, b3, b4, b5, b6, b7, b8, b9, .int 0, b11, b12, b13, b14, b15, b16, b17, b18, b19])), (ho, .inl (cO, 1, .inr (.inl fo)))] s.heap.size = A at hD hZ9 ⊢
  have hA : ∀ q : Nat, s.heap.size ≤ q → A q := fun q h => by rw [← hAe]; exact Or.inr h
  have hS : va_S A s.heap s.heap [] := va_S.rf
  have hP : va_P (dC, dI) vwCl [(h0, .inr (12, [a0, a1, a2, a3, a4, a5, a6, .ref h7, a8])), (h7, .inr (9, [b0, b1, b2, b3, b4, b5, b6, b7, b8, b9, .int 0, b11, b12, b13, b14, b15, b16, b17, b18, b19])), (ho, .inl (cO, 1, .inr (.inl fo)))] s.heap := hP
  have hl := lv_entry ([.ref h0, .int k1, .int k2, .ref ho]) (n := 5) (Nat.le_of_ble_eq_true rfl)
  rw [lg_entry_eq]
  generalize (lg_sl ([.ref h0, .int k1, .int k2, .ref ho]) ++ List.replicate (5 - (lg_sl ([.ref h0, .int k1, .int k2, .ref ho])).length) Slot.unset).toArray = ls at hl ⊢
  have hl : lv_has ls 5 [(0, .ref h0), (1, .int k1), (2, .int k2), (3, .ref ho)] := hl
  have htab : c.exceptionTable.toList = [⟨0, 9, 12, 27⟩, ⟨0, 9, 16, 21⟩, ⟨0, 9, 20, 13⟩] := vx_table (x := yL_task) B (hts _ List.mem_cons_self)
  refine lv_aload_n hx hb dL_task_0 rfl (lv_at hl 3 rfl) ?_
  refine lv_iconst (v := 0) hx hb dL_task_1 (by decide) ?_
  refine lv_aload_n hx hb dL_task_2 rfl (lv_at hl 0 rfl) ?_
  refine lv_iload_n hx hb dL_task_3 rfl (lv_at hl 1 rfl) ?_
  refine lv_iload_n hx hb dL_task_4 rfl (lv_at hl 2 rfl) ?_
  have hPc := hP.sub (ws' := [(h0, .inr (12, [a0, a1, a2, a3, a4, a5, a6, .ref h7, a8])), (h7, .inr (9, [b0, b1, b2, b3, b4, b5, b6, b7, b8, b9, .int 0, b11, b12, b13, b14, b15, b16, b17, b18, b19]))]) [0, 1] rfl
  have hDc := hD.sub (ws' := [(h0, .inr (12, [a0, a1, a2, a3, a4, a5, a6, .ref h7, a8])), (h7, .inr (9, [b0, b1, b2, b3, b4, b5, b6, b7, b8, b9, .int 0, b11, b12, b13, b14, b15, b16, b17, b18, b19]))]) [0, 1] (by decide) rfl
  have hKc := hK.sub (tys' := []) [] rfl
  have hFc := va_free (wc := [(h0, .inr (12, [a0, a1, a2, a3, a4, a5, a6, .ref h7, a8])), (h7, .inr (9, [b0, b1, b2, b3, b4, b5, b6, b7, b8, b9, .int 0, b11, b12, b13, b14, b15, b16, b17, b18, b19]))]) hD hS hA [0, 1] rfl
  have h_1 : 1 ≤ 1 := by decide
  have h_2 : 6 ≤ 6 := by decide
  refine xz_callX (vx_runV (As := [.int k1, .int k2]) (rest := [.int 0, .ref ho]) ⟨hx, hb, hml, hown, hts⟩ (x_X12_task l hl0 dC dI h0 h7 k1 k2 a0 a1 a2 a3 a4 a5 a6 a8 b0 b1 b2 b3 b4 b5 b6 b7 b8 b9 b11 b12 b13 b14 b15 b16 b17 b18 b19 _) (cwV 2 hts wV_L_task_X12_task_76 rfl rfl rfl (by decide +kernel) ⟨Nat.le_of_ble_eq_true rfl, Nat.le_of_ble_eq_true rfl⟩) ⟨fun a U g mk q => by obtain ⟨q0, q1, qP, qK, qD, qf0, qf1⟩ := q; exact ⟨q0, q1, qP, va_K.moved (u := U) (U := U.calling g mk a) (Vm.Alike.refl U.vm) qK, qD, xz_F.same rfl qf0, xz_Z.same (Vm.Alike.refl _) rfl qf1⟩, va_recv hKc hPc (ci := 12) (q0 := 0) rfl rfl, fun U hU hW => ⟨rfl, by rw [hU], by rw [hU]; exact hPc, va_K.moved hW.alike hKc, hDc.weaken (fun _ _ _ _ => trivial), xz_F.warm hW hF9, (hZ9.to hS hFc hW.alike hU)⟩⟩ rfl rfl hl.1 rfl (lv_room (Nat.le_of_ble_eq_true rfl)) dL_task_5 ⟨h_1, h_2⟩) (fun _ _ _ h9 => by obtain ⟨⟨_, h9⟩, _⟩ := h9; simp at h9) hS hFc (fun q _ h => hFc q h) (fun E ce x3 u t H1 locs ht hvm hw hB hz1 hk1 hS hce hcv hcl => ?_)
  obtain ⟨hE, hP1, hK1, hD1⟩ := hB
  subst hE
  rw [ht] at hP1
  have hK1 := va_K.moved hvm.symm hK1
  obtain ⟨hP, hD⟩ := va_join (wr := [(ho, .inl (cO, 1, .inr (.inl fo)))]) (w1 := [(h0, .inr (12, [a0, a1, a2, a3, a4, a5, a6, .ref h7, a8])), (h7, .inr (9, [b0, b1, b2, b3, b4, b5, b6, b7, b8, b9, .int 0, b11, b12, b13, b14, b15, b16, b17, b18, b19]))]) hP hD [0, 1] [2] rfl rfl (by decide) (by decide) hk1 hFc hP1 hD1
  have hK := (hK.sub (tys' := [(cO, .long)]) [0] rfl).app hK1
  generalize H1 = H at hP hS hce ⊢
  have hP : va_P (dC, dI) vwCl [(ho, .inl (cO, 1, .inr (.inl fo))), (h0, .inr (12, [a0, a1, a2, a3, a4, a5, a6, .ref h7, a8])), (h7, .inr (9, [b0, b1, b2, b3, b4, b5, b6, b7, b8, b9, .int 0, b11, b12, b13, b14, b15, b16, b17, b18, b19]))] H := hP
  have hD : va_D A [(ho, .inl (cO, 1, .inr (.inl fo))), (h0, .inr (12, [a0, a1, a2, a3, a4, a5, a6, .ref h7, a8])), (h7, .inr (9, [b0, b1, b2, b3, b4, b5, b6, b7, b8, b9, .int 0, b11, b12, b13, b14, b15, b16, b17, b18, b19]))] := hD
  have hK : va_K (dC, dI) vwCl [(cO, .long)] s := hK
  refine vx_widen (k := 1) (n := 6) (by decide) (by decide) ?_
  refine vx_catch (own := RL) (name := "java/lang/IndexOutOfBoundsException") (E := "java/lang/IndexOutOfBoundsException") hown [] ⟨0, 9, 12, 27⟩ [⟨0, 9, 16, 21⟩, ⟨0, 9, 20, 13⟩] htab (fun z9 hz9 => nomatch hz9) (by decide) (by decide) (hts (.classLink RL 27 "java/lang/IndexOutOfBoundsException") (wm_L_task 4 rfl)) (va_Nw.use rfl hF9.2.2.2.2.2.1) hce hcv hcl ?_
  refine lv_astore (lv' := [(4, .ref x3), (0, .ref h0), (1, .int k1), (2, .int k2), (3, .ref ho)]) hx hb dL_task_12 hl (by decide) rfl (fun ls hl => ?_)
  refine lv_iconst (v := 1) hx hb dL_task_14 (by decide) ?_
  have hP9 := hP.sub (ws' := [(h0, .inr (12, [a0, a1, a2, a3, a4, a5, a6, .ref h7, a8])), (h7, .inr (9, [b0, b1, b2, b3, b4, b5, b6, b7, b8, b9, .int 0, b11, b12, b13, b14, b15, b16, b17, b18, b19])), (ho, .inl (cO, 1, .inr (.inl fo)))]) [1, 2, 0] rfl
  have hD9 := hD.sub (ws' := [(h0, .inr (12, [a0, a1, a2, a3, a4, a5, a6, .ref h7, a8])), (h7, .inr (9, [b0, b1, b2, b3, b4, b5, b6, b7, b8, b9, .int 0, b11, b12, b13, b14, b15, b16, b17, b18, b19])), (ho, .inl (cO, 1, .inr (.inl fo)))]) [1, 2, 0] (by decide) rfl
  have hK9 := hK.sub (tys' := [(cO, .long)]) [0] rfl
  refine W.widen (k := 1) (n := 6) (by decide) (by decide) ?_
  exact W.iret (v := 1) hx hb hr (fun t ht hW => ⟨⟨1, (), rfl, rfl, by rw [ht]; exact hP9, va_K.moved hW.alike hK9, hD9⟩, hS.F ht⟩) hS.2.2 dL_task_15

abbrev ar_L_mark (dC : Nat → ClassId) (dI : Nat → Nat → Nat) (A : Nat → Prop) (h0 h7 ho : Nat) (cO : ClassId) (fo : Nat → Int64) (a0 a1 a2 a3 a4 a5 a6 a8 b0 b1 b2 b3 b4 b5 b6 b7 b8 b9 b11 b12 b13 b14 b15 b16 b17 b18 b19 : Value) (_ : Unit) (t : State) : Prop := va_P (dC, dI) vwCl [(h0, .inr (12, [a0, a1, a2, a3, a4, a5, a6, .ref h7, a8])), (h7, .inr (9, [b0, b1, b2, b3, b4, b5, b6, b7, b8, b9, .int 0, b11, b12, b13, b14, b15, b16, b17, b18, b19])), (ho, .inl (cO, 1, .inr (.inl fo)))] t.heap ∧ va_K (dC, dI) vwCl [(cO, .long)] t ∧ va_D A [(h0, .inr (12, [a0, a1, a2, a3, a4, a5, a6, .ref h7, a8])), (h7, .inr (9, [b0, b1, b2, b3, b4, b5, b6, b7, b8, b9, .int 0, b11, b12, b13, b14, b15, b16, b17, b18, b19])), (ho, .inl (cO, 1, .inr (.inl fo)))]
theorem dL_mark_0 : decode cL_mark 0 = .ok (.aload_n 1, 1) := by decide +kernel
theorem dL_mark_1 : decode cL_mark 1 = .ok (.iconst 0, 1) := by decide +kernel
theorem dL_mark_2 : decode cL_mark 2 = .ok (.aload_n 0, 1) := by decide +kernel
theorem dL_mark_3 : decode cL_mark 3 = .ok (.invokevirtual 45, 3) := by decide +kernel
theorem dL_mark_11 : decode cL_mark 11 = .ok (.astore_n 2, 1) := by decide +kernel
theorem dL_mark_12 : decode cL_mark 12 = .ok (.iconst 1, 1) := by decide +kernel
theorem dL_mark_13 : decode cL_mark 13 = .ok (.ireturn, 1) := by decide +kernel
def ww_L_mark : List Cond := [.methodLink RL 45 yX12_mark, .instanceMethod yX12_mark, .selects RX12 yX12_mark yX12_mark, .initialized RX12, .classLink RL 21 "java/lang/IllegalStateException"]
def wv_L_mark : List Cond := .codeWith yL_mark cL_mark 3 (some .int) [(0, 8, 11, 21)] :: (ww_L_mark ++ (wv_X12_mark ++ []))
theorem wm_L_mark {w : Cond} (i : Nat) (h : ww_L_mark[i]? = some w) : w ∈ wv_L_mark := List.mem_cons_of_mem _ (List.mem_append_left _ (List.mem_of_getElem? h))
set_option maxRecDepth 100000 in
theorem gw_L_mark : wv_L_mark.all goodWord = true := by decide +kernel
theorem wg_L_mark_X12_mark : GoodIn wv_L_mark wv_X12_mark := goodIn_sub (fun w h => List.mem_cons_of_mem _ (List.mem_append_right _ (List.mem_append_left _ h))) gw_X12_mark
theorem wV_L_mark_X12_mark_45 : GoodIn wv_L_mark (wsV RL 45 RX12 yX12_mark wv_X12_mark) := goodIn_app (goodIn_sub (fun w h => by simp only [List.mem_cons, List.not_mem_nil, or_false] at h; rcases h with rfl | rfl | rfl | rfl <;> first | exact wm_L_mark 0 rfl | exact wm_L_mark 1 rfl | exact wm_L_mark 2 rfl | exact wm_L_mark 3 rfl) (by decide +kernel)) wg_L_mark_X12_mark
set_option maxHeartbeats 4000000 in
set_option maxRecDepth 100000 in
/-- the law's mark on a fresh house -/
theorem r_L_mark (l : Launch) (hl0 : l.stackTraces = false) (dC : Nat → ClassId) (dI : Nat → Nat → Nat) (h0 h7 ho : Nat) (cO : ClassId) (fo : Nat → Int64) (a0 a1 a2 a3 a4 a5 a6 a8 b0 b1 b2 b3 b4 b5 b6 b7 b8 b9 b11 b12 b13 b14 b15 b16 b17 b18 b19 : Value) (sz : Nat) : Met l yL_mark wv_L_mark ({ frames := 8, cells := 1, slots := 6, locals := 121 }) (va_Pc [.ref h0, .ref ho] (fun U => U.heap.size = sz ∧ va_P (dC, dI) vwCl [(h0, .inr (12, [a0, a1, a2, a3, a4, a5, a6, .ref h7, a8])), (h7, .inr (9, [b0, b1, b2, b3, b4, b5, b6, b7, b8, b9, .int 0, b11, b12, b13, b14, b15, b16, b17, b18, b19])), (ho, .inl (cO, 1, .inr (.inl fo)))] U.heap ∧ va_K (dC, dI) vwCl [(cO, .long)] U ∧ va_D (fun _ => True) [(h0, .inr (12, [a0, a1, a2, a3, a4, a5, a6, .ref h7, a8])), (h7, .inr (9, [b0, b1, b2, b3, b4, b5, b6, b7, b8, b9, .int 0, b11, b12, b13, b14, b15, b16, b17, b18, b19])), (ho, .inl (cO, 1, .inr (.inl fo)))] ∧ xz_F U ∧ xz_Z (va_A [(h0, .inr (12, [a0, a1, a2, a3, a4, a5, a6, .ref h7, a8])), (h7, .inr (9, [b0, b1, b2, b3, b4, b5, b6, b7, b8, b9, .int 0, b11, b12, b13, b14, b15, b16, b17, b18, b19])), (ho, .inl (cO, 1, .inr (.inl fo)))] sz) U U.heap)) (va_Qi (fun r (_ : Unit) => r = 1) (ar_L_mark dC dI (va_A [(h0, .inr (12, [a0, a1, a2, a3, a4, a5, a6, .ref h7, a8])), (h7, .inr (9, [b0, b1, b2, b3, b4, b5, b6, b7, b8, b9, .int 0, b11, b12, b13, b14, b15, b16, b17, b18, b19])), (ho, .inl (cO, 1, .inr (.inl fo)))] sz) h0 h7 ho cO fo a0 a1 a2 a3 a4 a5 a6 a8 b0 b1 b2 b3 b4 b5 b6 b7 b8 b9 b11 b12 b13 b14 b15 b16 b17 b18 b19) (va_A [(h0, .inr (12, [a0, a1, a2, a3, a4, a5, a6, .ref h7, a8])), (h7, .inr (9, [b0, b1, b2, b3, b4, b5, b6, b7, b8, b9, .int 0, b11, b12, b13, b14, b15, b16, b17, b18, b19])), (ho, .inl (cO, 1, .inr (.inl fo)))] sz)) 1 6 (va_A [(h0, .inr (12, [a0, a1, a2, a3, a4, a5, a6, .ref h7, a8])), (h7, .inr (9, [b0, b1, b2, b3, b4, b5, b6, b7, b8, b9, .int 0, b11, b12, b13, b14, b15, b16, b17, b18, b19])), (ho, .inl (cO, 1, .inr (.inl fo)))] sz) := by
  refine va_MetW (cc := cL_mark) (maxL := 3) (ret := (some .int)) (hh := [(0, 8, 11, 21)]) (by decide) rfl ?_
  intro p e s m args below meth c s₁ B hml hv
  obtain ⟨rfl, hsz, hP, hK, hD0, hF9, hZ9⟩ := hv
  have hx := B.exec
  have hb := B.bytes
  have hr := B.returns
  have hts := atoms_spec (ws := wv_L_mark) B.pre
  have hown : s.vm.findClass RL = some m.cls := findClass_of_methodNamed B.named
  have hlocks := B.notSynchronized
  subst hsz
  have hD := hD0.self (sz := s.heap.size)
  generalize hAe : va_A [(h0, .inr (12, [a0, a1, a2, a3, a4, a5, a6, .ref h7, a8])), (h7, .inr (9, [b0, b1, b2, b3, b4, b5, b6, b7, b8, b9, .int 0, b11, b12, b13, b14, b15, b16, b17, b18, b19])), (ho, .inl (cO, 1, .inr (.inl fo)))] s.heap.size = A at hD hZ9 ⊢
  have hA : ∀ q : Nat, s.heap.size ≤ q → A q := fun q h => by rw [← hAe]; exact Or.inr h
  have hS : va_S A s.heap s.heap [] := va_S.rf
  have hP : va_P (dC, dI) vwCl [(h0, .inr (12, [a0, a1, a2, a3, a4, a5, a6, .ref h7, a8])), (h7, .inr (9, [b0, b1, b2, b3, b4, b5, b6, b7, b8, b9, .int 0, b11, b12, b13, b14, b15, b16, b17, b18, b19])), (ho, .inl (cO, 1, .inr (.inl fo)))] s.heap := hP
  have hl := lv_entry ([.ref h0, .ref ho]) (n := 3) (Nat.le_of_ble_eq_true rfl)
  rw [lg_entry_eq]
  generalize (lg_sl ([.ref h0, .ref ho]) ++ List.replicate (3 - (lg_sl ([.ref h0, .ref ho])).length) Slot.unset).toArray = ls at hl ⊢
  have hl : lv_has ls 3 [(0, .ref h0), (1, .ref ho)] := hl
  have htab : c.exceptionTable.toList = [⟨0, 8, 11, 21⟩] := vx_table (x := yL_mark) B (hts _ List.mem_cons_self)
  refine lv_aload_n hx hb dL_mark_0 rfl (lv_at hl 1 rfl) ?_
  refine lv_iconst (v := 0) hx hb dL_mark_1 (by decide) ?_
  refine lv_aload_n hx hb dL_mark_2 rfl (lv_at hl 0 rfl) ?_
  have hPc := hP.sub (ws' := [(h0, .inr (12, [a0, a1, a2, a3, a4, a5, a6, .ref h7, a8])), (h7, .inr (9, [b0, b1, b2, b3, b4, b5, b6, b7, b8, b9, .int 0, b11, b12, b13, b14, b15, b16, b17, b18, b19]))]) [0, 1] rfl
  have hDc := hD.sub (ws' := [(h0, .inr (12, [a0, a1, a2, a3, a4, a5, a6, .ref h7, a8])), (h7, .inr (9, [b0, b1, b2, b3, b4, b5, b6, b7, b8, b9, .int 0, b11, b12, b13, b14, b15, b16, b17, b18, b19]))]) [0, 1] (by decide) rfl
  have hKc := hK.sub (tys' := []) [] rfl
  have hFc := va_free (wc := [(h0, .inr (12, [a0, a1, a2, a3, a4, a5, a6, .ref h7, a8])), (h7, .inr (9, [b0, b1, b2, b3, b4, b5, b6, b7, b8, b9, .int 0, b11, b12, b13, b14, b15, b16, b17, b18, b19]))]) hD hS hA [0, 1] rfl
  have h_1 : 1 ≤ 1 := by decide
  have h_2 : 6 ≤ 6 := by decide
  refine xz_callX (vx_runV (As := []) (rest := [.int 0, .ref ho]) ⟨hx, hb, hml, hown, hts⟩ (x_X12_mark l hl0 dC dI h0 h7 a0 a1 a2 a3 a4 a5 a6 a8 b0 b1 b2 b3 b4 b5 b6 b7 b8 b9 b11 b12 b13 b14 b15 b16 b17 b18 b19 _) (cwV 0 hts wV_L_mark_X12_mark_45 rfl rfl rfl (by decide +kernel) ⟨Nat.le_of_ble_eq_true rfl, Nat.le_of_ble_eq_true rfl⟩) ⟨fun a U g mk q => by obtain ⟨q0, q1, qP, qK, qD, qf0, qf1⟩ := q; exact ⟨q0, q1, qP, va_K.moved (u := U) (U := U.calling g mk a) (Vm.Alike.refl U.vm) qK, qD, xz_F.same rfl qf0, xz_Z.same (Vm.Alike.refl _) rfl qf1⟩, va_recv hKc hPc (ci := 12) (q0 := 0) rfl rfl, fun U hU hW => ⟨rfl, by rw [hU], by rw [hU]; exact hPc, va_K.moved hW.alike hKc, hDc.weaken (fun _ _ _ _ => trivial), xz_F.warm hW hF9, (hZ9.to hS hFc hW.alike hU)⟩⟩ rfl rfl hl.1 rfl (lv_room (Nat.le_of_ble_eq_true rfl)) dL_mark_3 ⟨h_1, h_2⟩) (fun _ _ _ h9 => by obtain ⟨⟨_, h9⟩, _⟩ := h9; simp at h9) hS hFc (fun q _ h => hFc q h) (fun E ce x3 u t H1 locs ht hvm hw hB hz1 hk1 hS hce hcv hcl => ?_)
  obtain ⟨hE, hP1, hK1, hD1⟩ := hB
  subst hE
  rw [ht] at hP1
  have hK1 := va_K.moved hvm.symm hK1
  obtain ⟨hP, hD⟩ := va_join (wr := [(ho, .inl (cO, 1, .inr (.inl fo)))]) (w1 := [(h0, .inr (12, [a0, a1, a2, a3, a4, a5, a6, .ref h7, a8])), (h7, .inr (9, [b0, b1, b2, b3, b4, b5, b6, b7, b8, b9, .int 0, b11, b12, b13, b14, b15, b16, b17, b18, b19]))]) hP hD [0, 1] [2] rfl rfl (by decide) (by decide) hk1 hFc hP1 hD1
  have hK := (hK.sub (tys' := [(cO, .long)]) [0] rfl).app hK1
  generalize H1 = H at hP hS hce ⊢
  have hP : va_P (dC, dI) vwCl [(ho, .inl (cO, 1, .inr (.inl fo))), (h0, .inr (12, [a0, a1, a2, a3, a4, a5, a6, .ref h7, a8])), (h7, .inr (9, [b0, b1, b2, b3, b4, b5, b6, b7, b8, b9, .int 0, b11, b12, b13, b14, b15, b16, b17, b18, b19]))] H := hP
  have hD : va_D A [(ho, .inl (cO, 1, .inr (.inl fo))), (h0, .inr (12, [a0, a1, a2, a3, a4, a5, a6, .ref h7, a8])), (h7, .inr (9, [b0, b1, b2, b3, b4, b5, b6, b7, b8, b9, .int 0, b11, b12, b13, b14, b15, b16, b17, b18, b19]))] := hD
  have hK : va_K (dC, dI) vwCl [(cO, .long)] s := hK
  refine vx_widen (k := 1) (n := 6) (by decide) (by decide) ?_
  refine vx_catch (own := RL) (name := "java/lang/IllegalStateException") (E := "java/lang/IllegalStateException") hown [] ⟨0, 8, 11, 21⟩ [] htab (fun z9 hz9 => nomatch hz9) (by decide) (by decide) (hts (.classLink RL 21 "java/lang/IllegalStateException") (wm_L_mark 4 rfl)) (va_Nw.use rfl hF9.2.2.2.1) hce hcv hcl ?_
  refine lv_astore_n (lv' := [(2, .ref x3), (0, .ref h0), (1, .ref ho)]) hx hb dL_mark_11 rfl hl (by decide) rfl (fun ls hl => ?_)
  refine lv_iconst (v := 1) hx hb dL_mark_12 (by decide) ?_
  have hP9 := hP.sub (ws' := [(h0, .inr (12, [a0, a1, a2, a3, a4, a5, a6, .ref h7, a8])), (h7, .inr (9, [b0, b1, b2, b3, b4, b5, b6, b7, b8, b9, .int 0, b11, b12, b13, b14, b15, b16, b17, b18, b19])), (ho, .inl (cO, 1, .inr (.inl fo)))]) [1, 2, 0] rfl
  have hD9 := hD.sub (ws' := [(h0, .inr (12, [a0, a1, a2, a3, a4, a5, a6, .ref h7, a8])), (h7, .inr (9, [b0, b1, b2, b3, b4, b5, b6, b7, b8, b9, .int 0, b11, b12, b13, b14, b15, b16, b17, b18, b19])), (ho, .inl (cO, 1, .inr (.inl fo)))]) [1, 2, 0] (by decide) rfl
  have hK9 := hK.sub (tys' := [(cO, .long)]) [0] rfl
  refine W.widen (k := 1) (n := 6) (by decide) (by decide) ?_
  exact W.iret (v := 1) hx hb hr (fun t ht hW => ⟨⟨1, (), rfl, rfl, by rw [ht]; exact hP9, va_K.moved hW.alike hK9, hD9⟩, hS.F ht⟩) hS.2.2 dL_mark_13

abbrev ar_L_fail (dC : Nat → ClassId) (dI : Nat → Nat → Nat) (A : Nat → Prop) (h0 h7 ho : Nat) (cO : ClassId) (fo : Nat → Int64) (a0 a1 a2 a3 a4 a5 a6 a8 b0 b1 b2 b3 b4 b5 b6 b7 b8 b9 b11 b12 b13 b14 b15 b16 b17 b18 b19 : Value) (_ : Unit) (t : State) : Prop := va_P (dC, dI) vwCl [(h0, .inr (12, [a0, a1, a2, a3, a4, a5, a6, .ref h7, a8])), (h7, .inr (9, [b0, b1, b2, b3, b4, b5, b6, b7, b8, b9, .int 0, b11, b12, b13, b14, b15, b16, b17, b18, b19])), (ho, .inl (cO, 1, .inr (.inl fo)))] t.heap ∧ va_K (dC, dI) vwCl [(cO, .long)] t ∧ va_D A [(h0, .inr (12, [a0, a1, a2, a3, a4, a5, a6, .ref h7, a8])), (h7, .inr (9, [b0, b1, b2, b3, b4, b5, b6, b7, b8, b9, .int 0, b11, b12, b13, b14, b15, b16, b17, b18, b19])), (ho, .inl (cO, 1, .inr (.inl fo)))]
theorem dL_fail_0 : decode cL_fail 0 = .ok (.aload_n 1, 1) := by decide +kernel
theorem dL_fail_1 : decode cL_fail 1 = .ok (.iconst 0, 1) := by decide +kernel
theorem dL_fail_2 : decode cL_fail 2 = .ok (.aload_n 0, 1) := by decide +kernel
theorem dL_fail_3 : decode cL_fail 3 = .ok (.invokevirtual 48, 3) := by decide +kernel
theorem dL_fail_11 : decode cL_fail 11 = .ok (.astore_n 2, 1) := by decide +kernel
theorem dL_fail_12 : decode cL_fail 12 = .ok (.iconst 1, 1) := by decide +kernel
theorem dL_fail_13 : decode cL_fail 13 = .ok (.ireturn, 1) := by decide +kernel
def ww_L_fail : List Cond := [.methodLink RL 48 yX12_fail, .instanceMethod yX12_fail, .selects RX12 yX12_fail yX12_fail, .initialized RX12, .classLink RL 21 "java/lang/IllegalStateException"]
def wv_L_fail : List Cond := .codeWith yL_fail cL_fail 3 (some .int) [(0, 8, 11, 21)] :: (ww_L_fail ++ (wv_X12_fail ++ []))
theorem wm_L_fail {w : Cond} (i : Nat) (h : ww_L_fail[i]? = some w) : w ∈ wv_L_fail := List.mem_cons_of_mem _ (List.mem_append_left _ (List.mem_of_getElem? h))
set_option maxRecDepth 100000 in
theorem gw_L_fail : wv_L_fail.all goodWord = true := by decide +kernel
theorem wg_L_fail_X12_fail : GoodIn wv_L_fail wv_X12_fail := goodIn_sub (fun w h => List.mem_cons_of_mem _ (List.mem_append_right _ (List.mem_append_left _ h))) gw_X12_fail
theorem wV_L_fail_X12_fail_48 : GoodIn wv_L_fail (wsV RL 48 RX12 yX12_fail wv_X12_fail) := goodIn_app (goodIn_sub (fun w h => by simp only [List.mem_cons, List.not_mem_nil, or_false] at h; rcases h with rfl | rfl | rfl | rfl <;> first | exact wm_L_fail 0 rfl | exact wm_L_fail 1 rfl | exact wm_L_fail 2 rfl | exact wm_L_fail 3 rfl) (by decide +kernel)) wg_L_fail_X12_fail
set_option maxHeartbeats 4000000 in
set_option maxRecDepth 100000 in
/-- the law's fail on a fresh house -/
theorem r_L_fail (l : Launch) (hl0 : l.stackTraces = false) (dC : Nat → ClassId) (dI : Nat → Nat → Nat) (h0 h7 ho : Nat) (cO : ClassId) (fo : Nat → Int64) (a0 a1 a2 a3 a4 a5 a6 a8 b0 b1 b2 b3 b4 b5 b6 b7 b8 b9 b11 b12 b13 b14 b15 b16 b17 b18 b19 : Value) (sz : Nat) : Met l yL_fail wv_L_fail ({ frames := 8, cells := 1, slots := 6, locals := 121 }) (va_Pc [.ref h0, .ref ho] (fun U => U.heap.size = sz ∧ va_P (dC, dI) vwCl [(h0, .inr (12, [a0, a1, a2, a3, a4, a5, a6, .ref h7, a8])), (h7, .inr (9, [b0, b1, b2, b3, b4, b5, b6, b7, b8, b9, .int 0, b11, b12, b13, b14, b15, b16, b17, b18, b19])), (ho, .inl (cO, 1, .inr (.inl fo)))] U.heap ∧ va_K (dC, dI) vwCl [(cO, .long)] U ∧ va_D (fun _ => True) [(h0, .inr (12, [a0, a1, a2, a3, a4, a5, a6, .ref h7, a8])), (h7, .inr (9, [b0, b1, b2, b3, b4, b5, b6, b7, b8, b9, .int 0, b11, b12, b13, b14, b15, b16, b17, b18, b19])), (ho, .inl (cO, 1, .inr (.inl fo)))] ∧ xz_F U ∧ xz_Z (va_A [(h0, .inr (12, [a0, a1, a2, a3, a4, a5, a6, .ref h7, a8])), (h7, .inr (9, [b0, b1, b2, b3, b4, b5, b6, b7, b8, b9, .int 0, b11, b12, b13, b14, b15, b16, b17, b18, b19])), (ho, .inl (cO, 1, .inr (.inl fo)))] sz) U U.heap)) (va_Qi (fun r (_ : Unit) => r = 1) (ar_L_fail dC dI (va_A [(h0, .inr (12, [a0, a1, a2, a3, a4, a5, a6, .ref h7, a8])), (h7, .inr (9, [b0, b1, b2, b3, b4, b5, b6, b7, b8, b9, .int 0, b11, b12, b13, b14, b15, b16, b17, b18, b19])), (ho, .inl (cO, 1, .inr (.inl fo)))] sz) h0 h7 ho cO fo a0 a1 a2 a3 a4 a5 a6 a8 b0 b1 b2 b3 b4 b5 b6 b7 b8 b9 b11 b12 b13 b14 b15 b16 b17 b18 b19) (va_A [(h0, .inr (12, [a0, a1, a2, a3, a4, a5, a6, .ref h7, a8])), (h7, .inr (9, [b0, b1, b2, b3, b4, b5, b6, b7, b8, b9, .int 0, b11, b12, b13, b14, b15, b16, b17, b18, b19])), (ho, .inl (cO, 1, .inr (.inl fo)))] sz)) 1 6 (va_A [(h0, .inr (12, [a0, a1, a2, a3, a4, a5, a6, .ref h7, a8])), (h7, .inr (9, [b0, b1, b2, b3, b4, b5, b6, b7, b8, b9, .int 0, b11, b12, b13, b14, b15, b16, b17, b18, b19])), (ho, .inl (cO, 1, .inr (.inl fo)))] sz) := by
  refine va_MetW (cc := cL_fail) (maxL := 3) (ret := (some .int)) (hh := [(0, 8, 11, 21)]) (by decide) rfl ?_
  intro p e s m args below meth c s₁ B hml hv
  obtain ⟨rfl, hsz, hP, hK, hD0, hF9, hZ9⟩ := hv
  have hx := B.exec
  have hb := B.bytes
  have hr := B.returns
  have hts := atoms_spec (ws := wv_L_fail) B.pre
  have hown : s.vm.findClass RL = some m.cls := findClass_of_methodNamed B.named
  have hlocks := B.notSynchronized
  subst hsz
  have hD := hD0.self (sz := s.heap.size)
  generalize hAe : va_A [(h0, .inr (12, [a0, a1, a2, a3, a4, a5, a6, .ref h7, a8])), (h7, .inr (9, [b0, b1, b2, b3, b4, b5, b6, b7, b8, b9, .int 0, b11, b12, b13, b14, b15, b16, b17, b18, b19])), (ho, .inl (cO, 1, .inr (.inl fo)))] s.heap.size = A at hD hZ9 ⊢
  have hA : ∀ q : Nat, s.heap.size ≤ q → A q := fun q h => by rw [← hAe]; exact Or.inr h
  have hS : va_S A s.heap s.heap [] := va_S.rf
  have hP : va_P (dC, dI) vwCl [(h0, .inr (12, [a0, a1, a2, a3, a4, a5, a6, .ref h7, a8])), (h7, .inr (9, [b0, b1, b2, b3, b4, b5, b6, b7, b8, b9, .int 0, b11, b12, b13, b14, b15, b16, b17, b18, b19])), (ho, .inl (cO, 1, .inr (.inl fo)))] s.heap := hP
  have hl := lv_entry ([.ref h0, .ref ho]) (n := 3) (Nat.le_of_ble_eq_true rfl)
  rw [lg_entry_eq]
  generalize (lg_sl ([.ref h0, .ref ho]) ++ List.replicate (3 - (lg_sl ([.ref h0, .ref ho])).length) Slot.unset).toArray = ls at hl ⊢
  have hl : lv_has ls 3 [(0, .ref h0), (1, .ref ho)] := hl
  have htab : c.exceptionTable.toList = [⟨0, 8, 11, 21⟩] := vx_table (x := yL_fail) B (hts _ List.mem_cons_self)
  refine lv_aload_n hx hb dL_fail_0 rfl (lv_at hl 1 rfl) ?_
  refine lv_iconst (v := 0) hx hb dL_fail_1 (by decide) ?_
  refine lv_aload_n hx hb dL_fail_2 rfl (lv_at hl 0 rfl) ?_
  have hPc := hP.sub (ws' := [(h0, .inr (12, [a0, a1, a2, a3, a4, a5, a6, .ref h7, a8])), (h7, .inr (9, [b0, b1, b2, b3, b4, b5, b6, b7, b8, b9, .int 0, b11, b12, b13, b14, b15, b16, b17, b18, b19]))]) [0, 1] rfl
  have hDc := hD.sub (ws' := [(h0, .inr (12, [a0, a1, a2, a3, a4, a5, a6, .ref h7, a8])), (h7, .inr (9, [b0, b1, b2, b3, b4, b5, b6, b7, b8, b9, .int 0, b11, b12, b13, b14, b15, b16, b17, b18, b19]))]) [0, 1] (by decide) rfl
  have hKc := hK.sub (tys' := []) [] rfl
  have hFc := va_free (wc := [(h0, .inr (12, [a0, a1, a2, a3, a4, a5, a6, .ref h7, a8])), (h7, .inr (9, [b0, b1, b2, b3, b4, b5, b6, b7, b8, b9, .int 0, b11, b12, b13, b14, b15, b16, b17, b18, b19]))]) hD hS hA [0, 1] rfl
  have h_1 : 1 ≤ 1 := by decide
  have h_2 : 6 ≤ 6 := by decide
  refine xz_callX (vx_runV (As := []) (rest := [.int 0, .ref ho]) ⟨hx, hb, hml, hown, hts⟩ (x_X12_fail l hl0 dC dI h0 h7 a0 a1 a2 a3 a4 a5 a6 a8 b0 b1 b2 b3 b4 b5 b6 b7 b8 b9 b11 b12 b13 b14 b15 b16 b17 b18 b19 _) (cwV 0 hts wV_L_fail_X12_fail_48 rfl rfl rfl (by decide +kernel) ⟨Nat.le_of_ble_eq_true rfl, Nat.le_of_ble_eq_true rfl⟩) ⟨fun a U g mk q => by obtain ⟨q0, q1, qP, qK, qD, qf0, qf1⟩ := q; exact ⟨q0, q1, qP, va_K.moved (u := U) (U := U.calling g mk a) (Vm.Alike.refl U.vm) qK, qD, xz_F.same rfl qf0, xz_Z.same (Vm.Alike.refl _) rfl qf1⟩, va_recv hKc hPc (ci := 12) (q0 := 0) rfl rfl, fun U hU hW => ⟨rfl, by rw [hU], by rw [hU]; exact hPc, va_K.moved hW.alike hKc, hDc.weaken (fun _ _ _ _ => trivial), xz_F.warm hW hF9, (hZ9.to hS hFc hW.alike hU)⟩⟩ rfl rfl hl.1 rfl (lv_room (Nat.le_of_ble_eq_true rfl)) dL_fail_3 ⟨h_1, h_2⟩) (fun _ _ _ h9 => by obtain ⟨⟨_, h9⟩, _⟩ := h9; simp at h9) hS hFc (fun q _ h => hFc q h) (fun E ce x3 u t H1 locs ht hvm hw hB hz1 hk1 hS hce hcv hcl => ?_)
  obtain ⟨hE, hP1, hK1, hD1⟩ := hB
  subst hE
  rw [ht] at hP1
  have hK1 := va_K.moved hvm.symm hK1
  obtain ⟨hP, hD⟩ := va_join (wr := [(ho, .inl (cO, 1, .inr (.inl fo)))]) (w1 := [(h0, .inr (12, [a0, a1, a2, a3, a4, a5, a6, .ref h7, a8])), (h7, .inr (9, [b0, b1, b2, b3, b4, b5, b6, b7, b8, b9, .int 0, b11, b12, b13, b14, b15, b16, b17, b18, b19]))]) hP hD [0, 1] [2] rfl rfl (by decide) (by decide) hk1 hFc hP1 hD1
  have hK := (hK.sub (tys' := [(cO, .long)]) [0] rfl).app hK1
  generalize H1 = H at hP hS hce ⊢
  have hP : va_P (dC, dI) vwCl [(ho, .inl (cO, 1, .inr (.inl fo))), (h0, .inr (12, [a0, a1, a2, a3, a4, a5, a6, .ref h7, a8])), (h7, .inr (9, [b0, b1, b2, b3, b4, b5, b6, b7, b8, b9, .int 0, b11, b12, b13, b14, b15, b16, b17, b18, b19]))] H := hP
  have hD : va_D A [(ho, .inl (cO, 1, .inr (.inl fo))), (h0, .inr (12, [a0, a1, a2, a3, a4, a5, a6, .ref h7, a8])), (h7, .inr (9, [b0, b1, b2, b3, b4, b5, b6, b7, b8, b9, .int 0, b11, b12, b13, b14, b15, b16, b17, b18, b19]))] := hD
  have hK : va_K (dC, dI) vwCl [(cO, .long)] s := hK
  refine vx_widen (k := 1) (n := 6) (by decide) (by decide) ?_
  refine vx_catch (own := RL) (name := "java/lang/IllegalStateException") (E := "java/lang/IllegalStateException") hown [] ⟨0, 8, 11, 21⟩ [] htab (fun z9 hz9 => nomatch hz9) (by decide) (by decide) (hts (.classLink RL 21 "java/lang/IllegalStateException") (wm_L_fail 4 rfl)) (va_Nw.use rfl hF9.2.2.2.1) hce hcv hcl ?_
  refine lv_astore_n (lv' := [(2, .ref x3), (0, .ref h0), (1, .ref ho)]) hx hb dL_fail_11 rfl hl (by decide) rfl (fun ls hl => ?_)
  refine lv_iconst (v := 1) hx hb dL_fail_12 (by decide) ?_
  have hP9 := hP.sub (ws' := [(h0, .inr (12, [a0, a1, a2, a3, a4, a5, a6, .ref h7, a8])), (h7, .inr (9, [b0, b1, b2, b3, b4, b5, b6, b7, b8, b9, .int 0, b11, b12, b13, b14, b15, b16, b17, b18, b19])), (ho, .inl (cO, 1, .inr (.inl fo)))]) [1, 2, 0] rfl
  have hD9 := hD.sub (ws' := [(h0, .inr (12, [a0, a1, a2, a3, a4, a5, a6, .ref h7, a8])), (h7, .inr (9, [b0, b1, b2, b3, b4, b5, b6, b7, b8, b9, .int 0, b11, b12, b13, b14, b15, b16, b17, b18, b19])), (ho, .inl (cO, 1, .inr (.inl fo)))]) [1, 2, 0] (by decide) rfl
  have hK9 := hK.sub (tys' := [(cO, .long)]) [0] rfl
  refine W.widen (k := 1) (n := 6) (by decide) (by decide) ?_
  exact W.iret (v := 1) hx hb hr (fun t ht hW => ⟨⟨1, (), rfl, rfl, by rw [ht]; exact hP9, va_K.moved hW.alike hK9, hD9⟩, hS.F ht⟩) hS.2.2 dL_fail_13

abbrev ar_L_turn (dC : Nat → ClassId) (dI : Nat → Nat → Nat) (A : Nat → Prop) (h0 h7 ho : Nat) (cO : ClassId) (fo : Nat → Int64) (k1 : Int32) (a0 a1 a2 a3 a4 a5 a6 a8 b0 b1 b2 b3 b4 b5 b6 b7 b8 b9 b11 b12 b13 b14 b15 b16 b17 b18 b19 : Value) (_ : Unit) (t : State) : Prop := va_P (dC, dI) vwCl [(h0, .inr (12, [a0, a1, a2, a3, a4, a5, a6, .ref h7, a8])), (h7, .inr (9, [b0, b1, b2, b3, b4, b5, b6, b7, b8, b9, .int 0, b11, b12, b13, b14, b15, b16, b17, b18, b19])), (ho, .inl (cO, 1, .inr (.inl fo)))] t.heap ∧ va_K (dC, dI) vwCl [(cO, .long)] t ∧ va_D A [(h0, .inr (12, [a0, a1, a2, a3, a4, a5, a6, .ref h7, a8])), (h7, .inr (9, [b0, b1, b2, b3, b4, b5, b6, b7, b8, b9, .int 0, b11, b12, b13, b14, b15, b16, b17, b18, b19])), (ho, .inl (cO, 1, .inr (.inl fo)))]
theorem dL_turn_0 : decode cL_turn 0 = .ok (.aload_n 2, 1) := by decide +kernel
theorem dL_turn_1 : decode cL_turn 1 = .ok (.iconst 0, 1) := by decide +kernel
theorem dL_turn_2 : decode cL_turn 2 = .ok (.aload_n 0, 1) := by decide +kernel
theorem dL_turn_3 : decode cL_turn 3 = .ok (.iload_n 1, 1) := by decide +kernel
theorem dL_turn_4 : decode cL_turn 4 = .ok (.invokevirtual 41, 3) := by decide +kernel
theorem dL_turn_12 : decode cL_turn 12 = .ok (.astore_n 3, 1) := by decide +kernel
theorem dL_turn_13 : decode cL_turn 13 = .ok (.iconst 1, 1) := by decide +kernel
theorem dL_turn_14 : decode cL_turn 14 = .ok (.ireturn, 1) := by decide +kernel
def ww_L_turn : List Cond := [.methodLink RL 41 yX12_turn, .instanceMethod yX12_turn, .selects RX12 yX12_turn yX12_turn, .initialized RX12, .classLink RL 21 "java/lang/IllegalStateException"]
def wv_L_turn : List Cond := .codeWith yL_turn cL_turn 4 (some .int) [(0, 9, 12, 21), (0, 9, 15, 13)] :: (ww_L_turn ++ (wv_X12_turn ++ []))
theorem wm_L_turn {w : Cond} (i : Nat) (h : ww_L_turn[i]? = some w) : w ∈ wv_L_turn := List.mem_cons_of_mem _ (List.mem_append_left _ (List.mem_of_getElem? h))
set_option maxRecDepth 100000 in
theorem gw_L_turn : wv_L_turn.all goodWord = true := by decide +kernel
theorem wg_L_turn_X12_turn : GoodIn wv_L_turn wv_X12_turn := goodIn_sub (fun w h => List.mem_cons_of_mem _ (List.mem_append_right _ (List.mem_append_left _ h))) gw_X12_turn
theorem wV_L_turn_X12_turn_41 : GoodIn wv_L_turn (wsV RL 41 RX12 yX12_turn wv_X12_turn) := goodIn_app (goodIn_sub (fun w h => by simp only [List.mem_cons, List.not_mem_nil, or_false] at h; rcases h with rfl | rfl | rfl | rfl <;> first | exact wm_L_turn 0 rfl | exact wm_L_turn 1 rfl | exact wm_L_turn 2 rfl | exact wm_L_turn 3 rfl) (by decide +kernel)) wg_L_turn_X12_turn
set_option maxHeartbeats 4000000 in
set_option maxRecDepth 100000 in
/-- the law's turn on a fresh house -/
theorem r_L_turn (l : Launch) (hl0 : l.stackTraces = false) (dC : Nat → ClassId) (dI : Nat → Nat → Nat) (h0 h7 ho : Nat) (cO : ClassId) (fo : Nat → Int64) (k1 : Int32) (a0 a1 a2 a3 a4 a5 a6 a8 b0 b1 b2 b3 b4 b5 b6 b7 b8 b9 b11 b12 b13 b14 b15 b16 b17 b18 b19 : Value) (sz : Nat) : Met l yL_turn wv_L_turn ({ frames := 8, cells := 1, slots := 6, locals := 124 }) (va_Pc [.ref h0, .int k1, .ref ho] (fun U => U.heap.size = sz ∧ va_P (dC, dI) vwCl [(h0, .inr (12, [a0, a1, a2, a3, a4, a5, a6, .ref h7, a8])), (h7, .inr (9, [b0, b1, b2, b3, b4, b5, b6, b7, b8, b9, .int 0, b11, b12, b13, b14, b15, b16, b17, b18, b19])), (ho, .inl (cO, 1, .inr (.inl fo)))] U.heap ∧ va_K (dC, dI) vwCl [(cO, .long)] U ∧ va_D (fun _ => True) [(h0, .inr (12, [a0, a1, a2, a3, a4, a5, a6, .ref h7, a8])), (h7, .inr (9, [b0, b1, b2, b3, b4, b5, b6, b7, b8, b9, .int 0, b11, b12, b13, b14, b15, b16, b17, b18, b19])), (ho, .inl (cO, 1, .inr (.inl fo)))] ∧ xz_F U ∧ xz_Z (va_A [(h0, .inr (12, [a0, a1, a2, a3, a4, a5, a6, .ref h7, a8])), (h7, .inr (9, [b0, b1, b2, b3, b4, b5, b6, b7, b8, b9, .int 0, b11, b12, b13, b14, b15, b16, b17, b18, b19])), (ho, .inl (cO, 1, .inr (.inl fo)))] sz) U U.heap)) (va_Qi (fun r (_ : Unit) => r = 1) (ar_L_turn dC dI (va_A [(h0, .inr (12, [a0, a1, a2, a3, a4, a5, a6, .ref h7, a8])), (h7, .inr (9, [b0, b1, b2, b3, b4, b5, b6, b7, b8, b9, .int 0, b11, b12, b13, b14, b15, b16, b17, b18, b19])), (ho, .inl (cO, 1, .inr (.inl fo)))] sz) h0 h7 ho cO fo k1 a0 a1 a2 a3 a4 a5 a6 a8 b0 b1 b2 b3 b4 b5 b6 b7 b8 b9 b11 b12 b13 b14 b15 b16 b17 b18 b19) (va_A [(h0, .inr (12, [a0, a1, a2, a3, a4, a5, a6, .ref h7, a8])), (h7, .inr (9, [b0, b1, b2, b3, b4, b5, b6, b7, b8, b9, .int 0, b11, b12, b13, b14, b15, b16, b17, b18, b19])), (ho, .inl (cO, 1, .inr (.inl fo)))] sz)) 1 6 (va_A [(h0, .inr (12, [a0, a1, a2, a3, a4, a5, a6, .ref h7, a8])), (h7, .inr (9, [b0, b1, b2, b3, b4, b5, b6, b7, b8, b9, .int 0, b11, b12, b13, b14, b15, b16, b17, b18, b19])), (ho, .inl (cO, 1, .inr (.inl fo)))] sz) := by
  refine va_MetW (cc := cL_turn) (maxL := 4) (ret := (some .int)) (hh := [(0, 9, 12, 21), (0, 9, 15, 13)]) (by decide) rfl ?_
  intro p e s m args below meth c s₁ B hml hv
  obtain ⟨rfl, hsz, hP, hK, hD0, hF9, hZ9⟩ := hv
  have hx := B.exec
  have hb := B.bytes
  have hr := B.returns
  have hts := atoms_spec (ws := wv_L_turn) B.pre
  have hown : s.vm.findClass RL = some m.cls := findClass_of_methodNamed B.named
  have hlocks := B.notSynchronized
  subst hsz
  have hD := hD0.self (sz := s.heap.size)
  generalize hAe : va_A [(h0, .inr (12, [a0, a1, a2, a3, a4, a5, a6, .ref h7, a8])), (h7, .inr (9, [b0, b1, b2, b3, b4, b5, b6, b7, b8, b9, .int 0, b11, b12, b13, b14, b15, b16, b17, b18, b19])), (ho, .inl (cO, 1, .inr (.inl fo)))] s.heap.size = A at hD hZ9 ⊢
  have hA : ∀ q : Nat, s.heap.size ≤ q → A q := fun q h => by rw [← hAe]; exact Or.inr h
  have hS : va_S A s.heap s.heap [] := va_S.rf
  have hP : va_P (dC, dI) vwCl [(h0, .inr (12, [a0, a1, a2, a3, a4, a5, a6, .ref h7, a8])), (h7, .inr (9, [b0, b1, b2, b3, b4, b5, b6, b7, b8, b9, .int 0, b11, b12, b13, b14, b15, b16, b17, b18, b19])), (ho, .inl (cO, 1, .inr (.inl fo)))] s.heap := hP
  have hl := lv_entry ([.ref h0, .int k1, .ref ho]) (n := 4) (Nat.le_of_ble_eq_true rfl)
  rw [lg_entry_eq]
  generalize (lg_sl ([.ref h0, .int k1, .ref ho]) ++ List.replicate (4 - (lg_sl ([.ref h0, .int k1, .ref ho])).length) Slot.unset).toArray = ls at hl ⊢
  have hl : lv_has ls 4 [(0, .ref h0), (1, .int k1), (2, .ref ho)] := hl
  have htab : c.exceptionTable.toList = [⟨0, 9, 12, 21⟩, ⟨0, 9, 15, 13⟩] := vx_table (x := yL_turn) B (hts _ List.mem_cons_self)
  refine lv_aload_n hx hb dL_turn_0 rfl (lv_at hl 2 rfl) ?_
  refine lv_iconst (v := 0) hx hb dL_turn_1 (by decide) ?_
  refine lv_aload_n hx hb dL_turn_2 rfl (lv_at hl 0 rfl) ?_
  refine lv_iload_n hx hb dL_turn_3 rfl (lv_at hl 1 rfl) ?_
  have hPc := hP.sub (ws' := [(h0, .inr (12, [a0, a1, a2, a3, a4, a5, a6, .ref h7, a8])), (h7, .inr (9, [b0, b1, b2, b3, b4, b5, b6, b7, b8, b9, .int 0, b11, b12, b13, b14, b15, b16, b17, b18, b19]))]) [0, 1] rfl
  have hDc := hD.sub (ws' := [(h0, .inr (12, [a0, a1, a2, a3, a4, a5, a6, .ref h7, a8])), (h7, .inr (9, [b0, b1, b2, b3, b4, b5, b6, b7, b8, b9, .int 0, b11, b12, b13, b14, b15, b16, b17, b18, b19]))]) [0, 1] (by decide) rfl
  have hKc := hK.sub (tys' := []) [] rfl
  have hFc := va_free (wc := [(h0, .inr (12, [a0, a1, a2, a3, a4, a5, a6, .ref h7, a8])), (h7, .inr (9, [b0, b1, b2, b3, b4, b5, b6, b7, b8, b9, .int 0, b11, b12, b13, b14, b15, b16, b17, b18, b19]))]) hD hS hA [0, 1] rfl
  have h_1 : 1 ≤ 1 := by decide
  have h_2 : 6 ≤ 6 := by decide
  refine xz_callX (vx_runV (As := [.int k1]) (rest := [.int 0, .ref ho]) ⟨hx, hb, hml, hown, hts⟩ (x_X12_turn l hl0 dC dI h0 h7 k1 a0 a1 a2 a3 a4 a5 a6 a8 b0 b1 b2 b3 b4 b5 b6 b7 b8 b9 b11 b12 b13 b14 b15 b16 b17 b18 b19 _) (cwV 1 hts wV_L_turn_X12_turn_41 rfl rfl rfl (by decide +kernel) ⟨Nat.le_of_ble_eq_true rfl, Nat.le_of_ble_eq_true rfl⟩) ⟨fun a U g mk q => by obtain ⟨q0, q1, qP, qK, qD, qf0, qf1⟩ := q; exact ⟨q0, q1, qP, va_K.moved (u := U) (U := U.calling g mk a) (Vm.Alike.refl U.vm) qK, qD, xz_F.same rfl qf0, xz_Z.same (Vm.Alike.refl _) rfl qf1⟩, va_recv hKc hPc (ci := 12) (q0 := 0) rfl rfl, fun U hU hW => ⟨rfl, by rw [hU], by rw [hU]; exact hPc, va_K.moved hW.alike hKc, hDc.weaken (fun _ _ _ _ => trivial), xz_F.warm hW hF9, (hZ9.to hS hFc hW.alike hU)⟩⟩ rfl rfl hl.1 rfl (lv_room (Nat.le_of_ble_eq_true rfl)) dL_turn_4 ⟨h_1, h_2⟩) (fun _ _ _ h9 => by obtain ⟨⟨_, h9⟩, _⟩ := h9; simp at h9) hS hFc (fun q _ h => hFc q h) (fun E ce x3 u t H1 locs ht hvm hw hB hz1 hk1 hS hce hcv hcl => ?_)
  obtain ⟨hE, hP1, hK1, hD1⟩ := hB
  subst hE
  rw [ht] at hP1
  have hK1 := va_K.moved hvm.symm hK1
  obtain ⟨hP, hD⟩ := va_join (wr := [(ho, .inl (cO, 1, .inr (.inl fo)))]) (w1 := [(h0, .inr (12, [a0, a1, a2, a3, a4, a5, a6, .ref h7, a8])), (h7, .inr (9, [b0, b1, b2, b3, b4, b5, b6, b7, b8, b9, .int 0, b11, b12, b13, b14, b15, b16, b17, b18, b19]))]) hP hD [0, 1] [2] rfl rfl (by decide) (by decide) hk1 hFc hP1 hD1
  have hK := (hK.sub (tys' := [(cO, .long)]) [0] rfl).app hK1
  generalize H1 = H at hP hS hce ⊢
  have hP : va_P (dC, dI) vwCl [(ho, .inl (cO, 1, .inr (.inl fo))), (h0, .inr (12, [a0, a1, a2, a3, a4, a5, a6, .ref h7, a8])), (h7, .inr (9, [b0, b1, b2, b3, b4, b5, b6, b7, b8, b9, .int 0, b11, b12, b13, b14, b15, b16, b17, b18, b19]))] H := hP
  have hD : va_D A [(ho, .inl (cO, 1, .inr (.inl fo))), (h0, .inr (12, [a0, a1, a2, a3, a4, a5, a6, .ref h7, a8])), (h7, .inr (9, [b0, b1, b2, b3, b4, b5, b6, b7, b8, b9, .int 0, b11, b12, b13, b14, b15, b16, b17, b18, b19]))] := hD
  have hK : va_K (dC, dI) vwCl [(cO, .long)] s := hK
  refine vx_widen (k := 1) (n := 6) (by decide) (by decide) ?_
  refine vx_catch (own := RL) (name := "java/lang/IllegalStateException") (E := "java/lang/IllegalStateException") hown [] ⟨0, 9, 12, 21⟩ [⟨0, 9, 15, 13⟩] htab (fun z9 hz9 => nomatch hz9) (by decide) (by decide) (hts (.classLink RL 21 "java/lang/IllegalStateException") (wm_L_turn 4 rfl)) (va_Nw.use rfl hF9.2.2.2.1) hce hcv hcl ?_
  refine lv_astore_n (lv' := [(3, .ref x3), (0, .ref h0), (1, .int k1), (2, .ref ho)]) hx hb dL_turn_12 rfl hl (by decide) rfl (fun ls hl => ?_)
  refine lv_iconst (v := 1) hx hb dL_turn_13 (by decide) ?_
  have hP9 := hP.sub (ws' := [(h0, .inr (12, [a0, a1, a2, a3, a4, a5, a6, .ref h7, a8])), (h7, .inr (9, [b0, b1, b2, b3, b4, b5, b6, b7, b8, b9, .int 0, b11, b12, b13, b14, b15, b16, b17, b18, b19])), (ho, .inl (cO, 1, .inr (.inl fo)))]) [1, 2, 0] rfl
  have hD9 := hD.sub (ws' := [(h0, .inr (12, [a0, a1, a2, a3, a4, a5, a6, .ref h7, a8])), (h7, .inr (9, [b0, b1, b2, b3, b4, b5, b6, b7, b8, b9, .int 0, b11, b12, b13, b14, b15, b16, b17, b18, b19])), (ho, .inl (cO, 1, .inr (.inl fo)))]) [1, 2, 0] (by decide) rfl
  have hK9 := hK.sub (tys' := [(cO, .long)]) [0] rfl
  refine W.widen (k := 1) (n := 6) (by decide) (by decide) ?_
  exact W.iret (v := 1) hx hb hr (fun t ht hW => ⟨⟨1, (), rfl, rfl, by rw [ht]; exact hP9, va_K.moved hW.alike hK9, hD9⟩, hS.F ht⟩) hS.2.2 dL_turn_14

abbrev ar_L_rescale (dC : Nat → ClassId) (dI : Nat → Nat → Nat) (A : Nat → Prop) (h0 h7 ho : Nat) (cO : ClassId) (fo : Nat → Int64) (k1 : Int32) (a0 a1 a2 a3 a4 a5 a6 a8 b0 b1 b2 b3 b4 b5 b6 b7 b8 b9 b11 b12 b13 b14 b15 b16 b17 b18 b19 : Value) (_ : Unit) (t : State) : Prop := va_P (dC, dI) vwCl [(h0, .inr (12, [a0, a1, a2, a3, a4, a5, a6, .ref h7, a8])), (h7, .inr (9, [b0, b1, b2, b3, b4, b5, b6, b7, b8, b9, .int 0, b11, b12, b13, b14, b15, b16, b17, b18, b19])), (ho, .inl (cO, 1, .inr (.inl fo)))] t.heap ∧ va_K (dC, dI) vwCl [(cO, .long)] t ∧ va_D A [(h0, .inr (12, [a0, a1, a2, a3, a4, a5, a6, .ref h7, a8])), (h7, .inr (9, [b0, b1, b2, b3, b4, b5, b6, b7, b8, b9, .int 0, b11, b12, b13, b14, b15, b16, b17, b18, b19])), (ho, .inl (cO, 1, .inr (.inl fo)))]
theorem dL_rescale_0 : decode cL_rescale 0 = .ok (.aload_n 2, 1) := by decide +kernel
theorem dL_rescale_1 : decode cL_rescale 1 = .ok (.iconst 0, 1) := by decide +kernel
theorem dL_rescale_2 : decode cL_rescale 2 = .ok (.aload_n 0, 1) := by decide +kernel
theorem dL_rescale_3 : decode cL_rescale 3 = .ok (.iload_n 1, 1) := by decide +kernel
theorem dL_rescale_4 : decode cL_rescale 4 = .ok (.invokevirtual 51, 3) := by decide +kernel
theorem dL_rescale_12 : decode cL_rescale 12 = .ok (.astore_n 3, 1) := by decide +kernel
theorem dL_rescale_13 : decode cL_rescale 13 = .ok (.iconst 1, 1) := by decide +kernel
theorem dL_rescale_14 : decode cL_rescale 14 = .ok (.ireturn, 1) := by decide +kernel
def ww_L_rescale : List Cond := [.methodLink RL 51 yX12_rescale, .instanceMethod yX12_rescale, .selects RX12 yX12_rescale yX12_rescale, .initialized RX12, .classLink RL 21 "java/lang/IllegalStateException"]
def wv_L_rescale : List Cond := .codeWith yL_rescale cL_rescale 4 (some .int) [(0, 9, 12, 21), (0, 9, 15, 13)] :: (ww_L_rescale ++ (wv_X12_rescale ++ []))
theorem wm_L_rescale {w : Cond} (i : Nat) (h : ww_L_rescale[i]? = some w) : w ∈ wv_L_rescale := List.mem_cons_of_mem _ (List.mem_append_left _ (List.mem_of_getElem? h))
set_option maxRecDepth 100000 in
theorem gw_L_rescale : wv_L_rescale.all goodWord = true := by decide +kernel
theorem wg_L_rescale_X12_rescale : GoodIn wv_L_rescale wv_X12_rescale := goodIn_sub (fun w h => List.mem_cons_of_mem _ (List.mem_append_right _ (List.mem_append_left _ h))) gw_X12_rescale
theorem wV_L_rescale_X12_rescale_51 : GoodIn wv_L_rescale (wsV RL 51 RX12 yX12_rescale wv_X12_rescale) := goodIn_app (goodIn_sub (fun w h => by simp only [List.mem_cons, List.not_mem_nil, or_false] at h; rcases h with rfl | rfl | rfl | rfl <;> first | exact wm_L_rescale 0 rfl | exact wm_L_rescale 1 rfl | exact wm_L_rescale 2 rfl | exact wm_L_rescale 3 rfl) (by decide +kernel)) wg_L_rescale_X12_rescale
set_option maxHeartbeats 4000000 in
set_option maxRecDepth 100000 in
/-- the law's rescale on a fresh house -/
theorem r_L_rescale (l : Launch) (hl0 : l.stackTraces = false) (dC : Nat → ClassId) (dI : Nat → Nat → Nat) (h0 h7 ho : Nat) (cO : ClassId) (fo : Nat → Int64) (k1 : Int32) (a0 a1 a2 a3 a4 a5 a6 a8 b0 b1 b2 b3 b4 b5 b6 b7 b8 b9 b11 b12 b13 b14 b15 b16 b17 b18 b19 : Value) (sz : Nat) : Met l yL_rescale wv_L_rescale ({ frames := 8, cells := 1, slots := 6, locals := 122 }) (va_Pc [.ref h0, .int k1, .ref ho] (fun U => U.heap.size = sz ∧ va_P (dC, dI) vwCl [(h0, .inr (12, [a0, a1, a2, a3, a4, a5, a6, .ref h7, a8])), (h7, .inr (9, [b0, b1, b2, b3, b4, b5, b6, b7, b8, b9, .int 0, b11, b12, b13, b14, b15, b16, b17, b18, b19])), (ho, .inl (cO, 1, .inr (.inl fo)))] U.heap ∧ va_K (dC, dI) vwCl [(cO, .long)] U ∧ va_D (fun _ => True) [(h0, .inr (12, [a0, a1, a2, a3, a4, a5, a6, .ref h7, a8])), (h7, .inr (9, [b0, b1, b2, b3, b4, b5, b6, b7, b8, b9, .int 0, b11, b12, b13, b14, b15, b16, b17, b18, b19])), (ho, .inl (cO, 1, .inr (.inl fo)))] ∧ xz_F U ∧ xz_Z (va_A [(h0, .inr (12, [a0, a1, a2, a3, a4, a5, a6, .ref h7, a8])), (h7, .inr (9, [b0, b1, b2, b3, b4, b5, b6, b7, b8, b9, .int 0, b11, b12, b13, b14, b15, b16, b17, b18, b19])), (ho, .inl (cO, 1, .inr (.inl fo)))] sz) U U.heap)) (va_Qi (fun r (_ : Unit) => r = 1) (ar_L_rescale dC dI (va_A [(h0, .inr (12, [a0, a1, a2, a3, a4, a5, a6, .ref h7, a8])), (h7, .inr (9, [b0, b1, b2, b3, b4, b5, b6, b7, b8, b9, .int 0, b11, b12, b13, b14, b15, b16, b17, b18, b19])), (ho, .inl (cO, 1, .inr (.inl fo)))] sz) h0 h7 ho cO fo k1 a0 a1 a2 a3 a4 a5 a6 a8 b0 b1 b2 b3 b4 b5 b6 b7 b8 b9 b11 b12 b13 b14 b15 b16 b17 b18 b19) (va_A [(h0, .inr (12, [a0, a1, a2, a3, a4, a5, a6, .ref h7, a8])), (h7, .inr (9, [b0, b1, b2, b3, b4, b5, b6, b7, b8, b9, .int 0, b11, b12, b13, b14, b15, b16, b17, b18, b19])), (ho, .inl (cO, 1, .inr (.inl fo)))] sz)) 1 6 (va_A [(h0, .inr (12, [a0, a1, a2, a3, a4, a5, a6, .ref h7, a8])), (h7, .inr (9, [b0, b1, b2, b3, b4, b5, b6, b7, b8, b9, .int 0, b11, b12, b13, b14, b15, b16, b17, b18, b19])), (ho, .inl (cO, 1, .inr (.inl fo)))] sz) := by
  refine va_MetW (cc := cL_rescale) (maxL := 4) (ret := (some .int)) (hh := [(0, 9, 12, 21), (0, 9, 15, 13)]) (by decide) rfl ?_
  intro p e s m args below meth c s₁ B hml hv
  obtain ⟨rfl, hsz, hP, hK, hD0, hF9, hZ9⟩ := hv
  have hx := B.exec
  have hb := B.bytes
  have hr := B.returns
  have hts := atoms_spec (ws := wv_L_rescale) B.pre
  have hown : s.vm.findClass RL = some m.cls := findClass_of_methodNamed B.named
  have hlocks := B.notSynchronized
  subst hsz
  have hD := hD0.self (sz := s.heap.size)
  generalize hAe : va_A [(h0, .inr (12, [a0, a1, a2, a3, a4, a5, a6, .ref h7, a8])), (h7, .inr (9, [b0, b1, b2, b3, b4, b5, b6, b7, b8, b9, .int 0, b11, b12, b13, b14, b15, b16, b17, b18, b19])), (ho, .inl (cO, 1, .inr (.inl fo)))] s.heap.size = A at hD hZ9 ⊢
  have hA : ∀ q : Nat, s.heap.size ≤ q → A q := fun q h => by rw [← hAe]; exact Or.inr h
  have hS : va_S A s.heap s.heap [] := va_S.rf
  have hP : va_P (dC, dI) vwCl [(h0, .inr (12, [a0, a1, a2, a3, a4, a5, a6, .ref h7, a8])), (h7, .inr (9, [b0, b1, b2, b3, b4, b5, b6, b7, b8, b9, .int 0, b11, b12, b13, b14, b15, b16, b17, b18, b19])), (ho, .inl (cO, 1, .inr (.inl fo)))] s.heap := hP
  have hl := lv_entry ([.ref h0, .int k1, .ref ho]) (n := 4) (Nat.le_of_ble_eq_true rfl)
  rw [lg_entry_eq]
  generalize (lg_sl ([.ref h0, .int k1, .ref ho]) ++ List.replicate (4 - (lg_sl ([.ref h0, .int k1, .ref ho])).length) Slot.unset).toArray = ls at hl ⊢
  have hl : lv_has ls 4 [(0, .ref h0), (1, .int k1), (2, .ref ho)] := hl
  have htab : c.exceptionTable.toList = [⟨0, 9, 12, 21⟩, ⟨0, 9, 15, 13⟩] := vx_table (x := yL_rescale) B (hts _ List.mem_cons_self)
  refine lv_aload_n hx hb dL_rescale_0 rfl (lv_at hl 2 rfl) ?_
  refine lv_iconst (v := 0) hx hb dL_rescale_1 (by decide) ?_
  refine lv_aload_n hx hb dL_rescale_2 rfl (lv_at hl 0 rfl) ?_
  refine lv_iload_n hx hb dL_rescale_3 rfl (lv_at hl 1 rfl) ?_
  have hPc := hP.sub (ws' := [(h0, .inr (12, [a0, a1, a2, a3, a4, a5, a6, .ref h7, a8])), (h7, .inr (9, [b0, b1, b2, b3, b4, b5, b6, b7, b8, b9, .int 0, b11, b12, b13, b14, b15, b16, b17, b18, b19]))]) [0, 1] rfl
  have hDc := hD.sub (ws' := [(h0, .inr (12, [a0, a1, a2, a3, a4, a5, a6, .ref h7, a8])), (h7, .inr (9, [b0, b1, b2, b3, b4, b5, b6, b7, b8, b9, .int 0, b11, b12, b13, b14, b15, b16, b17, b18, b19]))]) [0, 1] (by decide) rfl
  have hKc := hK.sub (tys' := []) [] rfl
  have hFc := va_free (wc := [(h0, .inr (12, [a0, a1, a2, a3, a4, a5, a6, .ref h7, a8])), (h7, .inr (9, [b0, b1, b2, b3, b4, b5, b6, b7, b8, b9, .int 0, b11, b12, b13, b14, b15, b16, b17, b18, b19]))]) hD hS hA [0, 1] rfl
  have h_1 : 1 ≤ 1 := by decide
  have h_2 : 6 ≤ 6 := by decide
  refine xz_callX (vx_runV (As := [.int k1]) (rest := [.int 0, .ref ho]) ⟨hx, hb, hml, hown, hts⟩ (x_X12_rescale l hl0 dC dI h0 h7 k1 a0 a1 a2 a3 a4 a5 a6 a8 b0 b1 b2 b3 b4 b5 b6 b7 b8 b9 b11 b12 b13 b14 b15 b16 b17 b18 b19 _) (cwV 1 hts wV_L_rescale_X12_rescale_51 rfl rfl rfl (by decide +kernel) ⟨Nat.le_of_ble_eq_true rfl, Nat.le_of_ble_eq_true rfl⟩) ⟨fun a U g mk q => by obtain ⟨q0, q1, qP, qK, qD, qf0, qf1⟩ := q; exact ⟨q0, q1, qP, va_K.moved (u := U) (U := U.calling g mk a) (Vm.Alike.refl U.vm) qK, qD, xz_F.same rfl qf0, xz_Z.same (Vm.Alike.refl _) rfl qf1⟩, va_recv hKc hPc (ci := 12) (q0 := 0) rfl rfl, fun U hU hW => ⟨rfl, by rw [hU], by rw [hU]; exact hPc, va_K.moved hW.alike hKc, hDc.weaken (fun _ _ _ _ => trivial), xz_F.warm hW hF9, (hZ9.to hS hFc hW.alike hU)⟩⟩ rfl rfl hl.1 rfl (lv_room (Nat.le_of_ble_eq_true rfl)) dL_rescale_4 ⟨h_1, h_2⟩) (fun _ _ _ h9 => by obtain ⟨⟨_, h9⟩, _⟩ := h9; simp at h9) hS hFc (fun q _ h => hFc q h) (fun E ce x3 u t H1 locs ht hvm hw hB hz1 hk1 hS hce hcv hcl => ?_)
  obtain ⟨hE, hP1, hK1, hD1⟩ := hB
  subst hE
  rw [ht] at hP1
  have hK1 := va_K.moved hvm.symm hK1
  obtain ⟨hP, hD⟩ := va_join (wr := [(ho, .inl (cO, 1, .inr (.inl fo)))]) (w1 := [(h0, .inr (12, [a0, a1, a2, a3, a4, a5, a6, .ref h7, a8])), (h7, .inr (9, [b0, b1, b2, b3, b4, b5, b6, b7, b8, b9, .int 0, b11, b12, b13, b14, b15, b16, b17, b18, b19]))]) hP hD [0, 1] [2] rfl rfl (by decide) (by decide) hk1 hFc hP1 hD1
  have hK := (hK.sub (tys' := [(cO, .long)]) [0] rfl).app hK1
  generalize H1 = H at hP hS hce ⊢
  have hP : va_P (dC, dI) vwCl [(ho, .inl (cO, 1, .inr (.inl fo))), (h0, .inr (12, [a0, a1, a2, a3, a4, a5, a6, .ref h7, a8])), (h7, .inr (9, [b0, b1, b2, b3, b4, b5, b6, b7, b8, b9, .int 0, b11, b12, b13, b14, b15, b16, b17, b18, b19]))] H := hP
  have hD : va_D A [(ho, .inl (cO, 1, .inr (.inl fo))), (h0, .inr (12, [a0, a1, a2, a3, a4, a5, a6, .ref h7, a8])), (h7, .inr (9, [b0, b1, b2, b3, b4, b5, b6, b7, b8, b9, .int 0, b11, b12, b13, b14, b15, b16, b17, b18, b19]))] := hD
  have hK : va_K (dC, dI) vwCl [(cO, .long)] s := hK
  refine vx_widen (k := 1) (n := 6) (by decide) (by decide) ?_
  refine vx_catch (own := RL) (name := "java/lang/IllegalStateException") (E := "java/lang/IllegalStateException") hown [] ⟨0, 9, 12, 21⟩ [⟨0, 9, 15, 13⟩] htab (fun z9 hz9 => nomatch hz9) (by decide) (by decide) (hts (.classLink RL 21 "java/lang/IllegalStateException") (wm_L_rescale 4 rfl)) (va_Nw.use rfl hF9.2.2.2.1) hce hcv hcl ?_
  refine lv_astore_n (lv' := [(3, .ref x3), (0, .ref h0), (1, .int k1), (2, .ref ho)]) hx hb dL_rescale_12 rfl hl (by decide) rfl (fun ls hl => ?_)
  refine lv_iconst (v := 1) hx hb dL_rescale_13 (by decide) ?_
  have hP9 := hP.sub (ws' := [(h0, .inr (12, [a0, a1, a2, a3, a4, a5, a6, .ref h7, a8])), (h7, .inr (9, [b0, b1, b2, b3, b4, b5, b6, b7, b8, b9, .int 0, b11, b12, b13, b14, b15, b16, b17, b18, b19])), (ho, .inl (cO, 1, .inr (.inl fo)))]) [1, 2, 0] rfl
  have hD9 := hD.sub (ws' := [(h0, .inr (12, [a0, a1, a2, a3, a4, a5, a6, .ref h7, a8])), (h7, .inr (9, [b0, b1, b2, b3, b4, b5, b6, b7, b8, b9, .int 0, b11, b12, b13, b14, b15, b16, b17, b18, b19])), (ho, .inl (cO, 1, .inr (.inl fo)))]) [1, 2, 0] (by decide) rfl
  have hK9 := hK.sub (tys' := [(cO, .long)]) [0] rfl
  refine W.widen (k := 1) (n := 6) (by decide) (by decide) ?_
  exact W.iret (v := 1) hx hb hr (fun t ht hW => ⟨⟨1, (), rfl, rfl, by rw [ht]; exact hP9, va_K.moved hW.alike hK9, hD9⟩, hS.F ht⟩) hS.2.2 dL_rescale_14

abbrev ar_L_channel (dC : Nat → ClassId) (dI : Nat → Nat → Nat) (A : Nat → Prop) (h0 h7 ho : Nat) (cO : ClassId) (fo : Nat → Int64) (k1 k2 : Int32) (a0 a1 a2 a3 a4 a5 a6 a8 b0 b1 b2 b3 b4 b5 b6 b7 b8 b9 b10 b12 b13 b14 b15 b16 b17 b18 b19 : Value) (_ : Unit) (t : State) : Prop := va_P (dC, dI) vwCl [(h0, .inr (12, [a0, a1, a2, a3, a4, a5, a6, .ref h7, a8])), (h7, .inr (9, [b0, b1, b2, b3, b4, b5, b6, b7, b8, b9, b10, .int 0, b12, b13, b14, b15, b16, b17, b18, b19])), (ho, .inl (cO, 1, .inr (.inl fo)))] t.heap ∧ va_K (dC, dI) vwCl [(cO, .long)] t ∧ va_D A [(h0, .inr (12, [a0, a1, a2, a3, a4, a5, a6, .ref h7, a8])), (h7, .inr (9, [b0, b1, b2, b3, b4, b5, b6, b7, b8, b9, b10, .int 0, b12, b13, b14, b15, b16, b17, b18, b19])), (ho, .inl (cO, 1, .inr (.inl fo)))]
theorem dL_channel_0 : decode cL_channel 0 = .ok (.aload_n 3, 1) := by decide +kernel
theorem dL_channel_1 : decode cL_channel 1 = .ok (.iconst 0, 1) := by decide +kernel
theorem dL_channel_2 : decode cL_channel 2 = .ok (.aload_n 0, 1) := by decide +kernel
theorem dL_channel_3 : decode cL_channel 3 = .ok (.iload_n 1, 1) := by decide +kernel
theorem dL_channel_4 : decode cL_channel 4 = .ok (.iload_n 2, 1) := by decide +kernel
theorem dL_channel_5 : decode cL_channel 5 = .ok (.invokevirtual 79, 3) := by decide +kernel
theorem dL_channel_12 : decode cL_channel 12 = .ok (.astore 4, 2) := by decide +kernel
theorem dL_channel_14 : decode cL_channel 14 = .ok (.iconst 1, 1) := by decide +kernel
theorem dL_channel_15 : decode cL_channel 15 = .ok (.ireturn, 1) := by decide +kernel
def ww_L_channel : List Cond := [.methodLink RL 79 yX12_channel, .instanceMethod yX12_channel, .selects RX12 yX12_channel yX12_channel, .initialized RX12, .classLink RL 27 "java/lang/IndexOutOfBoundsException"]
def wv_L_channel : List Cond := .codeWith yL_channel cL_channel 5 (some .int) [(0, 9, 12, 27), (0, 9, 16, 21), (0, 9, 20, 13)] :: (ww_L_channel ++ (wv_X12_channel ++ []))
theorem wm_L_channel {w : Cond} (i : Nat) (h : ww_L_channel[i]? = some w) : w ∈ wv_L_channel := List.mem_cons_of_mem _ (List.mem_append_left _ (List.mem_of_getElem? h))
set_option maxRecDepth 100000 in
theorem gw_L_channel : wv_L_channel.all goodWord = true := by decide +kernel
theorem wg_L_channel_X12_channel : GoodIn wv_L_channel wv_X12_channel := goodIn_sub (fun w h => List.mem_cons_of_mem _ (List.mem_append_right _ (List.mem_append_left _ h))) gw_X12_channel
theorem wV_L_channel_X12_channel_79 : GoodIn wv_L_channel (wsV RL 79 RX12 yX12_channel wv_X12_channel) := goodIn_app (goodIn_sub (fun w h => by simp only [List.mem_cons, List.not_mem_nil, or_false] at h; rcases h with rfl | rfl | rfl | rfl <;> first | exact wm_L_channel 0 rfl | exact wm_L_channel 1 rfl | exact wm_L_channel 2 rfl | exact wm_L_channel 3 rfl) (by decide +kernel)) wg_L_channel_X12_channel
set_option maxHeartbeats 4000000 in
set_option maxRecDepth 100000 in
/-- the law's channel on a fresh house -/
theorem r_L_channel (l : Launch) (hl0 : l.stackTraces = false) (dC : Nat → ClassId) (dI : Nat → Nat → Nat) (h0 h7 ho : Nat) (cO : ClassId) (fo : Nat → Int64) (k1 k2 : Int32) (a0 a1 a2 a3 a4 a5 a6 a8 b0 b1 b2 b3 b4 b5 b6 b7 b8 b9 b10 b12 b13 b14 b15 b16 b17 b18 b19 : Value) (sz : Nat) : Met l yL_channel wv_L_channel ({ frames := 7, cells := 1, slots := 6, locals := 103 }) (va_Pc [.ref h0, .int k1, .int k2, .ref ho] (fun U => U.heap.size = sz ∧ va_P (dC, dI) vwCl [(h0, .inr (12, [a0, a1, a2, a3, a4, a5, a6, .ref h7, a8])), (h7, .inr (9, [b0, b1, b2, b3, b4, b5, b6, b7, b8, b9, b10, .int 0, b12, b13, b14, b15, b16, b17, b18, b19])), (ho, .inl (cO, 1, .inr (.inl fo)))] U.heap ∧ va_K (dC, dI) vwCl [(cO, .long)] U ∧ va_D (fun _ => True) [(h0, .inr (12, [a0, a1, a2, a3, a4, a5, a6, .ref h7, a8])), (h7, .inr (9, [b0, b1, b2, b3, b4, b5, b6, b7, b8, b9, b10, .int 0, b12, b13, b14, b15, b16, b17, b18, b19])), (ho, .inl (cO, 1, .inr (.inl fo)))] ∧ xz_F U ∧ xz_Z (va_A [(h0, .inr (12, [a0, a1, a2, a3, a4, a5, a6, .ref h7, a8])), (h7, .inr (9, [b0, b1, b2, b3, b4, b5, b6, b7, b8, b9, b10, .int 0, b12, b13, b14, b15, b16, b17, b18, b19])), (ho, .inl (cO, 1, .inr (.inl fo)))] sz) U U.heap)) (va_Qi (fun r (_ : Unit) => r = 1) (ar_L_channel dC dI (va_A [(h0, .inr (12, [a0, a1, a2, a3, a4, a5, a6, .ref h7, a8])), (h7, .inr (9, [b0, b1, b2, b3, b4, b5, b6, b7, b8, b9, b10, .int 0, b12, b13, b14, b15, b16, b17, b18, b19])), (ho, .inl (cO, 1, .inr (.inl fo)))] sz) h0 h7 ho cO fo k1 k2 a0 a1 a2 a3 a4 a5 a6 a8 b0 b1 b2 b3 b4 b5 b6 b7 b8 b9 b10 b12 b13 b14 b15 b16 b17 b18 b19) (va_A [(h0, .inr (12, [a0, a1, a2, a3, a4, a5, a6, .ref h7, a8])), (h7, .inr (9, [b0, b1, b2, b3, b4, b5, b6, b7, b8, b9, b10, .int 0, b12, b13, b14, b15, b16, b17, b18, b19])), (ho, .inl (cO, 1, .inr (.inl fo)))] sz)) 1 6 (va_A [(h0, .inr (12, [a0, a1, a2, a3, a4, a5, a6, .ref h7, a8])), (h7, .inr (9, [b0, b1, b2, b3, b4, b5, b6, b7, b8, b9, b10, .int 0, b12, b13, b14, b15, b16, b17, b18, b19])), (ho, .inl (cO, 1, .inr (.inl fo)))] sz) := by
  refine va_MetW (cc := cL_channel) (maxL := 5) (ret := (some .int)) (hh := [(0, 9, 12, 27), (0, 9, 16, 21), (0, 9, 20, 13)]) (by decide) rfl ?_
  intro p e s m args below meth c s₁ B hml hv
  obtain ⟨rfl, hsz, hP, hK, hD0, hF9, hZ9⟩ := hv
  have hx := B.exec
  have hb := B.bytes
  have hr := B.returns
  have hts := atoms_spec (ws := wv_L_channel) B.pre
  have hown : s.vm.findClass RL = some m.cls := findClass_of_methodNamed B.named
  have hlocks := B.notSynchronized
  subst hsz
  have hD := hD0.self (sz := s.heap.size)
  generalize hAe : va_A [(h0, .inr (12, [a0, a1, a2, a3, a4, a5, a6, .ref h7, a8])), (h7, .inr (9, [b0, b1, b2, b3, b4, b5, b6, b7, b8, b9, b10, .int 0, b12, b13, b14, b15, b16, b17, b18, b19])), (ho, .inl (cO, 1, .inr (.inl fo)))] s.heap.size = A at hD hZ9 ⊢
  have hA : ∀ q : Nat, s.heap.size ≤ q → A q := fun q h => by rw [← hAe]; exact Or.inr h
  have hS : va_S A s.heap s.heap [] := va_S.rf
  have hP : va_P (dC, dI) vwCl [(h0, .inr (12, [a0, a1, a2, a3, a4, a5, a6, .ref h7, a8])), (h7, .inr (9, [b0, b1, b2, b3, b4, b5, b6, b7, b8, b9, b10, .int 0, b12, b13, b14, b15, b16, b17, b18, b19])), (ho, .inl (cO, 1, .inr (.inl fo)))] s.heap := hP
  have hl := lv_entry ([.ref h0, .int k1, .int k2, .ref ho]) (n := 5) (Nat.le_of_ble_eq_true rfl)
  rw [lg_entry_eq]
  generalize (lg_sl ([.ref h0, .int k1, .int k2, .ref ho]) ++ List.replicate (5 - (lg_sl ([.ref h0, .int k1, .int k2, .ref ho])).length) Slot.unset).toArray = ls at hl ⊢
  have hl : lv_has ls 5 [(0, .ref h0), (1, .int k1), (2, .int k2), (3, .ref ho)] := hl
  have htab : c.exceptionTable.toList = [⟨0, 9, 12, 27⟩, ⟨0, 9, 16, 21⟩, ⟨0, 9, 20, 13⟩] := vx_table (x := yL_channel) B (hts _ List.mem_cons_self)
  refine lv_aload_n hx hb dL_channel_0 rfl (lv_at hl 3 rfl) ?_
  refine lv_iconst (v := 0) hx hb dL_channel_1 (by decide) ?_
  refine lv_aload_n hx hb dL_channel_2 rfl (lv_at hl 0 rfl) ?_
  refine lv_iload_n hx hb dL_channel_3 rfl (lv_at hl 1 rfl) ?_
  refine lv_iload_n hx hb dL_channel_4 rfl (lv_at hl 2 rfl) ?_
  have hPc := hP.sub (ws' := [(h0, .inr (12, [a0, a1, a2, a3, a4, a5, a6, .ref h7, a8])), (h7, .inr (9, [b0, b1, b2, b3, b4, b5, b6, b7, b8, b9, b10, .int 0, b12, b13, b14, b15, b16, b17, b18, b19]))]) [0, 1] rfl
  have hDc := hD.sub (ws' := [(h0, .inr (12, [a0, a1, a2, a3, a4, a5, a6, .ref h7, a8])), (h7, .inr (9, [b0, b1, b2, b3, b4, b5, b6, b7, b8, b9, b10, .int 0, b12, b13, b14, b15, b16, b17, b18, b19]))]) [0, 1] (by decide) rfl
  have hKc := hK.sub (tys' := []) [] rfl
  have hFc := va_free (wc := [(h0, .inr (12, [a0, a1, a2, a3, a4, a5, a6, .ref h7, a8])), (h7, .inr (9, [b0, b1, b2, b3, b4, b5, b6, b7, b8, b9, b10, .int 0, b12, b13, b14, b15, b16, b17, b18, b19]))]) hD hS hA [0, 1] rfl
  have h_1 : 1 ≤ 1 := by decide
  have h_2 : 6 ≤ 6 := by decide
  refine xz_callX (vx_runV (As := [.int k1, .int k2]) (rest := [.int 0, .ref ho]) ⟨hx, hb, hml, hown, hts⟩ (x_X12_channel l hl0 dC dI h0 h7 k1 k2 a0 a1 a2 a3 a4 a5 a6 a8 b0 b1 b2 b3 b4 b5 b6 b7 b8 b9 b10 b12 b13 b14 b15 b16 b17 b18 b19 _) (cwV 2 hts wV_L_channel_X12_channel_79 rfl rfl rfl (by decide +kernel) ⟨Nat.le_of_ble_eq_true rfl, Nat.le_of_ble_eq_true rfl⟩) ⟨fun a U g mk q => by obtain ⟨q0, q1, qP, qK, qD, qf0, qf1⟩ := q; exact ⟨q0, q1, qP, va_K.moved (u := U) (U := U.calling g mk a) (Vm.Alike.refl U.vm) qK, qD, xz_F.same rfl qf0, xz_Z.same (Vm.Alike.refl _) rfl qf1⟩, va_recv hKc hPc (ci := 12) (q0 := 0) rfl rfl, fun U hU hW => ⟨rfl, by rw [hU], by rw [hU]; exact hPc, va_K.moved hW.alike hKc, hDc.weaken (fun _ _ _ _ => trivial), xz_F.warm hW hF9, (hZ9.to hS hFc hW.alike hU)⟩⟩ rfl rfl hl.1 rfl (lv_room (Nat.le_of_ble_eq_true rfl)) dL_channel_5 ⟨h_1, h_2⟩) (fun _ _ _ h9 => by obtain ⟨⟨_, h9⟩, _⟩ := h9; simp at h9) hS hFc (fun q _ h => hFc q h) (fun E ce x3 u t H1 locs ht hvm hw hB hz1 hk1 hS hce hcv hcl => ?_)
  obtain ⟨hE, hP1, hK1, hD1⟩ := hB
  subst hE
  rw [ht] at hP1
  have hK1 := va_K.moved hvm.symm hK1
  obtain ⟨hP, hD⟩ := va_join (wr := [(ho, .inl (cO, 1, .inr (.inl fo)))]) (w1 := [(h0, .inr (12, [a0, a1, a2, a3, a4, a5, a6, .ref h7, a8])), (h7, .inr (9, [b0, b1, b2, b3, b4, b5, b6, b7, b8, b9, b10, .int 0, b12, b13, b14, b15, b16, b17, b18, b19]))]) hP hD [0, 1] [2] rfl rfl (by decide) (by decide) hk1 hFc hP1 hD1
  have hK := (hK.sub (tys' := [(cO, .long)]) [0] rfl).app hK1
  generalize H1 = H at hP hS hce ⊢
  have hP : va_P (dC, dI) vwCl [(ho, .inl (cO, 1, .inr (.inl fo))), (h0, .inr (12, [a0, a1, a2, a3, a4, a5, a6, .ref h7, a8])), (h7, .inr (9, [b0, b1, b2, b3, b4, b5, b6, b7, b8, b9, b10, .int 0, b12, b13, b14, b15, b16, b17, b18, b19]))] H := hP
  have hD : va_D A [(ho, .inl (cO, 1, .inr (.inl fo))), (h0, .inr (12, [a0, a1, a2, a3, a4, a5, a6, .ref h7, a8])), (h7, .inr (9, [b0, b1, b2, b3, b4, b5, b6, b7, b8, b9, b10, .int 0, b12, b13, b14, b15, b16, b17, b18, b19]))] := hD
  have hK : va_K (dC, dI) vwCl [(cO, .long)] s := hK
  refine vx_widen (k := 1) (n := 6) (by decide) (by decide) ?_
  refine vx_catch (own := RL) (name := "java/lang/IndexOutOfBoundsException") (E := "java/lang/IndexOutOfBoundsException") hown [] ⟨0, 9, 12, 27⟩ [⟨0, 9, 16, 21⟩, ⟨0, 9, 20, 13⟩] htab (fun z9 hz9 => nomatch hz9) (by decide) (by decide) (hts (.classLink RL 27 "java/lang/IndexOutOfBoundsException") (wm_L_channel 4 rfl)) (va_Nw.use rfl hF9.2.2.2.2.2.1) hce hcv hcl ?_
  refine lv_astore (lv' := [(4, .ref x3), (0, .ref h0), (1, .int k1), (2, .int k2), (3, .ref ho)]) hx hb dL_channel_12 hl (by decide) rfl (fun ls hl => ?_)
  refine lv_iconst (v := 1) hx hb dL_channel_14 (by decide) ?_
  have hP9 := hP.sub (ws' := [(h0, .inr (12, [a0, a1, a2, a3, a4, a5, a6, .ref h7, a8])), (h7, .inr (9, [b0, b1, b2, b3, b4, b5, b6, b7, b8, b9, b10, .int 0, b12, b13, b14, b15, b16, b17, b18, b19])), (ho, .inl (cO, 1, .inr (.inl fo)))]) [1, 2, 0] rfl
  have hD9 := hD.sub (ws' := [(h0, .inr (12, [a0, a1, a2, a3, a4, a5, a6, .ref h7, a8])), (h7, .inr (9, [b0, b1, b2, b3, b4, b5, b6, b7, b8, b9, b10, .int 0, b12, b13, b14, b15, b16, b17, b18, b19])), (ho, .inl (cO, 1, .inr (.inl fo)))]) [1, 2, 0] (by decide) rfl
  have hK9 := hK.sub (tys' := [(cO, .long)]) [0] rfl
  refine W.widen (k := 1) (n := 6) (by decide) (by decide) ?_
  exact W.iret (v := 1) hx hb hr (fun t ht hW => ⟨⟨1, (), rfl, rfl, by rw [ht]; exact hP9, va_K.moved hW.alike hK9, hD9⟩, hS.F ht⟩) hS.2.2 dL_channel_15

abbrev ar_L_reopen (dC : Nat → ClassId) (dI : Nat → Nat → Nat) (A : Nat → Prop) (h0 h7 h8 ho : Nat) (cO : ClassId) (fo : Nat → Int64) (a0 a1 a2 a3 a4 a5 a6 a8 b0 b1 b3 b4 b5 b6 b7 b8 b9 b10 b11 b12 b13 b14 b15 b16 b17 b18 b19 d0 d1 d2 d3 d4 d5 d6 d7 d8 : Value) (_ : Unit) (t : State) : Prop := va_P (dC, dI) vwCl [(h0, .inr (12, [a0, a1, a2, a3, a4, a5, a6, .ref h7, a8])), (h7, .inr (9, [b0, b1, .ref h8, b3, b4, b5, b6, b7, b8, b9, b10, b11, b12, b13, b14, b15, b16, b17, b18, b19])), (h8, .inr (3, [d0, d1, d2, d3, d4, d5, d6, d7, d8, .int 0])), (ho, .inl (cO, 1, .inr (.inl fo)))] t.heap ∧ va_K (dC, dI) vwCl [(cO, .long)] t ∧ va_D A [(h0, .inr (12, [a0, a1, a2, a3, a4, a5, a6, .ref h7, a8])), (h7, .inr (9, [b0, b1, .ref h8, b3, b4, b5, b6, b7, b8, b9, b10, b11, b12, b13, b14, b15, b16, b17, b18, b19])), (h8, .inr (3, [d0, d1, d2, d3, d4, d5, d6, d7, d8, .int 0])), (ho, .inl (cO, 1, .inr (.inl fo)))]
theorem dL_reopen_0 : decode cL_reopen 0 = .ok (.aload_n 1, 1) := by decide +kernel
theorem dL_reopen_1 : decode cL_reopen 1 = .ok (.iconst 0, 1) := by decide +kernel
theorem dL_reopen_2 : decode cL_reopen 2 = .ok (.aload_n 0, 1) := by decide +kernel
theorem dL_reopen_3 : decode cL_reopen 3 = .ok (.invokevirtual 58, 3) := by decide +kernel
theorem dL_reopen_11 : decode cL_reopen 11 = .ok (.astore_n 2, 1) := by decide +kernel
theorem dL_reopen_12 : decode cL_reopen 12 = .ok (.iconst 1, 1) := by decide +kernel
theorem dL_reopen_13 : decode cL_reopen 13 = .ok (.ireturn, 1) := by decide +kernel
def ww_L_reopen : List Cond := [.methodLink RL 58 yX12_reopen, .instanceMethod yX12_reopen, .selects RX12 yX12_reopen yX12_reopen, .initialized RX12, .classLink RL 21 "java/lang/IllegalStateException"]
def wv_L_reopen : List Cond := .codeWith yL_reopen cL_reopen 3 (some .int) [(0, 8, 11, 21)] :: (ww_L_reopen ++ (wv_X12_reopen ++ []))
theorem wm_L_reopen {w : Cond} (i : Nat) (h : ww_L_reopen[i]? = some w) : w ∈ wv_L_reopen := List.mem_cons_of_mem _ (List.mem_append_left _ (List.mem_of_getElem? h))
set_option maxRecDepth 100000 in
theorem gw_L_reopen : wv_L_reopen.all goodWord = true := by decide +kernel
theorem wg_L_reopen_X12_reopen : GoodIn wv_L_reopen wv_X12_reopen := goodIn_sub (fun w h => List.mem_cons_of_mem _ (List.mem_append_right _ (List.mem_append_left _ h))) gw_X12_reopen
theorem wV_L_reopen_X12_reopen_58 : GoodIn wv_L_reopen (wsV RL 58 RX12 yX12_reopen wv_X12_reopen) := goodIn_app (goodIn_sub (fun w h => by simp only [List.mem_cons, List.not_mem_nil, or_false] at h; rcases h with rfl | rfl | rfl | rfl <;> first | exact wm_L_reopen 0 rfl | exact wm_L_reopen 1 rfl | exact wm_L_reopen 2 rfl | exact wm_L_reopen 3 rfl) (by decide +kernel)) wg_L_reopen_X12_reopen
set_option maxHeartbeats 4000000 in
set_option maxRecDepth 100000 in
/-- the law's reopen on a fresh house -/
theorem r_L_reopen (l : Launch) (hl0 : l.stackTraces = false) (dC : Nat → ClassId) (dI : Nat → Nat → Nat) (h0 h7 h8 ho : Nat) (cO : ClassId) (fo : Nat → Int64) (a0 a1 a2 a3 a4 a5 a6 a8 b0 b1 b3 b4 b5 b6 b7 b8 b9 b10 b11 b12 b13 b14 b15 b16 b17 b18 b19 d0 d1 d2 d3 d4 d5 d6 d7 d8 : Value) (sz : Nat) : Met l yL_reopen wv_L_reopen ({ frames := 7, cells := 1, slots := 6, locals := 101 }) (va_Pc [.ref h0, .ref ho] (fun U => U.heap.size = sz ∧ va_P (dC, dI) vwCl [(h0, .inr (12, [a0, a1, a2, a3, a4, a5, a6, .ref h7, a8])), (h7, .inr (9, [b0, b1, .ref h8, b3, b4, b5, b6, b7, b8, b9, b10, b11, b12, b13, b14, b15, b16, b17, b18, b19])), (h8, .inr (3, [d0, d1, d2, d3, d4, d5, d6, d7, d8, .int 0])), (ho, .inl (cO, 1, .inr (.inl fo)))] U.heap ∧ va_K (dC, dI) vwCl [(cO, .long)] U ∧ va_D (fun _ => True) [(h0, .inr (12, [a0, a1, a2, a3, a4, a5, a6, .ref h7, a8])), (h7, .inr (9, [b0, b1, .ref h8, b3, b4, b5, b6, b7, b8, b9, b10, b11, b12, b13, b14, b15, b16, b17, b18, b19])), (h8, .inr (3, [d0, d1, d2, d3, d4, d5, d6, d7, d8, .int 0])), (ho, .inl (cO, 1, .inr (.inl fo)))] ∧ xz_F U ∧ xz_Z (va_A [(h0, .inr (12, [a0, a1, a2, a3, a4, a5, a6, .ref h7, a8])), (h7, .inr (9, [b0, b1, .ref h8, b3, b4, b5, b6, b7, b8, b9, b10, b11, b12, b13, b14, b15, b16, b17, b18, b19])), (h8, .inr (3, [d0, d1, d2, d3, d4, d5, d6, d7, d8, .int 0])), (ho, .inl (cO, 1, .inr (.inl fo)))] sz) U U.heap)) (va_Qi (fun r (_ : Unit) => r = 1) (ar_L_reopen dC dI (va_A [(h0, .inr (12, [a0, a1, a2, a3, a4, a5, a6, .ref h7, a8])), (h7, .inr (9, [b0, b1, .ref h8, b3, b4, b5, b6, b7, b8, b9, b10, b11, b12, b13, b14, b15, b16, b17, b18, b19])), (h8, .inr (3, [d0, d1, d2, d3, d4, d5, d6, d7, d8, .int 0])), (ho, .inl (cO, 1, .inr (.inl fo)))] sz) h0 h7 h8 ho cO fo a0 a1 a2 a3 a4 a5 a6 a8 b0 b1 b3 b4 b5 b6 b7 b8 b9 b10 b11 b12 b13 b14 b15 b16 b17 b18 b19 d0 d1 d2 d3 d4 d5 d6 d7 d8) (va_A [(h0, .inr (12, [a0, a1, a2, a3, a4, a5, a6, .ref h7, a8])), (h7, .inr (9, [b0, b1, .ref h8, b3, b4, b5, b6, b7, b8, b9, b10, b11, b12, b13, b14, b15, b16, b17, b18, b19])), (h8, .inr (3, [d0, d1, d2, d3, d4, d5, d6, d7, d8, .int 0])), (ho, .inl (cO, 1, .inr (.inl fo)))] sz)) 1 6 (va_A [(h0, .inr (12, [a0, a1, a2, a3, a4, a5, a6, .ref h7, a8])), (h7, .inr (9, [b0, b1, .ref h8, b3, b4, b5, b6, b7, b8, b9, b10, b11, b12, b13, b14, b15, b16, b17, b18, b19])), (h8, .inr (3, [d0, d1, d2, d3, d4, d5, d6, d7, d8, .int 0])), (ho, .inl (cO, 1, .inr (.inl fo)))] sz) := by
  refine va_MetW (cc := cL_reopen) (maxL := 3) (ret := (some .int)) (hh := [(0, 8, 11, 21)]) (by decide) rfl ?_
  intro p e s m args below meth c s₁ B hml hv
  obtain ⟨rfl, hsz, hP, hK, hD0, hF9, hZ9⟩ := hv
  have hx := B.exec
  have hb := B.bytes
  have hr := B.returns
  have hts := atoms_spec (ws := wv_L_reopen) B.pre
  have hown : s.vm.findClass RL = some m.cls := findClass_of_methodNamed B.named
  have hlocks := B.notSynchronized
  subst hsz
  have hD := hD0.self (sz := s.heap.size)
  generalize hAe : va_A [(h0, .inr (12, [a0, a1, a2, a3, a4, a5, a6, .ref h7, a8])), (h7, .inr (9, [b0, b1, .ref h8, b3, b4, b5, b6, b7, b8, b9, b10, b11, b12, b13, b14, b15, b16, b17, b18, b19])), (h8, .inr (3, [d0, d1, d2, d3, d4, d5, d6, d7, d8, .int 0])), (ho, .inl (cO, 1, .inr (.inl fo)))] s.heap.size = A at hD hZ9 ⊢
  have hA : ∀ q : Nat, s.heap.size ≤ q → A q := fun q h => by rw [← hAe]; exact Or.inr h
  have hS : va_S A s.heap s.heap [] := va_S.rf
  have hP : va_P (dC, dI) vwCl [(h0, .inr (12, [a0, a1, a2, a3, a4, a5, a6, .ref h7, a8])), (h7, .inr (9, [b0, b1, .ref h8, b3, b4, b5, b6, b7, b8, b9, b10, b11, b12, b13, b14, b15, b16, b17, b18, b19])), (h8, .inr (3, [d0, d1, d2, d3, d4, d5, d6, d7, d8, .int 0])), (ho, .inl (cO, 1, .inr (.inl fo)))] s.heap := hP
  have hl := lv_entry ([.ref h0, .ref ho]) (n := 3) (Nat.le_of_ble_eq_true rfl)
  rw [lg_entry_eq]
  generalize (lg_sl ([.ref h0, .ref ho]) ++ List.replicate (3 - (lg_sl ([.ref h0, .ref ho])).length) Slot.unset).toArray = ls at hl ⊢
  have hl : lv_has ls 3 [(0, .ref h0), (1, .ref ho)] := hl
  have htab : c.exceptionTable.toList = [⟨0, 8, 11, 21⟩] := vx_table (x := yL_reopen) B (hts _ List.mem_cons_self)
  refine lv_aload_n hx hb dL_reopen_0 rfl (lv_at hl 1 rfl) ?_
  refine lv_iconst (v := 0) hx hb dL_reopen_1 (by decide) ?_
  refine lv_aload_n hx hb dL_reopen_2 rfl (lv_at hl 0 rfl) ?_
  have hPc := hP.sub (ws' := [(h0, .inr (12, [a0, a1, a2, a3, a4, a5, a6, .ref h7, a8])), (h7, .inr (9, [b0, b1, .ref h8, b3, b4, b5, b6, b7, b8, b9, b10, b11, b12, b13, b14, b15, b16, b17, b18, b19])), (h8, .inr (3, [d0, d1, d2, d3, d4, d5, d6, d7, d8, .int 0]))]) [0, 1, 2] rfl
  have hDc := hD.sub (ws' := [(h0, .inr (12, [a0, a1, a2, a3, a4, a5, a6, .ref h7, a8])), (h7, .inr (9, [b0, b1, .ref h8, b3, b4, b5, b6, b7, b8, b9, b10, b11, b12, b13, b14, b15, b16, b17, b18, b19])), (h8, .inr (3, [d0, d1, d2, d3, d4, d5, d6, d7, d8, .int 0]))]) [0, 1, 2] (by decide) rfl
  have hKc := hK.sub (tys' := []) [] rfl
  have hFc := va_free (wc := [(h0, .inr (12, [a0, a1, a2, a3, a4, a5, a6, .ref h7, a8])), (h7, .inr (9, [b0, b1, .ref h8, b3, b4, b5, b6, b7, b8, b9, b10, b11, b12, b13, b14, b15, b16, b17, b18, b19])), (h8, .inr (3, [d0, d1, d2, d3, d4, d5, d6, d7, d8, .int 0]))]) hD hS hA [0, 1, 2] rfl
  have h_1 : 1 ≤ 1 := by decide
  have h_2 : 6 ≤ 6 := by decide
  refine xz_callX (vx_runV (As := []) (rest := [.int 0, .ref ho]) ⟨hx, hb, hml, hown, hts⟩ (x_X12_reopen l hl0 dC dI h0 h7 h8 a0 a1 a2 a3 a4 a5 a6 a8 b0 b1 b3 b4 b5 b6 b7 b8 b9 b10 b11 b12 b13 b14 b15 b16 b17 b18 b19 d0 d1 d2 d3 d4 d5 d6 d7 d8 _) (cwV 0 hts wV_L_reopen_X12_reopen_58 rfl rfl rfl (by decide +kernel) ⟨Nat.le_of_ble_eq_true rfl, Nat.le_of_ble_eq_true rfl⟩) ⟨fun a U g mk q => by obtain ⟨q0, q1, qP, qK, qD, qf0, qf1⟩ := q; exact ⟨q0, q1, qP, va_K.moved (u := U) (U := U.calling g mk a) (Vm.Alike.refl U.vm) qK, qD, xz_F.same rfl qf0, xz_Z.same (Vm.Alike.refl _) rfl qf1⟩, va_recv hKc hPc (ci := 12) (q0 := 0) rfl rfl, fun U hU hW => ⟨rfl, by rw [hU], by rw [hU]; exact hPc, va_K.moved hW.alike hKc, hDc.weaken (fun _ _ _ _ => trivial), xz_F.warm hW hF9, (hZ9.to hS hFc hW.alike hU)⟩⟩ rfl rfl hl.1 rfl (lv_room (Nat.le_of_ble_eq_true rfl)) dL_reopen_3 ⟨h_1, h_2⟩) (fun _ _ _ h9 => by obtain ⟨⟨_, h9⟩, _⟩ := h9; simp at h9) hS hFc (fun q _ h => hFc q h) (fun E ce x3 u t H1 locs ht hvm hw hB hz1 hk1 hS hce hcv hcl => ?_)
  obtain ⟨hE, hP1, hK1, hD1⟩ := hB
  subst hE
  rw [ht] at hP1
  have hK1 := va_K.moved hvm.symm hK1
  obtain ⟨hP, hD⟩ := va_join (wr := [(ho, .inl (cO, 1, .inr (.inl fo)))]) (w1 := [(h0, .inr (12, [a0, a1, a2, a3, a4, a5, a6, .ref h7, a8])), (h7, .inr (9, [b0, b1, .ref h8, b3, b4, b5, b6, b7, b8, b9, b10, b11, b12, b13, b14, b15, b16, b17, b18, b19])), (h8, .inr (3, [d0, d1, d2, d3, d4, d5, d6, d7, d8, .int 0]))]) hP hD [0, 1, 2] [3] rfl rfl (by decide) (by decide) hk1 hFc hP1 hD1
  have hK := (hK.sub (tys' := [(cO, .long)]) [0] rfl).app hK1
  generalize H1 = H at hP hS hce ⊢
  have hP : va_P (dC, dI) vwCl [(ho, .inl (cO, 1, .inr (.inl fo))), (h0, .inr (12, [a0, a1, a2, a3, a4, a5, a6, .ref h7, a8])), (h7, .inr (9, [b0, b1, .ref h8, b3, b4, b5, b6, b7, b8, b9, b10, b11, b12, b13, b14, b15, b16, b17, b18, b19])), (h8, .inr (3, [d0, d1, d2, d3, d4, d5, d6, d7, d8, .int 0]))] H := hP
  have hD : va_D A [(ho, .inl (cO, 1, .inr (.inl fo))), (h0, .inr (12, [a0, a1, a2, a3, a4, a5, a6, .ref h7, a8])), (h7, .inr (9, [b0, b1, .ref h8, b3, b4, b5, b6, b7, b8, b9, b10, b11, b12, b13, b14, b15, b16, b17, b18, b19])), (h8, .inr (3, [d0, d1, d2, d3, d4, d5, d6, d7, d8, .int 0]))] := hD
  have hK : va_K (dC, dI) vwCl [(cO, .long)] s := hK
  refine vx_widen (k := 1) (n := 6) (by decide) (by decide) ?_
  refine vx_catch (own := RL) (name := "java/lang/IllegalStateException") (E := "java/lang/IllegalStateException") hown [] ⟨0, 8, 11, 21⟩ [] htab (fun z9 hz9 => nomatch hz9) (by decide) (by decide) (hts (.classLink RL 21 "java/lang/IllegalStateException") (wm_L_reopen 4 rfl)) (va_Nw.use rfl hF9.2.2.2.1) hce hcv hcl ?_
  refine lv_astore_n (lv' := [(2, .ref x3), (0, .ref h0), (1, .ref ho)]) hx hb dL_reopen_11 rfl hl (by decide) rfl (fun ls hl => ?_)
  refine lv_iconst (v := 1) hx hb dL_reopen_12 (by decide) ?_
  have hP9 := hP.sub (ws' := [(h0, .inr (12, [a0, a1, a2, a3, a4, a5, a6, .ref h7, a8])), (h7, .inr (9, [b0, b1, .ref h8, b3, b4, b5, b6, b7, b8, b9, b10, b11, b12, b13, b14, b15, b16, b17, b18, b19])), (h8, .inr (3, [d0, d1, d2, d3, d4, d5, d6, d7, d8, .int 0])), (ho, .inl (cO, 1, .inr (.inl fo)))]) [1, 2, 3, 0] rfl
  have hD9 := hD.sub (ws' := [(h0, .inr (12, [a0, a1, a2, a3, a4, a5, a6, .ref h7, a8])), (h7, .inr (9, [b0, b1, .ref h8, b3, b4, b5, b6, b7, b8, b9, b10, b11, b12, b13, b14, b15, b16, b17, b18, b19])), (h8, .inr (3, [d0, d1, d2, d3, d4, d5, d6, d7, d8, .int 0])), (ho, .inl (cO, 1, .inr (.inl fo)))]) [1, 2, 3, 0] (by decide) rfl
  have hK9 := hK.sub (tys' := [(cO, .long)]) [0] rfl
  refine W.widen (k := 1) (n := 6) (by decide) (by decide) ?_
  exact W.iret (v := 1) hx hb hr (fun t ht hW => ⟨⟨1, (), rfl, rfl, by rw [ht]; exact hP9, va_K.moved hW.alike hK9, hD9⟩, hS.F ht⟩) hS.2.2 dL_reopen_13

abbrev ar_L_visible (dC : Nat → ClassId) (dI : Nat → Nat → Nat) (A : Nat → Prop) (h0 h4 ho : Nat) (cO : ClassId) (fo : Nat → Int64) (k1 : Int32) (a0 a1 a2 a3 a5 a6 a7 a8 b0 b1 b3 b4 b5 b6 b7 b8 b9 b10 b11 b12 b13 : Value) (_ : Unit) (t : State) : Prop := va_P (dC, dI) vwCl [(h0, .inr (12, [a0, a1, a2, a3, .ref h4, a5, a6, a7, a8])), (h4, .inr (4, [b0, b1, .int 0, b3, b4, b5, b6, b7, b8, b9, b10, b11, b12, b13])), (ho, .inl (cO, 1, .inr (.inl fo)))] t.heap ∧ va_K (dC, dI) vwCl [(cO, .long)] t ∧ va_D A [(h0, .inr (12, [a0, a1, a2, a3, .ref h4, a5, a6, a7, a8])), (h4, .inr (4, [b0, b1, .int 0, b3, b4, b5, b6, b7, b8, b9, b10, b11, b12, b13])), (ho, .inl (cO, 1, .inr (.inl fo)))]
theorem dL_visible_0 : decode cL_visible 0 = .ok (.aload_n 2, 1) := by decide +kernel
theorem dL_visible_1 : decode cL_visible 1 = .ok (.iconst 0, 1) := by decide +kernel
theorem dL_visible_2 : decode cL_visible 2 = .ok (.aload_n 0, 1) := by decide +kernel
theorem dL_visible_3 : decode cL_visible 3 = .ok (.iload_n 1, 1) := by decide +kernel
theorem dL_visible_4 : decode cL_visible 4 = .ok (.invokevirtual 61, 3) := by decide +kernel
theorem dL_visible_12 : decode cL_visible 12 = .ok (.astore_n 3, 1) := by decide +kernel
theorem dL_visible_13 : decode cL_visible 13 = .ok (.iconst 1, 1) := by decide +kernel
theorem dL_visible_14 : decode cL_visible 14 = .ok (.ireturn, 1) := by decide +kernel
def ww_L_visible : List Cond := [.methodLink RL 61 yX12_visible, .instanceMethod yX12_visible, .selects RX12 yX12_visible yX12_visible, .initialized RX12, .classLink RL 27 "java/lang/IndexOutOfBoundsException"]
def wv_L_visible : List Cond := .codeWith yL_visible cL_visible 4 (some .int) [(0, 9, 12, 27)] :: (ww_L_visible ++ (wv_X12_visible ++ []))
theorem wm_L_visible {w : Cond} (i : Nat) (h : ww_L_visible[i]? = some w) : w ∈ wv_L_visible := List.mem_cons_of_mem _ (List.mem_append_left _ (List.mem_of_getElem? h))
set_option maxRecDepth 100000 in
theorem gw_L_visible : wv_L_visible.all goodWord = true := by decide +kernel
theorem wg_L_visible_X12_visible : GoodIn wv_L_visible wv_X12_visible := goodIn_sub (fun w h => List.mem_cons_of_mem _ (List.mem_append_right _ (List.mem_append_left _ h))) gw_X12_visible
theorem wV_L_visible_X12_visible_61 : GoodIn wv_L_visible (wsV RL 61 RX12 yX12_visible wv_X12_visible) := goodIn_app (goodIn_sub (fun w h => by simp only [List.mem_cons, List.not_mem_nil, or_false] at h; rcases h with rfl | rfl | rfl | rfl <;> first | exact wm_L_visible 0 rfl | exact wm_L_visible 1 rfl | exact wm_L_visible 2 rfl | exact wm_L_visible 3 rfl) (by decide +kernel)) wg_L_visible_X12_visible
set_option maxHeartbeats 4000000 in
set_option maxRecDepth 100000 in
/-- the law's visible on a fresh house -/
theorem r_L_visible (l : Launch) (hl0 : l.stackTraces = false) (dC : Nat → ClassId) (dI : Nat → Nat → Nat) (h0 h4 ho : Nat) (cO : ClassId) (fo : Nat → Int64) (k1 : Int32) (a0 a1 a2 a3 a5 a6 a7 a8 b0 b1 b3 b4 b5 b6 b7 b8 b9 b10 b11 b12 b13 : Value) (sz : Nat) : Met l yL_visible wv_L_visible ({ frames := 8, cells := 1, slots := 6, locals := 123 }) (va_Pc [.ref h0, .int k1, .ref ho] (fun U => U.heap.size = sz ∧ va_P (dC, dI) vwCl [(h0, .inr (12, [a0, a1, a2, a3, .ref h4, a5, a6, a7, a8])), (h4, .inr (4, [b0, b1, .int 0, b3, b4, b5, b6, b7, b8, b9, b10, b11, b12, b13])), (ho, .inl (cO, 1, .inr (.inl fo)))] U.heap ∧ va_K (dC, dI) vwCl [(cO, .long)] U ∧ va_D (fun _ => True) [(h0, .inr (12, [a0, a1, a2, a3, .ref h4, a5, a6, a7, a8])), (h4, .inr (4, [b0, b1, .int 0, b3, b4, b5, b6, b7, b8, b9, b10, b11, b12, b13])), (ho, .inl (cO, 1, .inr (.inl fo)))] ∧ xz_F U ∧ xz_Z (va_A [(h0, .inr (12, [a0, a1, a2, a3, .ref h4, a5, a6, a7, a8])), (h4, .inr (4, [b0, b1, .int 0, b3, b4, b5, b6, b7, b8, b9, b10, b11, b12, b13])), (ho, .inl (cO, 1, .inr (.inl fo)))] sz) U U.heap)) (va_Qi (fun r (_ : Unit) => r = 1) (ar_L_visible dC dI (va_A [(h0, .inr (12, [a0, a1, a2, a3, .ref h4, a5, a6, a7, a8])), (h4, .inr (4, [b0, b1, .int 0, b3, b4, b5, b6, b7, b8, b9, b10, b11, b12, b13])), (ho, .inl (cO, 1, .inr (.inl fo)))] sz) h0 h4 ho cO fo k1 a0 a1 a2 a3 a5 a6 a7 a8 b0 b1 b3 b4 b5 b6 b7 b8 b9 b10 b11 b12 b13) (va_A [(h0, .inr (12, [a0, a1, a2, a3, .ref h4, a5, a6, a7, a8])), (h4, .inr (4, [b0, b1, .int 0, b3, b4, b5, b6, b7, b8, b9, b10, b11, b12, b13])), (ho, .inl (cO, 1, .inr (.inl fo)))] sz)) 1 6 (va_A [(h0, .inr (12, [a0, a1, a2, a3, .ref h4, a5, a6, a7, a8])), (h4, .inr (4, [b0, b1, .int 0, b3, b4, b5, b6, b7, b8, b9, b10, b11, b12, b13])), (ho, .inl (cO, 1, .inr (.inl fo)))] sz) := by
  refine va_MetW (cc := cL_visible) (maxL := 4) (ret := (some .int)) (hh := [(0, 9, 12, 27)]) (by decide) rfl ?_
  intro p e s m args below meth c s₁ B hml hv
  obtain ⟨rfl, hsz, hP, hK, hD0, hF9, hZ9⟩ := hv
  have hx := B.exec
  have hb := B.bytes
  have hr := B.returns
  have hts := atoms_spec (ws := wv_L_visible) B.pre
  have hown : s.vm.findClass RL = some m.cls := findClass_of_methodNamed B.named
  have hlocks := B.notSynchronized
  subst hsz
  have hD := hD0.self (sz := s.heap.size)
  generalize hAe : va_A [(h0, .inr (12, [a0, a1, a2, a3, .ref h4, a5, a6, a7, a8])), (h4, .inr (4, [b0, b1, .int 0, b3, b4, b5, b6, b7, b8, b9, b10, b11, b12, b13])), (ho, .inl (cO, 1, .inr (.inl fo)))] s.heap.size = A at hD hZ9 ⊢
  have hA : ∀ q : Nat, s.heap.size ≤ q → A q := fun q h => by rw [← hAe]; exact Or.inr h
  have hS : va_S A s.heap s.heap [] := va_S.rf
  have hP : va_P (dC, dI) vwCl [(h0, .inr (12, [a0, a1, a2, a3, .ref h4, a5, a6, a7, a8])), (h4, .inr (4, [b0, b1, .int 0, b3, b4, b5, b6, b7, b8, b9, b10, b11, b12, b13])), (ho, .inl (cO, 1, .inr (.inl fo)))] s.heap := hP
  have hl := lv_entry ([.ref h0, .int k1, .ref ho]) (n := 4) (Nat.le_of_ble_eq_true rfl)
  rw [lg_entry_eq]
  generalize (lg_sl ([.ref h0, .int k1, .ref ho]) ++ List.replicate (4 - (lg_sl ([.ref h0, .int k1, .ref ho])).length) Slot.unset).toArray = ls at hl ⊢
  have hl : lv_has ls 4 [(0, .ref h0), (1, .int k1), (2, .ref ho)] := hl
  have htab : c.exceptionTable.toList = [⟨0, 9, 12, 27⟩] := vx_table (x := yL_visible) B (hts _ List.mem_cons_self)
  refine lv_aload_n hx hb dL_visible_0 rfl (lv_at hl 2 rfl) ?_
  refine lv_iconst (v := 0) hx hb dL_visible_1 (by decide) ?_
  refine lv_aload_n hx hb dL_visible_2 rfl (lv_at hl 0 rfl) ?_
  refine lv_iload_n hx hb dL_visible_3 rfl (lv_at hl 1 rfl) ?_
  have hPc := hP.sub (ws' := [(h0, .inr (12, [a0, a1, a2, a3, .ref h4, a5, a6, a7, a8])), (h4, .inr (4, [b0, b1, .int 0, b3, b4, b5, b6, b7, b8, b9, b10, b11, b12, b13]))]) [0, 1] rfl
  have hDc := hD.sub (ws' := [(h0, .inr (12, [a0, a1, a2, a3, .ref h4, a5, a6, a7, a8])), (h4, .inr (4, [b0, b1, .int 0, b3, b4, b5, b6, b7, b8, b9, b10, b11, b12, b13]))]) [0, 1] (by decide) rfl
  have hKc := hK.sub (tys' := []) [] rfl
  have hFc := va_free (wc := [(h0, .inr (12, [a0, a1, a2, a3, .ref h4, a5, a6, a7, a8])), (h4, .inr (4, [b0, b1, .int 0, b3, b4, b5, b6, b7, b8, b9, b10, b11, b12, b13]))]) hD hS hA [0, 1] rfl
  have h_1 : 1 ≤ 1 := by decide
  have h_2 : 6 ≤ 6 := by decide
  refine xz_callX (vx_runV (As := [.int k1]) (rest := [.int 0, .ref ho]) ⟨hx, hb, hml, hown, hts⟩ (x_X12_visible l hl0 dC dI h0 h4 k1 a0 a1 a2 a3 a5 a6 a7 a8 b0 b1 b3 b4 b5 b6 b7 b8 b9 b10 b11 b12 b13 _) (cwV 1 hts wV_L_visible_X12_visible_61 rfl rfl rfl (by decide +kernel) ⟨Nat.le_of_ble_eq_true rfl, Nat.le_of_ble_eq_true rfl⟩) ⟨fun a U g mk q => by obtain ⟨q0, q1, qP, qK, qD, qf0, qf1⟩ := q; exact ⟨q0, q1, qP, va_K.moved (u := U) (U := U.calling g mk a) (Vm.Alike.refl U.vm) qK, qD, xz_F.same rfl qf0, xz_Z.same (Vm.Alike.refl _) rfl qf1⟩, va_recv hKc hPc (ci := 12) (q0 := 0) rfl rfl, fun U hU hW => ⟨rfl, by rw [hU], by rw [hU]; exact hPc, va_K.moved hW.alike hKc, hDc.weaken (fun _ _ _ _ => trivial), xz_F.warm hW hF9, (hZ9.to hS hFc hW.alike hU)⟩⟩ rfl rfl hl.1 rfl (lv_room (Nat.le_of_ble_eq_true rfl)) dL_visible_4 ⟨h_1, h_2⟩) (fun _ _ _ h9 => by obtain ⟨⟨_, h9⟩, _⟩ := h9; simp at h9) hS hFc (fun q _ h => hFc q h) (fun E ce x3 u t H1 locs ht hvm hw hB hz1 hk1 hS hce hcv hcl => ?_)
  obtain ⟨hE, hP1, hK1, hD1⟩ := hB
  subst hE
  rw [ht] at hP1
  have hK1 := va_K.moved hvm.symm hK1
  obtain ⟨hP, hD⟩ := va_join (wr := [(ho, .inl (cO, 1, .inr (.inl fo)))]) (w1 := [(h0, .inr (12, [a0, a1, a2, a3, .ref h4, a5, a6, a7, a8])), (h4, .inr (4, [b0, b1, .int 0, b3, b4, b5, b6, b7, b8, b9, b10, b11, b12, b13]))]) hP hD [0, 1] [2] rfl rfl (by decide) (by decide) hk1 hFc hP1 hD1
  have hK := (hK.sub (tys' := [(cO, .long)]) [0] rfl).app hK1
  generalize H1 = H at hP hS hce ⊢
  have hP : va_P (dC, dI) vwCl [(ho, .inl (cO, 1, .inr (.inl fo))), (h0, .inr (12, [a0, a1, a2, a3, .ref h4, a5, a6, a7, a8])), (h4, .inr (4, [b0, b1, .int 0, b3, b4, b5, b6, b7, b8, b9, b10, b11, b12, b13]))] H := hP
  have hD : va_D A [(ho, .inl (cO, 1, .inr (.inl fo))), (h0, .inr (12, [a0, a1, a2, a3, .ref h4, a5, a6, a7, a8])), (h4, .inr (4, [b0, b1, .int 0, b3, b4, b5, b6, b7, b8, b9, b10, b11, b12, b13]))] := hD
  have hK : va_K (dC, dI) vwCl [(cO, .long)] s := hK
  refine vx_widen (k := 1) (n := 6) (by decide) (by decide) ?_
  refine vx_catch (own := RL) (name := "java/lang/IndexOutOfBoundsException") (E := "java/lang/IndexOutOfBoundsException") hown [] ⟨0, 9, 12, 27⟩ [] htab (fun z9 hz9 => nomatch hz9) (by decide) (by decide) (hts (.classLink RL 27 "java/lang/IndexOutOfBoundsException") (wm_L_visible 4 rfl)) (va_Nw.use rfl hF9.2.2.2.2.2.1) hce hcv hcl ?_
  refine lv_astore_n (lv' := [(3, .ref x3), (0, .ref h0), (1, .int k1), (2, .ref ho)]) hx hb dL_visible_12 rfl hl (by decide) rfl (fun ls hl => ?_)
  refine lv_iconst (v := 1) hx hb dL_visible_13 (by decide) ?_
  have hP9 := hP.sub (ws' := [(h0, .inr (12, [a0, a1, a2, a3, .ref h4, a5, a6, a7, a8])), (h4, .inr (4, [b0, b1, .int 0, b3, b4, b5, b6, b7, b8, b9, b10, b11, b12, b13])), (ho, .inl (cO, 1, .inr (.inl fo)))]) [1, 2, 0] rfl
  have hD9 := hD.sub (ws' := [(h0, .inr (12, [a0, a1, a2, a3, .ref h4, a5, a6, a7, a8])), (h4, .inr (4, [b0, b1, .int 0, b3, b4, b5, b6, b7, b8, b9, b10, b11, b12, b13])), (ho, .inl (cO, 1, .inr (.inl fo)))]) [1, 2, 0] (by decide) rfl
  have hK9 := hK.sub (tys' := [(cO, .long)]) [0] rfl
  refine W.widen (k := 1) (n := 6) (by decide) (by decide) ?_
  exact W.iret (v := 1) hx hb hr (fun t ht hW => ⟨⟨1, (), rfl, rfl, by rw [ht]; exact hP9, va_K.moved hW.alike hK9, hD9⟩, hS.F ht⟩) hS.2.2 dL_visible_14

abbrev ar_L_row (dC : Nat → ClassId) (dI : Nat → Nat → Nat) (A : Nat → Prop) (h0 h4 ho : Nat) (cO : ClassId) (fo : Nat → Int64) (k1 k2 k3 : Int32) (a0 a1 a2 a3 a5 a6 a7 a8 b0 b1 b3 b4 b5 b6 b7 b8 b9 b10 b11 b12 b13 : Value) (_ : Unit) (t : State) : Prop := va_P (dC, dI) vwCl [(h0, .inr (12, [a0, a1, a2, a3, .ref h4, a5, a6, a7, a8])), (h4, .inr (4, [b0, b1, .int 0, b3, b4, b5, b6, b7, b8, b9, b10, b11, b12, b13])), (ho, .inl (cO, 1, .inr (.inl fo)))] t.heap ∧ va_K (dC, dI) vwCl [(cO, .long)] t ∧ va_D A [(h0, .inr (12, [a0, a1, a2, a3, .ref h4, a5, a6, a7, a8])), (h4, .inr (4, [b0, b1, .int 0, b3, b4, b5, b6, b7, b8, b9, b10, b11, b12, b13])), (ho, .inl (cO, 1, .inr (.inl fo)))]
theorem dL_row_0 : decode cL_row 0 = .ok (.aload 4, 2) := by decide +kernel
theorem dL_row_2 : decode cL_row 2 = .ok (.iconst 0, 1) := by decide +kernel
theorem dL_row_3 : decode cL_row 3 = .ok (.aload_n 0, 1) := by decide +kernel
theorem dL_row_4 : decode cL_row 4 = .ok (.iload_n 1, 1) := by decide +kernel
theorem dL_row_5 : decode cL_row 5 = .ok (.iload_n 2, 1) := by decide +kernel
theorem dL_row_6 : decode cL_row 6 = .ok (.iload_n 3, 1) := by decide +kernel
theorem dL_row_7 : decode cL_row 7 = .ok (.invokevirtual 64, 3) := by decide +kernel
theorem dL_row_14 : decode cL_row 14 = .ok (.astore 5, 2) := by decide +kernel
theorem dL_row_16 : decode cL_row 16 = .ok (.iconst 1, 1) := by decide +kernel
theorem dL_row_17 : decode cL_row 17 = .ok (.ireturn, 1) := by decide +kernel
def ww_L_row : List Cond := [.methodLink RL 64 yX12_row, .instanceMethod yX12_row, .selects RX12 yX12_row yX12_row, .initialized RX12, .classLink RL 27 "java/lang/IndexOutOfBoundsException"]
def wv_L_row : List Cond := .codeWith yL_row cL_row 6 (some .int) [(0, 11, 14, 27)] :: (ww_L_row ++ (wv_X12_row ++ []))
theorem wm_L_row {w : Cond} (i : Nat) (h : ww_L_row[i]? = some w) : w ∈ wv_L_row := List.mem_cons_of_mem _ (List.mem_append_left _ (List.mem_of_getElem? h))
set_option maxRecDepth 100000 in
theorem gw_L_row : wv_L_row.all goodWord = true := by decide +kernel
theorem wg_L_row_X12_row : GoodIn wv_L_row wv_X12_row := goodIn_sub (fun w h => List.mem_cons_of_mem _ (List.mem_append_right _ (List.mem_append_left _ h))) gw_X12_row
theorem wV_L_row_X12_row_64 : GoodIn wv_L_row (wsV RL 64 RX12 yX12_row wv_X12_row) := goodIn_app (goodIn_sub (fun w h => by simp only [List.mem_cons, List.not_mem_nil, or_false] at h; rcases h with rfl | rfl | rfl | rfl <;> first | exact wm_L_row 0 rfl | exact wm_L_row 1 rfl | exact wm_L_row 2 rfl | exact wm_L_row 3 rfl) (by decide +kernel)) wg_L_row_X12_row
set_option maxHeartbeats 4000000 in
set_option maxRecDepth 100000 in
/-- the law's row on a fresh house -/
theorem r_L_row (l : Launch) (hl0 : l.stackTraces = false) (dC : Nat → ClassId) (dI : Nat → Nat → Nat) (h0 h4 ho : Nat) (cO : ClassId) (fo : Nat → Int64) (k1 k2 k3 : Int32) (a0 a1 a2 a3 a5 a6 a7 a8 b0 b1 b3 b4 b5 b6 b7 b8 b9 b10 b11 b12 b13 : Value) (sz : Nat) : Met l yL_row wv_L_row ({ frames := 9, cells := 1, slots := 6, locals := 149 }) (va_Pc [.ref h0, .int k1, .int k2, .int k3, .ref ho] (fun U => U.heap.size = sz ∧ va_P (dC, dI) vwCl [(h0, .inr (12, [a0, a1, a2, a3, .ref h4, a5, a6, a7, a8])), (h4, .inr (4, [b0, b1, .int 0, b3, b4, b5, b6, b7, b8, b9, b10, b11, b12, b13])), (ho, .inl (cO, 1, .inr (.inl fo)))] U.heap ∧ va_K (dC, dI) vwCl [(cO, .long)] U ∧ va_D (fun _ => True) [(h0, .inr (12, [a0, a1, a2, a3, .ref h4, a5, a6, a7, a8])), (h4, .inr (4, [b0, b1, .int 0, b3, b4, b5, b6, b7, b8, b9, b10, b11, b12, b13])), (ho, .inl (cO, 1, .inr (.inl fo)))] ∧ xz_F U ∧ xz_Z (va_A [(h0, .inr (12, [a0, a1, a2, a3, .ref h4, a5, a6, a7, a8])), (h4, .inr (4, [b0, b1, .int 0, b3, b4, b5, b6, b7, b8, b9, b10, b11, b12, b13])), (ho, .inl (cO, 1, .inr (.inl fo)))] sz) U U.heap)) (va_Qi (fun r (_ : Unit) => r = 1) (ar_L_row dC dI (va_A [(h0, .inr (12, [a0, a1, a2, a3, .ref h4, a5, a6, a7, a8])), (h4, .inr (4, [b0, b1, .int 0, b3, b4, b5, b6, b7, b8, b9, b10, b11, b12, b13])), (ho, .inl (cO, 1, .inr (.inl fo)))] sz) h0 h4 ho cO fo k1 k2 k3 a0 a1 a2 a3 a5 a6 a7 a8 b0 b1 b3 b4 b5 b6 b7 b8 b9 b10 b11 b12 b13) (va_A [(h0, .inr (12, [a0, a1, a2, a3, .ref h4, a5, a6, a7, a8])), (h4, .inr (4, [b0, b1, .int 0, b3, b4, b5, b6, b7, b8, b9, b10, b11, b12, b13])), (ho, .inl (cO, 1, .inr (.inl fo)))] sz)) 1 6 (va_A [(h0, .inr (12, [a0, a1, a2, a3, .ref h4, a5, a6, a7, a8])), (h4, .inr (4, [b0, b1, .int 0, b3, b4, b5, b6, b7, b8, b9, b10, b11, b12, b13])), (ho, .inl (cO, 1, .inr (.inl fo)))] sz) := by
  refine va_MetW (cc := cL_row) (maxL := 6) (ret := (some .int)) (hh := [(0, 11, 14, 27)]) (by decide) rfl ?_
  intro p e s m args below meth c s₁ B hml hv
  obtain ⟨rfl, hsz, hP, hK, hD0, hF9, hZ9⟩ := hv
  have hx := B.exec
  have hb := B.bytes
  have hr := B.returns
  have hts := atoms_spec (ws := wv_L_row) B.pre
  have hown : s.vm.findClass RL = some m.cls := findClass_of_methodNamed B.named
  have hlocks := B.notSynchronized
  subst hsz
  have hD := hD0.self (sz := s.heap.size)
  generalize hAe : va_A [(h0, .inr (12, [a0, a1, a2, a3, .ref h4, a5, a6, a7, a8])), (h4, .inr (4, [b0, b1, .int 0, b3, b4, b5, b6, b7, b8, b9, b10, b11, b12, b13])), (ho, .inl (cO, 1, .inr (.inl fo)))] s.heap.size = A at hD hZ9 ⊢
  have hA : ∀ q : Nat, s.heap.size ≤ q → A q := fun q h => by rw [← hAe]; exact Or.inr h
  have hS : va_S A s.heap s.heap [] := va_S.rf
  have hP : va_P (dC, dI) vwCl [(h0, .inr (12, [a0, a1, a2, a3, .ref h4, a5, a6, a7, a8])), (h4, .inr (4, [b0, b1, .int 0, b3, b4, b5, b6, b7, b8, b9, b10, b11, b12, b13])), (ho, .inl (cO, 1, .inr (.inl fo)))] s.heap := hP
  have hl := lv_entry ([.ref h0, .int k1, .int k2, .int k3, .ref ho]) (n := 6) (Nat.le_of_ble_eq_true rfl)
  rw [lg_entry_eq]
  generalize (lg_sl ([.ref h0, .int k1, .int k2, .int k3, .ref ho]) ++ List.replicate (6 - (lg_sl ([.ref h0, .int k1, .int k2, .int k3, .ref ho])).length) Slot.unset).toArray = ls at hl ⊢
  have hl : lv_has ls 6 [(0, .ref h0), (1, .int k1), (2, .int k2), (3, .int k3), (4, .ref ho)] := hl
  have htab : c.exceptionTable.toList = [⟨0, 11, 14, 27⟩] := vx_table (x := yL_row) B (hts _ List.mem_cons_self)
  refine lv_aload hx hb dL_row_0 (lv_at hl 4 rfl) ?_
  refine lv_iconst (v := 0) hx hb dL_row_2 (by decide) ?_
  refine lv_aload_n hx hb dL_row_3 rfl (lv_at hl 0 rfl) ?_
  refine lv_iload_n hx hb dL_row_4 rfl (lv_at hl 1 rfl) ?_
  refine lv_iload_n hx hb dL_row_5 rfl (lv_at hl 2 rfl) ?_
  refine lv_iload_n hx hb dL_row_6 rfl (lv_at hl 3 rfl) ?_
  have hPc := hP.sub (ws' := [(h0, .inr (12, [a0, a1, a2, a3, .ref h4, a5, a6, a7, a8])), (h4, .inr (4, [b0, b1, .int 0, b3, b4, b5, b6, b7, b8, b9, b10, b11, b12, b13]))]) [0, 1] rfl
  have hDc := hD.sub (ws' := [(h0, .inr (12, [a0, a1, a2, a3, .ref h4, a5, a6, a7, a8])), (h4, .inr (4, [b0, b1, .int 0, b3, b4, b5, b6, b7, b8, b9, b10, b11, b12, b13]))]) [0, 1] (by decide) rfl
  have hKc := hK.sub (tys' := []) [] rfl
  have hFc := va_free (wc := [(h0, .inr (12, [a0, a1, a2, a3, .ref h4, a5, a6, a7, a8])), (h4, .inr (4, [b0, b1, .int 0, b3, b4, b5, b6, b7, b8, b9, b10, b11, b12, b13]))]) hD hS hA [0, 1] rfl
  have h_1 : 1 ≤ 1 := by decide
  have h_2 : 6 ≤ 6 := by decide
  refine xz_callX (vx_runV (As := [.int k1, .int k2, .int k3]) (rest := [.int 0, .ref ho]) ⟨hx, hb, hml, hown, hts⟩ (x_X12_row l hl0 dC dI h0 h4 k1 k2 k3 a0 a1 a2 a3 a5 a6 a7 a8 b0 b1 b3 b4 b5 b6 b7 b8 b9 b10 b11 b12 b13 _) (cwV 3 hts wV_L_row_X12_row_64 rfl rfl rfl (by decide +kernel) ⟨Nat.le_of_ble_eq_true rfl, Nat.le_of_ble_eq_true rfl⟩) ⟨fun a U g mk q => by obtain ⟨q0, q1, qP, qK, qD, qf0, qf1⟩ := q; exact ⟨q0, q1, qP, va_K.moved (u := U) (U := U.calling g mk a) (Vm.Alike.refl U.vm) qK, qD, xz_F.same rfl qf0, xz_Z.same (Vm.Alike.refl _) rfl qf1⟩, va_recv hKc hPc (ci := 12) (q0 := 0) rfl rfl, fun U hU hW => ⟨rfl, by rw [hU], by rw [hU]; exact hPc, va_K.moved hW.alike hKc, hDc.weaken (fun _ _ _ _ => trivial), xz_F.warm hW hF9, (hZ9.to hS hFc hW.alike hU)⟩⟩ rfl rfl hl.1 rfl (lv_room (Nat.le_of_ble_eq_true rfl)) dL_row_7 ⟨h_1, h_2⟩) (fun _ _ _ h9 => by obtain ⟨⟨_, h9⟩, _⟩ := h9; simp at h9) hS hFc (fun q _ h => hFc q h) (fun E ce x3 u t H1 locs ht hvm hw hB hz1 hk1 hS hce hcv hcl => ?_)
  obtain ⟨hE, hP1, hK1, hD1⟩ := hB
  subst hE
  rw [ht] at hP1
  have hK1 := va_K.moved hvm.symm hK1
  obtain ⟨hP, hD⟩ := va_join (wr := [(ho, .inl (cO, 1, .inr (.inl fo)))]) (w1 := [(h0, .inr (12, [a0, a1, a2, a3, .ref h4, a5, a6, a7, a8])), (h4, .inr (4, [b0, b1, .int 0, b3, b4, b5, b6, b7, b8, b9, b10, b11, b12, b13]))]) hP hD [0, 1] [2] rfl rfl (by decide) (by decide) hk1 hFc hP1 hD1
  have hK := (hK.sub (tys' := [(cO, .long)]) [0] rfl).app hK1
  generalize H1 = H at hP hS hce ⊢
  have hP : va_P (dC, dI) vwCl [(ho, .inl (cO, 1, .inr (.inl fo))), (h0, .inr (12, [a0, a1, a2, a3, .ref h4, a5, a6, a7, a8])), (h4, .inr (4, [b0, b1, .int 0, b3, b4, b5, b6, b7, b8, b9, b10, b11, b12, b13]))] H := hP
  have hD : va_D A [(ho, .inl (cO, 1, .inr (.inl fo))), (h0, .inr (12, [a0, a1, a2, a3, .ref h4, a5, a6, a7, a8])), (h4, .inr (4, [b0, b1, .int 0, b3, b4, b5, b6, b7, b8, b9, b10, b11, b12, b13]))] := hD
  have hK : va_K (dC, dI) vwCl [(cO, .long)] s := hK
  refine vx_widen (k := 1) (n := 6) (by decide) (by decide) ?_
  refine vx_catch (own := RL) (name := "java/lang/IndexOutOfBoundsException") (E := "java/lang/IndexOutOfBoundsException") hown [] ⟨0, 11, 14, 27⟩ [] htab (fun z9 hz9 => nomatch hz9) (by decide) (by decide) (hts (.classLink RL 27 "java/lang/IndexOutOfBoundsException") (wm_L_row 4 rfl)) (va_Nw.use rfl hF9.2.2.2.2.2.1) hce hcv hcl ?_
  refine lv_astore (lv' := [(5, .ref x3), (0, .ref h0), (1, .int k1), (2, .int k2), (3, .int k3), (4, .ref ho)]) hx hb dL_row_14 hl (by decide) rfl (fun ls hl => ?_)
  refine lv_iconst (v := 1) hx hb dL_row_16 (by decide) ?_
  have hP9 := hP.sub (ws' := [(h0, .inr (12, [a0, a1, a2, a3, .ref h4, a5, a6, a7, a8])), (h4, .inr (4, [b0, b1, .int 0, b3, b4, b5, b6, b7, b8, b9, b10, b11, b12, b13])), (ho, .inl (cO, 1, .inr (.inl fo)))]) [1, 2, 0] rfl
  have hD9 := hD.sub (ws' := [(h0, .inr (12, [a0, a1, a2, a3, .ref h4, a5, a6, a7, a8])), (h4, .inr (4, [b0, b1, .int 0, b3, b4, b5, b6, b7, b8, b9, b10, b11, b12, b13])), (ho, .inl (cO, 1, .inr (.inl fo)))]) [1, 2, 0] (by decide) rfl
  have hK9 := hK.sub (tys' := [(cO, .long)]) [0] rfl
  refine W.widen (k := 1) (n := 6) (by decide) (by decide) ?_
  exact W.iret (v := 1) hx hb hr (fun t ht hW => ⟨⟨1, (), rfl, rfl, by rw [ht]; exact hP9, va_K.moved hW.alike hK9, hD9⟩, hS.F ht⟩) hS.2.2 dL_row_17

abbrev ar_L_lineage (dC : Nat → ClassId) (dI : Nat → Nat → Nat) (A : Nat → Prop) (h0 h4 ho : Nat) (cO : ClassId) (fo : Nat → Int64) (k1 k2 k3 : Int32) (a0 a1 a2 a3 a5 a6 a7 a8 b0 b1 b3 b4 b5 b6 b7 b8 b9 b10 b11 b12 b13 : Value) (_ : Unit) (t : State) : Prop := va_P (dC, dI) vwCl [(h0, .inr (12, [a0, a1, a2, a3, .ref h4, a5, a6, a7, a8])), (h4, .inr (4, [b0, b1, .int 0, b3, b4, b5, b6, b7, b8, b9, b10, b11, b12, b13])), (ho, .inl (cO, 1, .inr (.inl fo)))] t.heap ∧ va_K (dC, dI) vwCl [(cO, .long)] t ∧ va_D A [(h0, .inr (12, [a0, a1, a2, a3, .ref h4, a5, a6, a7, a8])), (h4, .inr (4, [b0, b1, .int 0, b3, b4, b5, b6, b7, b8, b9, b10, b11, b12, b13])), (ho, .inl (cO, 1, .inr (.inl fo)))]
theorem dL_lineage_0 : decode cL_lineage 0 = .ok (.aload 4, 2) := by decide +kernel
theorem dL_lineage_2 : decode cL_lineage 2 = .ok (.iconst 0, 1) := by decide +kernel
theorem dL_lineage_3 : decode cL_lineage 3 = .ok (.aload_n 0, 1) := by decide +kernel
theorem dL_lineage_4 : decode cL_lineage 4 = .ok (.iload_n 1, 1) := by decide +kernel
theorem dL_lineage_5 : decode cL_lineage 5 = .ok (.iload_n 2, 1) := by decide +kernel
theorem dL_lineage_6 : decode cL_lineage 6 = .ok (.iload_n 3, 1) := by decide +kernel
theorem dL_lineage_7 : decode cL_lineage 7 = .ok (.invokevirtual 68, 3) := by decide +kernel
theorem dL_lineage_15 : decode cL_lineage 15 = .ok (.astore 5, 2) := by decide +kernel
theorem dL_lineage_17 : decode cL_lineage 17 = .ok (.iconst 1, 1) := by decide +kernel
theorem dL_lineage_18 : decode cL_lineage 18 = .ok (.ireturn, 1) := by decide +kernel
def ww_L_lineage : List Cond := [.methodLink RL 68 yX12_lineage, .instanceMethod yX12_lineage, .selects RX12 yX12_lineage yX12_lineage, .initialized RX12, .classLink RL 27 "java/lang/IndexOutOfBoundsException"]
def wv_L_lineage : List Cond := .codeWith yL_lineage cL_lineage 6 (some .int) [(0, 12, 15, 27)] :: (ww_L_lineage ++ (wv_X12_lineage ++ []))
theorem wm_L_lineage {w : Cond} (i : Nat) (h : ww_L_lineage[i]? = some w) : w ∈ wv_L_lineage := List.mem_cons_of_mem _ (List.mem_append_left _ (List.mem_of_getElem? h))
set_option maxRecDepth 100000 in
theorem gw_L_lineage : wv_L_lineage.all goodWord = true := by decide +kernel
theorem wg_L_lineage_X12_lineage : GoodIn wv_L_lineage wv_X12_lineage := goodIn_sub (fun w h => List.mem_cons_of_mem _ (List.mem_append_right _ (List.mem_append_left _ h))) gw_X12_lineage
theorem wV_L_lineage_X12_lineage_68 : GoodIn wv_L_lineage (wsV RL 68 RX12 yX12_lineage wv_X12_lineage) := goodIn_app (goodIn_sub (fun w h => by simp only [List.mem_cons, List.not_mem_nil, or_false] at h; rcases h with rfl | rfl | rfl | rfl <;> first | exact wm_L_lineage 0 rfl | exact wm_L_lineage 1 rfl | exact wm_L_lineage 2 rfl | exact wm_L_lineage 3 rfl) (by decide +kernel)) wg_L_lineage_X12_lineage
set_option maxHeartbeats 4000000 in
set_option maxRecDepth 100000 in
/-- the law's lineage on a fresh house -/
theorem r_L_lineage (l : Launch) (hl0 : l.stackTraces = false) (dC : Nat → ClassId) (dI : Nat → Nat → Nat) (h0 h4 ho : Nat) (cO : ClassId) (fo : Nat → Int64) (k1 k2 k3 : Int32) (a0 a1 a2 a3 a5 a6 a7 a8 b0 b1 b3 b4 b5 b6 b7 b8 b9 b10 b11 b12 b13 : Value) (sz : Nat) : Met l yL_lineage wv_L_lineage ({ frames := 9, cells := 1, slots := 6, locals := 150 }) (va_Pc [.ref h0, .int k1, .int k2, .int k3, .ref ho] (fun U => U.heap.size = sz ∧ va_P (dC, dI) vwCl [(h0, .inr (12, [a0, a1, a2, a3, .ref h4, a5, a6, a7, a8])), (h4, .inr (4, [b0, b1, .int 0, b3, b4, b5, b6, b7, b8, b9, b10, b11, b12, b13])), (ho, .inl (cO, 1, .inr (.inl fo)))] U.heap ∧ va_K (dC, dI) vwCl [(cO, .long)] U ∧ va_D (fun _ => True) [(h0, .inr (12, [a0, a1, a2, a3, .ref h4, a5, a6, a7, a8])), (h4, .inr (4, [b0, b1, .int 0, b3, b4, b5, b6, b7, b8, b9, b10, b11, b12, b13])), (ho, .inl (cO, 1, .inr (.inl fo)))] ∧ xz_F U ∧ xz_Z (va_A [(h0, .inr (12, [a0, a1, a2, a3, .ref h4, a5, a6, a7, a8])), (h4, .inr (4, [b0, b1, .int 0, b3, b4, b5, b6, b7, b8, b9, b10, b11, b12, b13])), (ho, .inl (cO, 1, .inr (.inl fo)))] sz) U U.heap)) (va_Qi (fun r (_ : Unit) => r = 1) (ar_L_lineage dC dI (va_A [(h0, .inr (12, [a0, a1, a2, a3, .ref h4, a5, a6, a7, a8])), (h4, .inr (4, [b0, b1, .int 0, b3, b4, b5, b6, b7, b8, b9, b10, b11, b12, b13])), (ho, .inl (cO, 1, .inr (.inl fo)))] sz) h0 h4 ho cO fo k1 k2 k3 a0 a1 a2 a3 a5 a6 a7 a8 b0 b1 b3 b4 b5 b6 b7 b8 b9 b10 b11 b12 b13) (va_A [(h0, .inr (12, [a0, a1, a2, a3, .ref h4, a5, a6, a7, a8])), (h4, .inr (4, [b0, b1, .int 0, b3, b4, b5, b6, b7, b8, b9, b10, b11, b12, b13])), (ho, .inl (cO, 1, .inr (.inl fo)))] sz)) 1 6 (va_A [(h0, .inr (12, [a0, a1, a2, a3, .ref h4, a5, a6, a7, a8])), (h4, .inr (4, [b0, b1, .int 0, b3, b4, b5, b6, b7, b8, b9, b10, b11, b12, b13])), (ho, .inl (cO, 1, .inr (.inl fo)))] sz) := by
  refine va_MetW (cc := cL_lineage) (maxL := 6) (ret := (some .int)) (hh := [(0, 12, 15, 27)]) (by decide) rfl ?_
  intro p e s m args below meth c s₁ B hml hv
  obtain ⟨rfl, hsz, hP, hK, hD0, hF9, hZ9⟩ := hv
  have hx := B.exec
  have hb := B.bytes
  have hr := B.returns
  have hts := atoms_spec (ws := wv_L_lineage) B.pre
  have hown : s.vm.findClass RL = some m.cls := findClass_of_methodNamed B.named
  have hlocks := B.notSynchronized
  subst hsz
  have hD := hD0.self (sz := s.heap.size)
  generalize hAe : va_A [(h0, .inr (12, [a0, a1, a2, a3, .ref h4, a5, a6, a7, a8])), (h4, .inr (4, [b0, b1, .int 0, b3, b4, b5, b6, b7, b8, b9, b10, b11, b12, b13])), (ho, .inl (cO, 1, .inr (.inl fo)))] s.heap.size = A at hD hZ9 ⊢
  have hA : ∀ q : Nat, s.heap.size ≤ q → A q := fun q h => by rw [← hAe]; exact Or.inr h
  have hS : va_S A s.heap s.heap [] := va_S.rf
  have hP : va_P (dC, dI) vwCl [(h0, .inr (12, [a0, a1, a2, a3, .ref h4, a5, a6, a7, a8])), (h4, .inr (4, [b0, b1, .int 0, b3, b4, b5, b6, b7, b8, b9, b10, b11, b12, b13])), (ho, .inl (cO, 1, .inr (.inl fo)))] s.heap := hP
  have hl := lv_entry ([.ref h0, .int k1, .int k2, .int k3, .ref ho]) (n := 6) (Nat.le_of_ble_eq_true rfl)
  rw [lg_entry_eq]
  generalize (lg_sl ([.ref h0, .int k1, .int k2, .int k3, .ref ho]) ++ List.replicate (6 - (lg_sl ([.ref h0, .int k1, .int k2, .int k3, .ref ho])).length) Slot.unset).toArray = ls at hl ⊢
  have hl : lv_has ls 6 [(0, .ref h0), (1, .int k1), (2, .int k2), (3, .int k3), (4, .ref ho)] := hl
  have htab : c.exceptionTable.toList = [⟨0, 12, 15, 27⟩] := vx_table (x := yL_lineage) B (hts _ List.mem_cons_self)
  refine lv_aload hx hb dL_lineage_0 (lv_at hl 4 rfl) ?_
  refine lv_iconst (v := 0) hx hb dL_lineage_2 (by decide) ?_
  refine lv_aload_n hx hb dL_lineage_3 rfl (lv_at hl 0 rfl) ?_
  refine lv_iload_n hx hb dL_lineage_4 rfl (lv_at hl 1 rfl) ?_
  refine lv_iload_n hx hb dL_lineage_5 rfl (lv_at hl 2 rfl) ?_
  refine lv_iload_n hx hb dL_lineage_6 rfl (lv_at hl 3 rfl) ?_
  have hPc := hP.sub (ws' := [(h0, .inr (12, [a0, a1, a2, a3, .ref h4, a5, a6, a7, a8])), (h4, .inr (4, [b0, b1, .int 0, b3, b4, b5, b6, b7, b8, b9, b10, b11, b12, b13]))]) [0, 1] rfl
  have hDc := hD.sub (ws' := [(h0, .inr (12, [a0, a1, a2, a3, .ref h4, a5, a6, a7, a8])), (h4, .inr (4, [b0, b1, .int 0, b3, b4, b5, b6, b7, b8, b9, b10, b11, b12, b13]))]) [0, 1] (by decide) rfl
  have hKc := hK.sub (tys' := []) [] rfl
  have hFc := va_free (wc := [(h0, .inr (12, [a0, a1, a2, a3, .ref h4, a5, a6, a7, a8])), (h4, .inr (4, [b0, b1, .int 0, b3, b4, b5, b6, b7, b8, b9, b10, b11, b12, b13]))]) hD hS hA [0, 1] rfl
  have h_1 : 1 ≤ 1 := by decide
  have h_2 : 6 ≤ 6 := by decide
  refine xz_callX (vx_runV (As := [.int k1, .int k2, .int k3]) (rest := [.int 0, .ref ho]) ⟨hx, hb, hml, hown, hts⟩ (x_X12_lineage l hl0 dC dI h0 h4 k1 k2 k3 a0 a1 a2 a3 a5 a6 a7 a8 b0 b1 b3 b4 b5 b6 b7 b8 b9 b10 b11 b12 b13 _) (cwV 3 hts wV_L_lineage_X12_lineage_68 rfl rfl rfl (by decide +kernel) ⟨Nat.le_of_ble_eq_true rfl, Nat.le_of_ble_eq_true rfl⟩) ⟨fun a U g mk q => by obtain ⟨q0, q1, qP, qK, qD, qf0, qf1⟩ := q; exact ⟨q0, q1, qP, va_K.moved (u := U) (U := U.calling g mk a) (Vm.Alike.refl U.vm) qK, qD, xz_F.same rfl qf0, xz_Z.same (Vm.Alike.refl _) rfl qf1⟩, va_recv hKc hPc (ci := 12) (q0 := 0) rfl rfl, fun U hU hW => ⟨rfl, by rw [hU], by rw [hU]; exact hPc, va_K.moved hW.alike hKc, hDc.weaken (fun _ _ _ _ => trivial), xz_F.warm hW hF9, (hZ9.to hS hFc hW.alike hU)⟩⟩ rfl rfl hl.1 rfl (lv_room (Nat.le_of_ble_eq_true rfl)) dL_lineage_7 ⟨h_1, h_2⟩) (fun _ _ _ h9 => by obtain ⟨⟨_, h9⟩, _⟩ := h9; simp at h9) hS hFc (fun q _ h => hFc q h) (fun E ce x3 u t H1 locs ht hvm hw hB hz1 hk1 hS hce hcv hcl => ?_)
  obtain ⟨hE, hP1, hK1, hD1⟩ := hB
  subst hE
  rw [ht] at hP1
  have hK1 := va_K.moved hvm.symm hK1
  obtain ⟨hP, hD⟩ := va_join (wr := [(ho, .inl (cO, 1, .inr (.inl fo)))]) (w1 := [(h0, .inr (12, [a0, a1, a2, a3, .ref h4, a5, a6, a7, a8])), (h4, .inr (4, [b0, b1, .int 0, b3, b4, b5, b6, b7, b8, b9, b10, b11, b12, b13]))]) hP hD [0, 1] [2] rfl rfl (by decide) (by decide) hk1 hFc hP1 hD1
  have hK := (hK.sub (tys' := [(cO, .long)]) [0] rfl).app hK1
  generalize H1 = H at hP hS hce ⊢
  have hP : va_P (dC, dI) vwCl [(ho, .inl (cO, 1, .inr (.inl fo))), (h0, .inr (12, [a0, a1, a2, a3, .ref h4, a5, a6, a7, a8])), (h4, .inr (4, [b0, b1, .int 0, b3, b4, b5, b6, b7, b8, b9, b10, b11, b12, b13]))] H := hP
  have hD : va_D A [(ho, .inl (cO, 1, .inr (.inl fo))), (h0, .inr (12, [a0, a1, a2, a3, .ref h4, a5, a6, a7, a8])), (h4, .inr (4, [b0, b1, .int 0, b3, b4, b5, b6, b7, b8, b9, b10, b11, b12, b13]))] := hD
  have hK : va_K (dC, dI) vwCl [(cO, .long)] s := hK
  refine vx_widen (k := 1) (n := 6) (by decide) (by decide) ?_
  refine vx_catch (own := RL) (name := "java/lang/IndexOutOfBoundsException") (E := "java/lang/IndexOutOfBoundsException") hown [] ⟨0, 12, 15, 27⟩ [] htab (fun z9 hz9 => nomatch hz9) (by decide) (by decide) (hts (.classLink RL 27 "java/lang/IndexOutOfBoundsException") (wm_L_lineage 4 rfl)) (va_Nw.use rfl hF9.2.2.2.2.2.1) hce hcv hcl ?_
  refine lv_astore (lv' := [(5, .ref x3), (0, .ref h0), (1, .int k1), (2, .int k2), (3, .int k3), (4, .ref ho)]) hx hb dL_lineage_15 hl (by decide) rfl (fun ls hl => ?_)
  refine lv_iconst (v := 1) hx hb dL_lineage_17 (by decide) ?_
  have hP9 := hP.sub (ws' := [(h0, .inr (12, [a0, a1, a2, a3, .ref h4, a5, a6, a7, a8])), (h4, .inr (4, [b0, b1, .int 0, b3, b4, b5, b6, b7, b8, b9, b10, b11, b12, b13])), (ho, .inl (cO, 1, .inr (.inl fo)))]) [1, 2, 0] rfl
  have hD9 := hD.sub (ws' := [(h0, .inr (12, [a0, a1, a2, a3, .ref h4, a5, a6, a7, a8])), (h4, .inr (4, [b0, b1, .int 0, b3, b4, b5, b6, b7, b8, b9, b10, b11, b12, b13])), (ho, .inl (cO, 1, .inr (.inl fo)))]) [1, 2, 0] (by decide) rfl
  have hK9 := hK.sub (tys' := [(cO, .long)]) [0] rfl
  refine W.widen (k := 1) (n := 6) (by decide) (by decide) ?_
  exact W.iret (v := 1) hx hb hr (fun t ht hW => ⟨⟨1, (), rfl, rfl, by rw [ht]; exact hP9, va_K.moved hW.alike hK9, hD9⟩, hS.F ht⟩) hS.2.2 dL_lineage_18


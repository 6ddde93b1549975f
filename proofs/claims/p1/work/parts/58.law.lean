abbrev ar_L_close_X (dC : Nat → ClassId) (dI : Nat → Nat → Nat) (A : Nat → Prop) (h0 ho : Nat) (cO : ClassId) (fo : Nat → Int64) (k1 : Int32) (a0 a1 a2 a3 a4 a5 a6 a7 a8 : Value) (_ : Unit) (t : State) : Prop := va_P (dC, dI) vwCl [(h0, .inr (12, [a0, a1, a2, a3, a4, a5, a6, a7, a8])), (ho, .inl (cO, 1, .inr (.inl fo)))] t.heap ∧ va_K (dC, dI) vwCl [(cO, .long)] t ∧ va_D A [(h0, .inr (12, [a0, a1, a2, a3, a4, a5, a6, a7, a8])), (ho, .inl (cO, 1, .inr (.inl fo)))]
theorem dL_close_X_0 : decode cL_close 0 = .ok (.aload_n 2, 1) := by decide +kernel
theorem dL_close_X_1 : decode cL_close 1 = .ok (.iconst 0, 1) := by decide +kernel
theorem dL_close_X_2 : decode cL_close 2 = .ok (.aload_n 0, 1) := by decide +kernel
theorem dL_close_X_3 : decode cL_close 3 = .ok (.iload_n 1, 1) := by decide +kernel
theorem dL_close_X_4 : decode cL_close 4 = .ok (.invokevirtual 33, 3) := by decide +kernel
theorem dL_close_X_19 : decode cL_close 19 = .ok (.astore_n 3, 1) := by decide +kernel
theorem dL_close_X_20 : decode cL_close 20 = .ok (.iconst 1, 1) := by decide +kernel
theorem dL_close_X_21 : decode cL_close 21 = .ok (.ireturn, 1) := by decide +kernel
def ww_L_close_X : List Cond := [.methodLink RL 33 yX12_close, .instanceMethod yX12_close, .selects RX12 yX12_close yX12_close, .initialized RX12, .classLink RL 27 "java/lang/IndexOutOfBoundsException"]
def wv_L_close_X : List Cond := .codeWith yL_close cL_close 4 (some .int) [(0, 16, 19, 27), (0, 16, 22, 21)] :: (ww_L_close_X ++ (wv_X12_close_X ++ []))
theorem wm_L_close_X {w : Cond} (i : Nat) (h : ww_L_close_X[i]? = some w) : w ∈ wv_L_close_X := List.mem_cons_of_mem _ (List.mem_append_left _ (List.mem_of_getElem? h))
set_option maxRecDepth 100000 in
theorem gw_L_close_X : wv_L_close_X.all goodWord = true := by decide +kernel
theorem wg_L_close_X_X12_close_X : GoodIn wv_L_close_X wv_X12_close_X := goodIn_sub (fun w h => List.mem_cons_of_mem _ (List.mem_append_right _ (List.mem_append_left _ h))) gw_X12_close_X
theorem wV_L_close_X_X12_close_X_33 : GoodIn wv_L_close_X (wsV RL 33 RX12 yX12_close wv_X12_close_X) := goodIn_app (goodIn_sub (fun w h => by simp only [List.mem_cons, List.not_mem_nil, or_false] at h; rcases h with rfl | rfl | rfl | rfl <;> first | exact wm_L_close_X 0 rfl | exact wm_L_close_X 1 rfl | exact wm_L_close_X 2 rfl | exact wm_L_close_X 3 rfl) (by decide +kernel)) wg_L_close_X_X12_close_X
set_option maxHeartbeats 4000000 in
set_option maxRecDepth 100000 in
/-- the law's close on a fresh house -/
theorem r_L_close_X (l : Launch) (hl0 : l.stackTraces = false) (dC : Nat → ClassId) (dI : Nat → Nat → Nat) (h0 ho : Nat) (cO : ClassId) (fo : Nat → Int64) (k1 : Int32) (a0 a1 a2 a3 a4 a5 a6 a7 a8 : Value) (sz : Nat) : Met l yL_close wv_L_close_X ({ frames := 7, cells := 1, slots := 6, locals := 103 }) (va_Pc [.ref h0, .int k1, .ref ho] (fun U => U.heap.size = sz ∧ va_P (dC, dI) vwCl [(h0, .inr (12, [a0, a1, a2, a3, a4, a5, a6, a7, a8])), (ho, .inl (cO, 1, .inr (.inl fo)))] U.heap ∧ va_K (dC, dI) vwCl [(cO, .long)] U ∧ va_D (fun _ => True) [(h0, .inr (12, [a0, a1, a2, a3, a4, a5, a6, a7, a8])), (ho, .inl (cO, 1, .inr (.inl fo)))] ∧ xz_F U ∧ xz_Z (va_A [(h0, .inr (12, [a0, a1, a2, a3, a4, a5, a6, a7, a8])), (ho, .inl (cO, 1, .inr (.inl fo)))] sz) U U.heap ∧ (k1 < 0 ∨ 4 ≤ k1))) (va_Qi (fun r (_ : Unit) => r = 1) (ar_L_close_X dC dI (va_A [(h0, .inr (12, [a0, a1, a2, a3, a4, a5, a6, a7, a8])), (ho, .inl (cO, 1, .inr (.inl fo)))] sz) h0 ho cO fo k1 a0 a1 a2 a3 a4 a5 a6 a7 a8) (va_A [(h0, .inr (12, [a0, a1, a2, a3, a4, a5, a6, a7, a8])), (ho, .inl (cO, 1, .inr (.inl fo)))] sz)) 1 6 (va_A [(h0, .inr (12, [a0, a1, a2, a3, a4, a5, a6, a7, a8])), (ho, .inl (cO, 1, .inr (.inl fo)))] sz) := by
  refine va_MetW (cc := cL_close) (maxL := 4) (ret := (some .int)) (hh := [(0, 16, 19, 27), (0, 16, 22, 21)]) (by decide) rfl ?_
  intro p e s m args below meth c s₁ B hml hv
  obtain ⟨rfl, hsz, hP, hK, hD0, hF9, hZ9, hpre⟩ := hv
  have hx := B.exec
  have hb := B.bytes
  have hr := B.returns
  have hts := atoms_spec (ws := wv_L_close_X) B.pre
  have hown : s.vm.findClass RL = some m.cls := findClass_of_methodNamed B.named
  have hlocks := B.notSynchronized
  subst hsz
  have hD := hD0.self (sz := s.heap.size)
  generalize hAe : va_A [(h0, .inr (12, [a0, a1, a2, a3, a4, a5, a6, a7, a8])), (ho, .inl (cO, 1, .inr (.inl fo)))] s.heap.size = A at hD hZ9 ⊢
  have hA : ∀ q : Nat, s.heap.size ≤ q → A q := fun q h => by rw [← hAe]; exact Or.inr h
  have hS : va_S A s.heap s.heap [] := va_S.rf
  have hP : va_P (dC, dI) vwCl [(h0, .inr (12, [a0, a1, a2, a3, a4, a5, a6, a7, a8])), (ho, .inl (cO, 1, .inr (.inl fo)))] s.heap := hP
  have hl := lv_entry ([.ref h0, .int k1, .ref ho]) (n := 4) (Nat.le_of_ble_eq_true rfl)
  rw [lg_entry_eq]
  generalize (lg_sl ([.ref h0, .int k1, .ref ho]) ++ List.replicate (4 - (lg_sl ([.ref h0, .int k1, .ref ho])).length) Slot.unset).toArray = ls at hl ⊢
  have hl : lv_has ls 4 [(0, .ref h0), (1, .int k1), (2, .ref ho)] := hl
  have htab : c.exceptionTable.toList = [⟨0, 16, 19, 27⟩, ⟨0, 16, 22, 21⟩] := vx_table (x := yL_close) B (hts _ List.mem_cons_self)
  refine lv_aload_n hx hb dL_close_X_0 rfl (lv_at hl 2 rfl) ?_
  refine lv_iconst (v := 0) hx hb dL_close_X_1 (by decide) ?_
  refine lv_aload_n hx hb dL_close_X_2 rfl (lv_at hl 0 rfl) ?_
  refine lv_iload_n hx hb dL_close_X_3 rfl (lv_at hl 1 rfl) ?_
  have hPc := hP.sub (ws' := [(h0, .inr (12, [a0, a1, a2, a3, a4, a5, a6, a7, a8]))]) [0] rfl
  have hDc := hD.sub (ws' := [(h0, .inr (12, [a0, a1, a2, a3, a4, a5, a6, a7, a8]))]) [0] (by decide) rfl
  have hKc := hK.sub (tys' := []) [] rfl
  have hFc := va_free (wc := [(h0, .inr (12, [a0, a1, a2, a3, a4, a5, a6, a7, a8]))]) hD hS hA [0] rfl
  have h_1 : 1 ≤ 1 := by decide
  have h_2 : 6 ≤ 6 := by decide
  refine xz_callX (vx_runV (As := [.int k1]) (rest := [.int 0, .ref ho]) ⟨hx, hb, hml, hown, hts⟩ (x_X12_close_X l hl0 dC dI h0 k1 a0 a1 a2 a3 a4 a5 a6 a7 a8 _) (cwV 1 hts wV_L_close_X_X12_close_X_33 rfl rfl rfl (by decide +kernel) ⟨Nat.le_of_ble_eq_true rfl, Nat.le_of_ble_eq_true rfl⟩) ⟨fun a U g mk q => by obtain ⟨q0, q1, qP, qK, qD, qf0, qf1, qp⟩ := q; exact ⟨q0, q1, qP, va_K.moved (u := U) (U := U.calling g mk a) (Vm.Alike.refl U.vm) qK, qD, xz_F.same rfl qf0, xz_Z.same (Vm.Alike.refl _) rfl qf1, qp⟩, va_recv hKc hPc (ci := 12) (q0 := 0) rfl rfl, fun U hU hW => ⟨rfl, by rw [hU], by rw [hU]; exact hPc, va_K.moved hW.alike hKc, hDc.weaken (fun _ _ _ _ => trivial), xz_F.warm hW hF9, (hZ9.to hS hFc hW.alike hU), hpre⟩⟩ rfl rfl hl.1 rfl (lv_room (Nat.le_of_ble_eq_true rfl)) dL_close_X_4 ⟨h_1, h_2⟩) (fun _ _ _ h9 => by obtain ⟨⟨_, h9⟩, _⟩ := h9; simp at h9) hS hFc (fun q _ h => hFc q h) (fun E ce x3 u t H1 locs ht hvm hw hB hz1 hk1 hS hce hcv hcl => ?_)
  obtain ⟨hE, hP1, hK1, hD1⟩ := hB
  subst hE
  rw [ht] at hP1
  have hK1 := va_K.moved hvm.symm hK1
  obtain ⟨hP, hD⟩ := va_join (wr := [(ho, .inl (cO, 1, .inr (.inl fo)))]) (w1 := [(h0, .inr (12, [a0, a1, a2, a3, a4, a5, a6, a7, a8]))]) hP hD [0] [1] rfl rfl (by decide) (by decide) hk1 hFc hP1 hD1
  have hK := (hK.sub (tys' := [(cO, .long)]) [0] rfl).app hK1
  generalize H1 = H at hP hS hce ⊢
  have hP : va_P (dC, dI) vwCl [(ho, .inl (cO, 1, .inr (.inl fo))), (h0, .inr (12, [a0, a1, a2, a3, a4, a5, a6, a7, a8]))] H := hP
  have hD : va_D A [(ho, .inl (cO, 1, .inr (.inl fo))), (h0, .inr (12, [a0, a1, a2, a3, a4, a5, a6, a7, a8]))] := hD
  have hK : va_K (dC, dI) vwCl [(cO, .long)] s := hK
  refine vx_widen (k := 1) (n := 6) (by decide) (by decide) ?_
  refine vx_catch (own := RL) (name := "java/lang/IndexOutOfBoundsException") (E := "java/lang/IndexOutOfBoundsException") hown [] ⟨0, 16, 19, 27⟩ [⟨0, 16, 22, 21⟩] htab (fun z9 hz9 => nomatch hz9) (by decide) (by decide) (hts (.classLink RL 27 "java/lang/IndexOutOfBoundsException") (wm_L_close_X 4 rfl)) (va_Nw.use rfl hF9.2.2.2.2.2.1) hce hcv hcl ?_
  refine lv_astore_n (lv' := [(3, .ref x3), (0, .ref h0), (1, .int k1), (2, .ref ho)]) hx hb dL_close_X_19 rfl hl (by decide) rfl (fun ls hl => ?_)
  refine lv_iconst (v := 1) hx hb dL_close_X_20 (by decide) ?_
  have hP9 := hP.sub (ws' := [(h0, .inr (12, [a0, a1, a2, a3, a4, a5, a6, a7, a8])), (ho, .inl (cO, 1, .inr (.inl fo)))]) [1, 0] rfl
  have hD9 := hD.sub (ws' := [(h0, .inr (12, [a0, a1, a2, a3, a4, a5, a6, a7, a8])), (ho, .inl (cO, 1, .inr (.inl fo)))]) [1, 0] (by decide) rfl
  have hK9 := hK.sub (tys' := [(cO, .long)]) [0] rfl
  refine W.widen (k := 1) (n := 6) (by decide) (by decide) ?_
  exact W.iret (v := 1) hx hb hr (fun t ht hW => ⟨⟨1, (), rfl, rfl, by rw [ht]; exact hP9, va_K.moved hW.alike hK9, hD9⟩, hS.F ht⟩) hS.2.2 dL_close_X_21

abbrev ar_L_close_S (dC : Nat → ClassId) (dI : Nat → Nat → Nat) (A : Nat → Prop) (h0 h4 h5 ho : Nat) (cB cO : ClassId) (f1 : Nat → Int32) (fo : Nat → Int64) (k1 : Int32) (a0 a1 a2 a3 a5 a6 a7 a8 b0 b1 b2 b3 b5 b6 b7 b8 b9 b10 b11 b12 b13 : Value) (_ : Unit) (t : State) : Prop := va_P (dC, dI) vwCl [(h0, .inr (12, [a0, a1, a2, a3, .ref h4, a5, a6, a7, a8])), (h4, .inr (4, [b0, b1, b2, b3, .ref h5, b5, b6, b7, b8, b9, b10, b11, b12, b13])), (h5, .inl (cB, 4, .inl f1)), (ho, .inl (cO, 1, .inr (.inl fo)))] t.heap ∧ va_K (dC, dI) vwCl [(cO, .long), (cB, .int)] t ∧ va_D A [(h0, .inr (12, [a0, a1, a2, a3, .ref h4, a5, a6, a7, a8])), (h4, .inr (4, [b0, b1, b2, b3, .ref h5, b5, b6, b7, b8, b9, b10, b11, b12, b13])), (h5, .inl (cB, 4, .inl f1)), (ho, .inl (cO, 1, .inr (.inl fo)))]
theorem dL_close_S_0 : decode cL_close 0 = .ok (.aload_n 2, 1) := by decide +kernel
theorem dL_close_S_1 : decode cL_close 1 = .ok (.iconst 0, 1) := by decide +kernel
theorem dL_close_S_2 : decode cL_close 2 = .ok (.aload_n 0, 1) := by decide +kernel
theorem dL_close_S_3 : decode cL_close 3 = .ok (.iload_n 1, 1) := by decide +kernel
theorem dL_close_S_4 : decode cL_close 4 = .ok (.invokevirtual 33, 3) := by decide +kernel
theorem dL_close_S_22 : decode cL_close 22 = .ok (.astore_n 3, 1) := by decide +kernel
theorem dL_close_S_23 : decode cL_close 23 = .ok (.iconst 2, 1) := by decide +kernel
theorem dL_close_S_24 : decode cL_close 24 = .ok (.ireturn, 1) := by decide +kernel
def ww_L_close_S : List Cond := [.methodLink RL 33 yX12_close, .instanceMethod yX12_close, .selects RX12 yX12_close yX12_close, .initialized RX12, .classLink RL 27 "java/lang/IndexOutOfBoundsException", .classLink RL 21 "java/lang/IllegalStateException"]
def wv_L_close_S : List Cond := .codeWith yL_close cL_close 4 (some .int) [(0, 16, 19, 27), (0, 16, 22, 21)] :: (ww_L_close_S ++ (wv_X12_close_S ++ []))
theorem wm_L_close_S {w : Cond} (i : Nat) (h : ww_L_close_S[i]? = some w) : w ∈ wv_L_close_S := List.mem_cons_of_mem _ (List.mem_append_left _ (List.mem_of_getElem? h))
set_option maxRecDepth 100000 in
theorem gw_L_close_S : wv_L_close_S.all goodWord = true := by decide +kernel
theorem wg_L_close_S_X12_close_S : GoodIn wv_L_close_S wv_X12_close_S := goodIn_sub (fun w h => List.mem_cons_of_mem _ (List.mem_append_right _ (List.mem_append_left _ h))) gw_X12_close_S
theorem wV_L_close_S_X12_close_S_33 : GoodIn wv_L_close_S (wsV RL 33 RX12 yX12_close wv_X12_close_S) := goodIn_app (goodIn_sub (fun w h => by simp only [List.mem_cons, List.not_mem_nil, or_false] at h; rcases h with rfl | rfl | rfl | rfl <;> first | exact wm_L_close_S 0 rfl | exact wm_L_close_S 1 rfl | exact wm_L_close_S 2 rfl | exact wm_L_close_S 3 rfl) (by decide +kernel)) wg_L_close_S_X12_close_S
set_option maxHeartbeats 4000000 in
set_option maxRecDepth 100000 in
/-- the law's close on a fresh house -/
theorem r_L_close_S (l : Launch) (hl0 : l.stackTraces = false) (dC : Nat → ClassId) (dI : Nat → Nat → Nat) (h0 h4 h5 ho : Nat) (cB cO : ClassId) (f1 : Nat → Int32) (fo : Nat → Int64) (k1 : Int32) (a0 a1 a2 a3 a5 a6 a7 a8 b0 b1 b2 b3 b5 b6 b7 b8 b9 b10 b11 b12 b13 : Value) (sz : Nat) : Met l yL_close wv_L_close_S ({ frames := 7, cells := 1, slots := 6, locals := 103 }) (va_Pc [.ref h0, .int k1, .ref ho] (fun U => U.heap.size = sz ∧ va_P (dC, dI) vwCl [(h0, .inr (12, [a0, a1, a2, a3, .ref h4, a5, a6, a7, a8])), (h4, .inr (4, [b0, b1, b2, b3, .ref h5, b5, b6, b7, b8, b9, b10, b11, b12, b13])), (h5, .inl (cB, 4, .inl f1)), (ho, .inl (cO, 1, .inr (.inl fo)))] U.heap ∧ va_K (dC, dI) vwCl [(cB, .int), (cO, .long)] U ∧ va_D (fun _ => True) [(h0, .inr (12, [a0, a1, a2, a3, .ref h4, a5, a6, a7, a8])), (h4, .inr (4, [b0, b1, b2, b3, .ref h5, b5, b6, b7, b8, b9, b10, b11, b12, b13])), (h5, .inl (cB, 4, .inl f1)), (ho, .inl (cO, 1, .inr (.inl fo)))] ∧ xz_F U ∧ xz_Z (va_A [(h0, .inr (12, [a0, a1, a2, a3, .ref h4, a5, a6, a7, a8])), (h4, .inr (4, [b0, b1, b2, b3, .ref h5, b5, b6, b7, b8, b9, b10, b11, b12, b13])), (h5, .inl (cB, 4, .inl f1)), (ho, .inl (cO, 1, .inr (.inl fo)))] sz) U U.heap ∧ va_Nc "java/lang/IllegalStateException" "java/lang/IndexOutOfBoundsException" U ∧ (¬ k1 < 0 ∧ k1 < 4 ∧ vp_in k1 4 ∧ f1 k1.toNatClampNeg = (-1)))) (va_Qi (fun r (_ : Unit) => r = 2) (ar_L_close_S dC dI (va_A [(h0, .inr (12, [a0, a1, a2, a3, .ref h4, a5, a6, a7, a8])), (h4, .inr (4, [b0, b1, b2, b3, .ref h5, b5, b6, b7, b8, b9, b10, b11, b12, b13])), (h5, .inl (cB, 4, .inl f1)), (ho, .inl (cO, 1, .inr (.inl fo)))] sz) h0 h4 h5 ho cB cO f1 fo k1 a0 a1 a2 a3 a5 a6 a7 a8 b0 b1 b2 b3 b5 b6 b7 b8 b9 b10 b11 b12 b13) (va_A [(h0, .inr (12, [a0, a1, a2, a3, .ref h4, a5, a6, a7, a8])), (h4, .inr (4, [b0, b1, b2, b3, .ref h5, b5, b6, b7, b8, b9, b10, b11, b12, b13])), (h5, .inl (cB, 4, .inl f1)), (ho, .inl (cO, 1, .inr (.inl fo)))] sz)) 1 6 (va_A [(h0, .inr (12, [a0, a1, a2, a3, .ref h4, a5, a6, a7, a8])), (h4, .inr (4, [b0, b1, b2, b3, .ref h5, b5, b6, b7, b8, b9, b10, b11, b12, b13])), (h5, .inl (cB, 4, .inl f1)), (ho, .inl (cO, 1, .inr (.inl fo)))] sz) := by
  refine va_MetW (cc := cL_close) (maxL := 4) (ret := (some .int)) (hh := [(0, 16, 19, 27), (0, 16, 22, 21)]) (by decide) rfl ?_
  intro p e s m args below meth c s₁ B hml hv
  obtain ⟨rfl, hsz, hP, hK, hD0, hF9, hZ9, nC1, hpre⟩ := hv
  have hx := B.exec
  have hb := B.bytes
  have hr := B.returns
  have hts := atoms_spec (ws := wv_L_close_S) B.pre
  have hown : s.vm.findClass RL = some m.cls := findClass_of_methodNamed B.named
  have hlocks := B.notSynchronized
  subst hsz
  have hD := hD0.self (sz := s.heap.size)
  generalize hAe : va_A [(h0, .inr (12, [a0, a1, a2, a3, .ref h4, a5, a6, a7, a8])), (h4, .inr (4, [b0, b1, b2, b3, .ref h5, b5, b6, b7, b8, b9, b10, b11, b12, b13])), (h5, .inl (cB, 4, .inl f1)), (ho, .inl (cO, 1, .inr (.inl fo)))] s.heap.size = A at hD hZ9 ⊢
  have hA : ∀ q : Nat, s.heap.size ≤ q → A q := fun q h => by rw [← hAe]; exact Or.inr h
  have hS : va_S A s.heap s.heap [] := va_S.rf
  have hP : va_P (dC, dI) vwCl [(h0, .inr (12, [a0, a1, a2, a3, .ref h4, a5, a6, a7, a8])), (h4, .inr (4, [b0, b1, b2, b3, .ref h5, b5, b6, b7, b8, b9, b10, b11, b12, b13])), (h5, .inl (cB, 4, .inl f1)), (ho, .inl (cO, 1, .inr (.inl fo)))] s.heap := hP
  have hl := lv_entry ([.ref h0, .int k1, .ref ho]) (n := 4) (Nat.le_of_ble_eq_true rfl)
  rw [lg_entry_eq]
  generalize (lg_sl ([.ref h0, .int k1, .ref ho]) ++ List.replicate (4 - (lg_sl ([.ref h0, .int k1, .ref ho])).length) Slot.unset).toArray = ls at hl ⊢
  have hl : lv_has ls 4 [(0, .ref h0), (1, .int k1), (2, .ref ho)] := hl
  have htab : c.exceptionTable.toList = [⟨0, 16, 19, 27⟩, ⟨0, 16, 22, 21⟩] := vx_table (x := yL_close) B (hts _ List.mem_cons_self)
  refine lv_aload_n hx hb dL_close_S_0 rfl (lv_at hl 2 rfl) ?_
  refine lv_iconst (v := 0) hx hb dL_close_S_1 (by decide) ?_
  refine lv_aload_n hx hb dL_close_S_2 rfl (lv_at hl 0 rfl) ?_
  refine lv_iload_n hx hb dL_close_S_3 rfl (lv_at hl 1 rfl) ?_
  have hPc := hP.sub (ws' := [(h0, .inr (12, [a0, a1, a2, a3, .ref h4, a5, a6, a7, a8])), (h4, .inr (4, [b0, b1, b2, b3, .ref h5, b5, b6, b7, b8, b9, b10, b11, b12, b13])), (h5, .inl (cB, 4, .inl f1))]) [0, 1, 2] rfl
  have hDc := hD.sub (ws' := [(h0, .inr (12, [a0, a1, a2, a3, .ref h4, a5, a6, a7, a8])), (h4, .inr (4, [b0, b1, b2, b3, .ref h5, b5, b6, b7, b8, b9, b10, b11, b12, b13])), (h5, .inl (cB, 4, .inl f1))]) [0, 1, 2] (by decide) rfl
  have hKc := hK.sub (tys' := [(cB, .int)]) [0] rfl
  have hFc := va_free (wc := [(h0, .inr (12, [a0, a1, a2, a3, .ref h4, a5, a6, a7, a8])), (h4, .inr (4, [b0, b1, b2, b3, .ref h5, b5, b6, b7, b8, b9, b10, b11, b12, b13])), (h5, .inl (cB, 4, .inl f1))]) hD hS hA [0, 1, 2] rfl
  have h_1 : 1 ≤ 1 := by decide
  have h_2 : 6 ≤ 6 := by decide
  refine xz_callX (vx_runV (As := [.int k1]) (rest := [.int 0, .ref ho]) ⟨hx, hb, hml, hown, hts⟩ (x_X12_close_S l hl0 dC dI h0 h4 h5 k1 cB f1 a0 a1 a2 a3 a5 a6 a7 a8 b0 b1 b2 b3 b5 b6 b7 b8 b9 b10 b11 b12 b13 _) (cwV 1 hts wV_L_close_S_X12_close_S_33 rfl rfl rfl (by decide +kernel) ⟨Nat.le_of_ble_eq_true rfl, Nat.le_of_ble_eq_true rfl⟩) ⟨fun a U g mk q => by obtain ⟨q0, q1, qP, qK, qD, qf0, qf1, qp⟩ := q; exact ⟨q0, q1, qP, va_K.moved (u := U) (U := U.calling g mk a) (Vm.Alike.refl U.vm) qK, qD, xz_F.same rfl qf0, xz_Z.same (Vm.Alike.refl _) rfl qf1, qp⟩, va_recv hKc hPc (ci := 12) (q0 := 0) rfl rfl, fun U hU hW => ⟨rfl, by rw [hU], by rw [hU]; exact hPc, va_K.moved hW.alike hKc, hDc.weaken (fun _ _ _ _ => trivial), xz_F.warm hW hF9, (hZ9.to hS hFc hW.alike hU), hpre⟩⟩ rfl rfl hl.1 rfl (lv_room (Nat.le_of_ble_eq_true rfl)) dL_close_S_4 ⟨h_1, h_2⟩) (fun _ _ _ h9 => by obtain ⟨⟨_, h9⟩, _⟩ := h9; simp at h9) hS hFc (fun q _ h => hFc q h) (fun E ce x3 u t H1 locs ht hvm hw hB hz1 hk1 hS hce hcv hcl => ?_)
  obtain ⟨hE, hP1, hK1, hD1⟩ := hB
  subst hE
  rw [ht] at hP1
  have hK1 := va_K.moved hvm.symm hK1
  obtain ⟨hP, hD⟩ := va_join (wr := [(ho, .inl (cO, 1, .inr (.inl fo)))]) (w1 := [(h0, .inr (12, [a0, a1, a2, a3, .ref h4, a5, a6, a7, a8])), (h4, .inr (4, [b0, b1, b2, b3, .ref h5, b5, b6, b7, b8, b9, b10, b11, b12, b13])), (h5, .inl (cB, 4, .inl f1))]) hP hD [0, 1, 2] [3] rfl rfl (by decide) (by decide) hk1 hFc hP1 hD1
  have hK := (hK.sub (tys' := [(cO, .long)]) [1] rfl).app hK1
  generalize H1 = H at hP hS hce ⊢
  have hP : va_P (dC, dI) vwCl [(ho, .inl (cO, 1, .inr (.inl fo))), (h0, .inr (12, [a0, a1, a2, a3, .ref h4, a5, a6, a7, a8])), (h4, .inr (4, [b0, b1, b2, b3, .ref h5, b5, b6, b7, b8, b9, b10, b11, b12, b13])), (h5, .inl (cB, 4, .inl f1))] H := hP
  have hD : va_D A [(ho, .inl (cO, 1, .inr (.inl fo))), (h0, .inr (12, [a0, a1, a2, a3, .ref h4, a5, a6, a7, a8])), (h4, .inr (4, [b0, b1, b2, b3, .ref h5, b5, b6, b7, b8, b9, b10, b11, b12, b13])), (h5, .inl (cB, 4, .inl f1))] := hD
  have hK : va_K (dC, dI) vwCl [(cO, .long), (cB, .int)] s := hK
  refine vx_widen (k := 1) (n := 6) (by decide) (by decide) ?_
  refine vx_catch (own := RL) (name := "java/lang/IllegalStateException") (E := "java/lang/IllegalStateException") hown [⟨0, 16, 19, 27⟩] ⟨0, 16, 22, 21⟩ [] htab (fun z9 hz9 => by cases List.mem_singleton.mp hz9; exact Or.inr ⟨by decide, "java/lang/IndexOutOfBoundsException", (hts (.classLink RL 27 "java/lang/IndexOutOfBoundsException") (wm_L_close_S 4 rfl)), nC1⟩) (by decide) (by decide) (hts (.classLink RL 21 "java/lang/IllegalStateException") (wm_L_close_S 5 rfl)) (va_Nw.use rfl hF9.2.2.2.1) hce hcv hcl ?_
  refine lv_astore_n (lv' := [(3, .ref x3), (0, .ref h0), (1, .int k1), (2, .ref ho)]) hx hb dL_close_S_22 rfl hl (by decide) rfl (fun ls hl => ?_)
  refine lv_iconst (v := 2) hx hb dL_close_S_23 (by decide) ?_
  have hP9 := hP.sub (ws' := [(h0, .inr (12, [a0, a1, a2, a3, .ref h4, a5, a6, a7, a8])), (h4, .inr (4, [b0, b1, b2, b3, .ref h5, b5, b6, b7, b8, b9, b10, b11, b12, b13])), (h5, .inl (cB, 4, .inl f1)), (ho, .inl (cO, 1, .inr (.inl fo)))]) [1, 2, 3, 0] rfl
  have hD9 := hD.sub (ws' := [(h0, .inr (12, [a0, a1, a2, a3, .ref h4, a5, a6, a7, a8])), (h4, .inr (4, [b0, b1, b2, b3, .ref h5, b5, b6, b7, b8, b9, b10, b11, b12, b13])), (h5, .inl (cB, 4, .inl f1)), (ho, .inl (cO, 1, .inr (.inl fo)))]) [1, 2, 3, 0] (by decide) rfl
  have hK9 := hK.sub (tys' := [(cO, .long), (cB, .int)]) [0, 1] rfl
  refine W.widen (k := 1) (n := 6) (by decide) (by decide) ?_
  exact W.iret (v := 2) hx hb hr (fun t ht hW => ⟨⟨2, (), rfl, rfl, by rw [ht]; exact hP9, va_K.moved hW.alike hK9, hD9⟩, hS.F ht⟩) hS.2.2 dL_close_S_24

abbrev ar_L_give_X (dC : Nat → ClassId) (dI : Nat → Nat → Nat) (A : Nat → Prop) (h0 ho : Nat) (cO : ClassId) (fo : Nat → Int64) (k1 k2 : Int32) (g1 g2 g3 g4 : Int64) (a0 a1 a2 a3 a4 a5 a6 a7 a8 : Value) (_ : Unit) (t : State) : Prop := va_P (dC, dI) vwCl [(h0, .inr (12, [a0, a1, a2, a3, a4, a5, a6, a7, a8])), (ho, .inl (cO, 1, .inr (.inl fo)))] t.heap ∧ va_K (dC, dI) vwCl [(cO, .long)] t ∧ va_D A [(h0, .inr (12, [a0, a1, a2, a3, a4, a5, a6, a7, a8])), (ho, .inl (cO, 1, .inr (.inl fo)))]
theorem dL_give_X_0 : decode cL_give 0 = .ok (.aload 11, 2) := by decide +kernel
theorem dL_give_X_2 : decode cL_give 2 = .ok (.iconst 0, 1) := by decide +kernel
theorem dL_give_X_3 : decode cL_give 3 = .ok (.aload_n 0, 1) := by decide +kernel
theorem dL_give_X_4 : decode cL_give 4 = .ok (.iload_n 1, 1) := by decide +kernel
theorem dL_give_X_5 : decode cL_give 5 = .ok (.iload_n 2, 1) := by decide +kernel
theorem dL_give_X_6 : decode cL_give 6 = .ok (.lload_n 3, 1) := by decide +kernel
theorem dL_give_X_7 : decode cL_give 7 = .ok (.lload 5, 2) := by decide +kernel
theorem dL_give_X_9 : decode cL_give 9 = .ok (.lload 7, 2) := by decide +kernel
theorem dL_give_X_11 : decode cL_give 11 = .ok (.lload 9, 2) := by decide +kernel
theorem dL_give_X_13 : decode cL_give 13 = .ok (.invokevirtual 29, 3) := by decide +kernel
theorem dL_give_X_21 : decode cL_give 21 = .ok (.astore 12, 2) := by decide +kernel
theorem dL_give_X_23 : decode cL_give 23 = .ok (.iconst 1, 1) := by decide +kernel
theorem dL_give_X_24 : decode cL_give 24 = .ok (.ireturn, 1) := by decide +kernel
def ww_L_give_X : List Cond := [.methodLink RL 29 yX12_give, .instanceMethod yX12_give, .selects RX12 yX12_give yX12_give, .initialized RX12, .classLink RL 27 "java/lang/IndexOutOfBoundsException"]
def wv_L_give_X : List Cond := .codeWith yL_give cL_give 13 (some .int) [(0, 18, 21, 27), (0, 18, 25, 21), (0, 18, 29, 13), (0, 18, 33, 15)] :: (ww_L_give_X ++ (wv_X12_give_X ++ []))
theorem wm_L_give_X {w : Cond} (i : Nat) (h : ww_L_give_X[i]? = some w) : w ∈ wv_L_give_X := List.mem_cons_of_mem _ (List.mem_append_left _ (List.mem_of_getElem? h))
set_option maxRecDepth 100000 in
theorem gw_L_give_X : wv_L_give_X.all goodWord = true := by decide +kernel
theorem wg_L_give_X_X12_give_X : GoodIn wv_L_give_X wv_X12_give_X := goodIn_sub (fun w h => List.mem_cons_of_mem _ (List.mem_append_right _ (List.mem_append_left _ h))) gw_X12_give_X
theorem wV_L_give_X_X12_give_X_29 : GoodIn wv_L_give_X (wsV RL 29 RX12 yX12_give wv_X12_give_X) := goodIn_app (goodIn_sub (fun w h => by simp only [List.mem_cons, List.not_mem_nil, or_false] at h; rcases h with rfl | rfl | rfl | rfl <;> first | exact wm_L_give_X 0 rfl | exact wm_L_give_X 1 rfl | exact wm_L_give_X 2 rfl | exact wm_L_give_X 3 rfl) (by decide +kernel)) wg_L_give_X_X12_give_X
set_option maxHeartbeats 4000000 in
set_option maxRecDepth 100000 in
/-- the law's give on a fresh house -/
theorem r_L_give_X (l : Launch) (hl0 : l.stackTraces = false) (dC : Nat → ClassId) (dI : Nat → Nat → Nat) (h0 ho : Nat) (cO : ClassId) (fo : Nat → Int64) (k1 k2 : Int32) (g1 g2 g3 g4 : Int64) (a0 a1 a2 a3 a4 a5 a6 a7 a8 : Value) (sz : Nat) : Met l yL_give wv_L_give_X ({ frames := 7, cells := 1, slots := 6, locals := 114 }) (va_Pc [.ref h0, .int k1, .int k2, .long g1, .long g2, .long g3, .long g4, .ref ho] (fun U => U.heap.size = sz ∧ va_P (dC, dI) vwCl [(h0, .inr (12, [a0, a1, a2, a3, a4, a5, a6, a7, a8])), (ho, .inl (cO, 1, .inr (.inl fo)))] U.heap ∧ va_K (dC, dI) vwCl [(cO, .long)] U ∧ va_D (fun _ => True) [(h0, .inr (12, [a0, a1, a2, a3, a4, a5, a6, a7, a8])), (ho, .inl (cO, 1, .inr (.inl fo)))] ∧ xz_F U ∧ xz_Z (va_A [(h0, .inr (12, [a0, a1, a2, a3, a4, a5, a6, a7, a8])), (ho, .inl (cO, 1, .inr (.inl fo)))] sz) U U.heap ∧ (k1 < 0 ∨ 4 ≤ k1))) (va_Qi (fun r (_ : Unit) => r = 1) (ar_L_give_X dC dI (va_A [(h0, .inr (12, [a0, a1, a2, a3, a4, a5, a6, a7, a8])), (ho, .inl (cO, 1, .inr (.inl fo)))] sz) h0 ho cO fo k1 k2 g1 g2 g3 g4 a0 a1 a2 a3 a4 a5 a6 a7 a8) (va_A [(h0, .inr (12, [a0, a1, a2, a3, a4, a5, a6, a7, a8])), (ho, .inl (cO, 1, .inr (.inl fo)))] sz)) 1 6 (va_A [(h0, .inr (12, [a0, a1, a2, a3, a4, a5, a6, a7, a8])), (ho, .inl (cO, 1, .inr (.inl fo)))] sz) := by
  refine va_MetW (cc := cL_give) (maxL := 13) (ret := (some .int)) (hh := [(0, 18, 21, 27), (0, 18, 25, 21), (0, 18, 29, 13), (0, 18, 33, 15)]) (by decide) rfl ?_
  intro p e s m args below meth c s₁ B hml hv
  obtain ⟨rfl, hsz, hP, hK, hD0, hF9, hZ9, hpre⟩ := hv
  have hx := B.exec
  have hb := B.bytes
  have hr := B.returns
  have hts := atoms_spec (ws := wv_L_give_X) B.pre
  have hown : s.vm.findClass RL = some m.cls := findClass_of_methodNamed B.named
  have hlocks := B.notSynchronized
  subst hsz
  have hD := hD0.self (sz := s.heap.size)
  generalize hAe : va_A [(h0, .inr (12, [a0, a1, a2, a3, a4, a5, a6, a7, a8])), (ho, .inl (cO, 1, .inr (.inl fo)))] s.heap.size = A at hD hZ9 ⊢
  have hA : ∀ q : Nat, s.heap.size ≤ q → A q := fun q h => by rw [← hAe]; exact Or.inr h
  have hS : va_S A s.heap s.heap [] := va_S.rf
  have hP : va_P (dC, dI) vwCl [(h0, .inr (12, [a0, a1, a2, a3, a4, a5, a6, a7, a8])), (ho, .inl (cO, 1, .inr (.inl fo)))] s.heap := hP
  have hl := lv_entry ([.ref h0, .int k1, .int k2, .long g1, .long g2, .long g3, .long g4, .ref ho]) (n := 13) (Nat.le_of_ble_eq_true rfl)
  rw [lg_entry_eq]
  generalize (lg_sl ([.ref h0, .int k1, .int k2, .long g1, .long g2, .long g3, .long g4, .ref ho]) ++ List.replicate (13 - (lg_sl ([.ref h0, .int k1, .int k2, .long g1, .long g2, .long g3, .long g4, .ref ho])).length) Slot.unset).toArray = ls at hl ⊢
  have hl : lv_has ls 13 [(0, .ref h0), (1, .int k1), (2, .int k2), (3, .long g1), (5, .long g2), (7, .long g3), (9, .long g4), (11, .ref ho)] := hl
  have htab : c.exceptionTable.toList = [⟨0, 18, 21, 27⟩, ⟨0, 18, 25, 21⟩, ⟨0, 18, 29, 13⟩, ⟨0, 18, 33, 15⟩] := vx_table (x := yL_give) B (hts _ List.mem_cons_self)
  refine lv_aload hx hb dL_give_X_0 (lv_at hl 7 rfl) ?_
  refine lv_iconst (v := 0) hx hb dL_give_X_2 (by decide) ?_
  refine lv_aload_n hx hb dL_give_X_3 rfl (lv_at hl 0 rfl) ?_
  refine lv_iload_n hx hb dL_give_X_4 rfl (lv_at hl 1 rfl) ?_
  refine lv_iload_n hx hb dL_give_X_5 rfl (lv_at hl 2 rfl) ?_
  refine lv_lload_n hx hb dL_give_X_6 rfl (lv_at hl 3 rfl) ?_
  refine lv_lload hx hb dL_give_X_7 (lv_at hl 4 rfl) ?_
  refine lv_lload hx hb dL_give_X_9 (lv_at hl 5 rfl) ?_
  refine lv_lload hx hb dL_give_X_11 (lv_at hl 6 rfl) ?_
  have hPc := hP.sub (ws' := [(h0, .inr (12, [a0, a1, a2, a3, a4, a5, a6, a7, a8]))]) [0] rfl
  have hDc := hD.sub (ws' := [(h0, .inr (12, [a0, a1, a2, a3, a4, a5, a6, a7, a8]))]) [0] (by decide) rfl
  have hKc := hK.sub (tys' := []) [] rfl
  have hFc := va_free (wc := [(h0, .inr (12, [a0, a1, a2, a3, a4, a5, a6, a7, a8]))]) hD hS hA [0] rfl
  have h_1 : 1 ≤ 1 := by decide
  have h_2 : 6 ≤ 6 := by decide
  refine xz_callX (vx_runV (As := [.int k1, .int k2, .long g1, .long g2, .long g3, .long g4]) (rest := [.int 0, .ref ho]) ⟨hx, hb, hml, hown, hts⟩ (x_X12_give_X l hl0 dC dI h0 k1 k2 g1 g2 g3 g4 a0 a1 a2 a3 a4 a5 a6 a7 a8 _) (cwV 6 hts wV_L_give_X_X12_give_X_29 rfl rfl rfl (by decide +kernel) ⟨Nat.le_of_ble_eq_true rfl, Nat.le_of_ble_eq_true rfl⟩) ⟨fun a U g mk q => by obtain ⟨q0, q1, qP, qK, qD, qf0, qf1, qp⟩ := q; exact ⟨q0, q1, qP, va_K.moved (u := U) (U := U.calling g mk a) (Vm.Alike.refl U.vm) qK, qD, xz_F.same rfl qf0, xz_Z.same (Vm.Alike.refl _) rfl qf1, qp⟩, va_recv hKc hPc (ci := 12) (q0 := 0) rfl rfl, fun U hU hW => ⟨rfl, by rw [hU], by rw [hU]; exact hPc, va_K.moved hW.alike hKc, hDc.weaken (fun _ _ _ _ => trivial), xz_F.warm hW hF9, (hZ9.to hS hFc hW.alike hU), hpre⟩⟩ rfl rfl hl.1 rfl (lv_room (Nat.le_of_ble_eq_true rfl)) dL_give_X_13 ⟨h_1, h_2⟩) (fun _ _ _ h9 => by obtain ⟨⟨_, h9⟩, _⟩ := h9; simp at h9) hS hFc (fun q _ h => hFc q h) (fun E ce x3 u t H1 locs ht hvm hw hB hz1 hk1 hS hce hcv hcl => ?_)
  obtain ⟨hE, hP1, hK1, hD1⟩ := hB
  subst hE
  rw [ht] at hP1
  have hK1 := va_K.moved hvm.symm hK1
  obtain ⟨hP, hD⟩ := va_join (wr := [(ho, .inl (cO, 1, .inr (.inl fo)))]) (w1 := [(h0, .inr (12, [a0, a1, a2, a3, a4, a5, a6, a7, a8]))]) hP hD [0] [1] rfl rfl (by decide) (by decide) hk1 hFc hP1 hD1
  have hK := (hK.sub (tys' := [(cO, .long)]) [0] rfl).app hK1
  generalize H1 = H at hP hS hce ⊢
  have hP : va_P (dC, dI) vwCl [(ho, .inl (cO, 1, .inr (.inl fo))), (h0, .inr (12, [a0, a1, a2, a3, a4, a5, a6, a7, a8]))] H := hP
  have hD : va_D A [(ho, .inl (cO, 1, .inr (.inl fo))), (h0, .inr (12, [a0, a1, a2, a3, a4, a5, a6, a7, a8]))] := hD
  have hK : va_K (dC, dI) vwCl [(cO, .long)] s := hK
  refine vx_widen (k := 1) (n := 6) (by decide) (by decide) ?_
  refine vx_catch (own := RL) (name := "java/lang/IndexOutOfBoundsException") (E := "java/lang/IndexOutOfBoundsException") hown [] ⟨0, 18, 21, 27⟩ [⟨0, 18, 25, 21⟩, ⟨0, 18, 29, 13⟩, ⟨0, 18, 33, 15⟩] htab (fun z9 hz9 => nomatch hz9) (by decide) (by decide) (hts (.classLink RL 27 "java/lang/IndexOutOfBoundsException") (wm_L_give_X 4 rfl)) (va_Nw.use rfl hF9.2.2.2.2.2.1) hce hcv hcl ?_
  refine lv_astore (lv' := [(12, .ref x3), (0, .ref h0), (1, .int k1), (2, .int k2), (3, .long g1), (5, .long g2), (7, .long g3), (9, .long g4), (11, .ref ho)]) hx hb dL_give_X_21 hl (by decide) rfl (fun ls hl => ?_)
  refine lv_iconst (v := 1) hx hb dL_give_X_23 (by decide) ?_
  have hP9 := hP.sub (ws' := [(h0, .inr (12, [a0, a1, a2, a3, a4, a5, a6, a7, a8])), (ho, .inl (cO, 1, .inr (.inl fo)))]) [1, 0] rfl
  have hD9 := hD.sub (ws' := [(h0, .inr (12, [a0, a1, a2, a3, a4, a5, a6, a7, a8])), (ho, .inl (cO, 1, .inr (.inl fo)))]) [1, 0] (by decide) rfl
  have hK9 := hK.sub (tys' := [(cO, .long)]) [0] rfl
  refine W.widen (k := 1) (n := 6) (by decide) (by decide) ?_
  exact W.iret (v := 1) hx hb hr (fun t ht hW => ⟨⟨1, (), rfl, rfl, by rw [ht]; exact hP9, va_K.moved hW.alike hK9, hD9⟩, hS.F ht⟩) hS.2.2 dL_give_X_24

abbrev ar_L_give_S (dC : Nat → ClassId) (dI : Nat → Nat → Nat) (A : Nat → Prop) (h0 h4 h5 ho : Nat) (cB cO : ClassId) (f1 : Nat → Int32) (fo : Nat → Int64) (k1 k2 : Int32) (g1 g2 g3 g4 : Int64) (a0 a1 a2 a3 a5 a6 a7 a8 b0 b1 b2 b3 b5 b6 b7 b8 b9 b10 b11 b12 b13 : Value) (_ : Unit) (t : State) : Prop := va_P (dC, dI) vwCl [(h0, .inr (12, [a0, a1, a2, a3, .ref h4, a5, a6, a7, a8])), (h4, .inr (4, [b0, b1, b2, b3, .ref h5, b5, b6, b7, b8, b9, b10, b11, b12, b13])), (h5, .inl (cB, 4, .inl f1)), (ho, .inl (cO, 1, .inr (.inl fo)))] t.heap ∧ va_K (dC, dI) vwCl [(cO, .long), (cB, .int)] t ∧ va_D A [(h0, .inr (12, [a0, a1, a2, a3, .ref h4, a5, a6, a7, a8])), (h4, .inr (4, [b0, b1, b2, b3, .ref h5, b5, b6, b7, b8, b9, b10, b11, b12, b13])), (h5, .inl (cB, 4, .inl f1)), (ho, .inl (cO, 1, .inr (.inl fo)))]
theorem dL_give_S_0 : decode cL_give 0 = .ok (.aload 11, 2) := by decide +kernel
theorem dL_give_S_2 : decode cL_give 2 = .ok (.iconst 0, 1) := by decide +kernel
theorem dL_give_S_3 : decode cL_give 3 = .ok (.aload_n 0, 1) := by decide +kernel
theorem dL_give_S_4 : decode cL_give 4 = .ok (.iload_n 1, 1) := by decide +kernel
theorem dL_give_S_5 : decode cL_give 5 = .ok (.iload_n 2, 1) := by decide +kernel
theorem dL_give_S_6 : decode cL_give 6 = .ok (.lload_n 3, 1) := by decide +kernel
theorem dL_give_S_7 : decode cL_give 7 = .ok (.lload 5, 2) := by decide +kernel
theorem dL_give_S_9 : decode cL_give 9 = .ok (.lload 7, 2) := by decide +kernel
theorem dL_give_S_11 : decode cL_give 11 = .ok (.lload 9, 2) := by decide +kernel
theorem dL_give_S_13 : decode cL_give 13 = .ok (.invokevirtual 29, 3) := by decide +kernel
theorem dL_give_S_25 : decode cL_give 25 = .ok (.astore 12, 2) := by decide +kernel
theorem dL_give_S_27 : decode cL_give 27 = .ok (.iconst 2, 1) := by decide +kernel
theorem dL_give_S_28 : decode cL_give 28 = .ok (.ireturn, 1) := by decide +kernel
def ww_L_give_S : List Cond := [.methodLink RL 29 yX12_give, .instanceMethod yX12_give, .selects RX12 yX12_give yX12_give, .initialized RX12, .classLink RL 27 "java/lang/IndexOutOfBoundsException", .classLink RL 21 "java/lang/IllegalStateException"]
def wv_L_give_S : List Cond := .codeWith yL_give cL_give 13 (some .int) [(0, 18, 21, 27), (0, 18, 25, 21), (0, 18, 29, 13), (0, 18, 33, 15)] :: (ww_L_give_S ++ (wv_X12_give_S ++ []))
theorem wm_L_give_S {w : Cond} (i : Nat) (h : ww_L_give_S[i]? = some w) : w ∈ wv_L_give_S := List.mem_cons_of_mem _ (List.mem_append_left _ (List.mem_of_getElem? h))
set_option maxRecDepth 100000 in
theorem gw_L_give_S : wv_L_give_S.all goodWord = true := by decide +kernel
theorem wg_L_give_S_X12_give_S : GoodIn wv_L_give_S wv_X12_give_S := goodIn_sub (fun w h => List.mem_cons_of_mem _ (List.mem_append_right _ (List.mem_append_left _ h))) gw_X12_give_S
theorem wV_L_give_S_X12_give_S_29 : GoodIn wv_L_give_S (wsV RL 29 RX12 yX12_give wv_X12_give_S) := goodIn_app (goodIn_sub (fun w h => by simp only [List.mem_cons, List.not_mem_nil, or_false] at h; rcases h with rfl | rfl | rfl | rfl <;> first | exact wm_L_give_S 0 rfl | exact wm_L_give_S 1 rfl | exact wm_L_give_S 2 rfl | exact wm_L_give_S 3 rfl) (by decide +kernel)) wg_L_give_S_X12_give_S
set_option maxHeartbeats 4000000 in
set_option maxRecDepth 100000 in
/-- the law's give on a fresh house -/
theorem r_L_give_S (l : Launch) (hl0 : l.stackTraces = false) (dC : Nat → ClassId) (dI : Nat → Nat → Nat) (h0 h4 h5 ho : Nat) (cB cO : ClassId) (f1 : Nat → Int32) (fo : Nat → Int64) (k1 k2 : Int32) (g1 g2 g3 g4 : Int64) (a0 a1 a2 a3 a5 a6 a7 a8 b0 b1 b2 b3 b5 b6 b7 b8 b9 b10 b11 b12 b13 : Value) (sz : Nat) : Met l yL_give wv_L_give_S ({ frames := 7, cells := 1, slots := 6, locals := 114 }) (va_Pc [.ref h0, .int k1, .int k2, .long g1, .long g2, .long g3, .long g4, .ref ho] (fun U => U.heap.size = sz ∧ va_P (dC, dI) vwCl [(h0, .inr (12, [a0, a1, a2, a3, .ref h4, a5, a6, a7, a8])), (h4, .inr (4, [b0, b1, b2, b3, .ref h5, b5, b6, b7, b8, b9, b10, b11, b12, b13])), (h5, .inl (cB, 4, .inl f1)), (ho, .inl (cO, 1, .inr (.inl fo)))] U.heap ∧ va_K (dC, dI) vwCl [(cB, .int), (cO, .long)] U ∧ va_D (fun _ => True) [(h0, .inr (12, [a0, a1, a2, a3, .ref h4, a5, a6, a7, a8])), (h4, .inr (4, [b0, b1, b2, b3, .ref h5, b5, b6, b7, b8, b9, b10, b11, b12, b13])), (h5, .inl (cB, 4, .inl f1)), (ho, .inl (cO, 1, .inr (.inl fo)))] ∧ xz_F U ∧ xz_Z (va_A [(h0, .inr (12, [a0, a1, a2, a3, .ref h4, a5, a6, a7, a8])), (h4, .inr (4, [b0, b1, b2, b3, .ref h5, b5, b6, b7, b8, b9, b10, b11, b12, b13])), (h5, .inl (cB, 4, .inl f1)), (ho, .inl (cO, 1, .inr (.inl fo)))] sz) U U.heap ∧ va_Nc "java/lang/IllegalStateException" "java/lang/IndexOutOfBoundsException" U ∧ (¬ k1 < 0 ∧ k1 < 4 ∧ vp_in k1 4 ∧ f1 k1.toNatClampNeg = (-1)))) (va_Qi (fun r (_ : Unit) => r = 2) (ar_L_give_S dC dI (va_A [(h0, .inr (12, [a0, a1, a2, a3, .ref h4, a5, a6, a7, a8])), (h4, .inr (4, [b0, b1, b2, b3, .ref h5, b5, b6, b7, b8, b9, b10, b11, b12, b13])), (h5, .inl (cB, 4, .inl f1)), (ho, .inl (cO, 1, .inr (.inl fo)))] sz) h0 h4 h5 ho cB cO f1 fo k1 k2 g1 g2 g3 g4 a0 a1 a2 a3 a5 a6 a7 a8 b0 b1 b2 b3 b5 b6 b7 b8 b9 b10 b11 b12 b13) (va_A [(h0, .inr (12, [a0, a1, a2, a3, .ref h4, a5, a6, a7, a8])), (h4, .inr (4, [b0, b1, b2, b3, .ref h5, b5, b6, b7, b8, b9, b10, b11, b12, b13])), (h5, .inl (cB, 4, .inl f1)), (ho, .inl (cO, 1, .inr (.inl fo)))] sz)) 1 6 (va_A [(h0, .inr (12, [a0, a1, a2, a3, .ref h4, a5, a6, a7, a8])), (h4, .inr (4, [b0, b1, b2, b3, .ref h5, b5, b6, b7, b8, b9, b10, b11, b12, b13])), (h5, .inl (cB, 4, .inl f1)), (ho, .inl (cO, 1, .inr (.inl fo)))] sz) := by
  refine va_MetW (cc := cL_give) (maxL := 13) (ret := (some .int)) (hh := [(0, 18, 21, 27), (0, 18, 25, 21), (0, 18, 29, 13), (0, 18, 33, 15)]) (by decide) rfl ?_
  intro p e s m args below meth c s₁ B hml hv
  obtain ⟨rfl, hsz, hP, hK, hD0, hF9, hZ9, nC1, hpre⟩ := hv
  have hx := B.exec
  have hb := B.bytes
  have hr := B.returns
  have hts := atoms_spec (ws := wv_L_give_S) B.pre
  have hown : s.vm.findClass RL = some m.cls := findClass_of_methodNamed B.named
  have hlocks := B.notSynchronized
  subst hsz
  have hD := hD0.self (sz := s.heap.size)
  generalize hAe : va_A [(h0, .inr (12, [a0, a1, a2, a3, .ref h4, a5, a6, a7, a8])), (h4, .inr (4, [b0, b1, b2, b3, .ref h5, b5, b6, b7, b8, b9, b10, b11, b12, b13])), (h5, .inl (cB, 4, .inl f1)), (ho, .inl (cO, 1, .inr (.inl fo)))] s.heap.size = A at hD hZ9 ⊢
  have hA : ∀ q : Nat, s.heap.size ≤ q → A q := fun q h => by rw [← hAe]; exact Or.inr h
  have hS : va_S A s.heap s.heap [] := va_S.rf
  have hP : va_P (dC, dI) vwCl [(h0, .inr (12, [a0, a1, a2, a3, .ref h4, a5, a6, a7, a8])), (h4, .inr (4, [b0, b1, b2, b3, .ref h5, b5, b6, b7, b8, b9, b10, b11, b12, b13])), (h5, .inl (cB, 4, .inl f1)), (ho, .inl (cO, 1, .inr (.inl fo)))] s.heap := hP
  have hl := lv_entry ([.ref h0, .int k1, .int k2, .long g1, .long g2, .long g3, .long g4, .ref ho]) (n := 13) (Nat.le_of_ble_eq_true rfl)
  rw [lg_entry_eq]
  generalize (lg_sl ([.ref h0, .int k1, .int k2, .long g1, .long g2, .long g3, .long g4, .ref ho]) ++ List.replicate (13 - (lg_sl ([.ref h0, .int k1, .int k2, .long g1, .long g2, .long g3, .long g4, .ref ho])).length) Slot.unset).toArray = ls at hl ⊢
  have hl : lv_has ls 13 [(0, .ref h0), (1, .int k1), (2, .int k2), (3, .long g1), (5, .long g2), (7, .long g3), (9, .long g4), (11, .ref ho)] := hl
  have htab : c.exceptionTable.toList = [⟨0, 18, 21, 27⟩, ⟨0, 18, 25, 21⟩, ⟨0, 18, 29, 13⟩, ⟨0, 18, 33, 15⟩] := vx_table (x := yL_give) B (hts _ List.mem_cons_self)
  refine lv_aload hx hb dL_give_S_0 (lv_at hl 7 rfl) ?_
  refine lv_iconst (v := 0) hx hb dL_give_S_2 (by decide) ?_
  refine lv_aload_n hx hb dL_give_S_3 rfl (lv_at hl 0 rfl) ?_
  refine lv_iload_n hx hb dL_give_S_4 rfl (lv_at hl 1 rfl) ?_
  refine lv_iload_n hx hb dL_give_S_5 rfl (lv_at hl 2 rfl) ?_
  refine lv_lload_n hx hb dL_give_S_6 rfl (lv_at hl 3 rfl) ?_
  refine lv_lload hx hb dL_give_S_7 (lv_at hl 4 rfl) ?_
  refine lv_lload hx hb dL_give_S_9 (lv_at hl 5 rfl) ?_
  refine lv_lload hx hb dL_give_S_11 (lv_at hl 6 rfl) ?_
  have hPc := hP.sub (ws' := [(h0, .inr (12, [a0, a1, a2, a3, .ref h4, a5, a6, a7, a8])), (h4, .inr (4, [b0, b1, b2, b3, .ref h5, b5, b6, b7, b8, b9, b10, b11, b12, b13])), (h5, .inl (cB, 4, .inl f1))]) [0, 1, 2] rfl
  have hDc := hD.sub (ws' := [(h0, .inr (12, [a0, a1, a2, a3, .ref h4, a5, a6, a7, a8])), (h4, .inr (4, [b0, b1, b2, b3, .ref h5, b5, b6, b7, b8, b9, b10, b11, b12, b13])), (h5, .inl (cB, 4, .inl f1))]) [0, 1, 2] (by decide) rfl
  have hKc := hK.sub (tys' := [(cB, .int)]) [0] rfl
  have hFc := va_free (wc := [(h0, .inr (12, [a0, a1, a2, a3, .ref h4, a5, a6, a7, a8])), (h4, .inr (4, [b0, b1, b2, b3, .ref h5, b5, b6, b7, b8, b9, b10, b11, b12, b13])), (h5, .inl (cB, 4, .inl f1))]) hD hS hA [0, 1, 2] rfl
  have h_1 : 1 ≤ 1 := by decide
  have h_2 : 6 ≤ 6 := by decide
  refine xz_callX (vx_runV (As := [.int k1, .int k2, .long g1, .long g2, .long g3, .long g4]) (rest := [.int 0, .ref ho]) ⟨hx, hb, hml, hown, hts⟩ (x_X12_give_S l hl0 dC dI h0 h4 h5 k1 k2 g1 g2 g3 g4 cB f1 a0 a1 a2 a3 a5 a6 a7 a8 b0 b1 b2 b3 b5 b6 b7 b8 b9 b10 b11 b12 b13 _) (cwV 6 hts wV_L_give_S_X12_give_S_29 rfl rfl rfl (by decide +kernel) ⟨Nat.le_of_ble_eq_true rfl, Nat.le_of_ble_eq_true rfl⟩) ⟨fun a U g mk q => by obtain ⟨q0, q1, qP, qK, qD, qf0, qf1, qp⟩ := q; exact ⟨q0, q1, qP, va_K.moved (u := U) (U := U.calling g mk a) (Vm.Alike.refl U.vm) qK, qD, xz_F.same rfl qf0, xz_Z.same (Vm.Alike.refl _) rfl qf1, qp⟩, va_recv hKc hPc (ci := 12) (q0 := 0) rfl rfl, fun U hU hW => ⟨rfl, by rw [hU], by rw [hU]; exact hPc, va_K.moved hW.alike hKc, hDc.weaken (fun _ _ _ _ => trivial), xz_F.warm hW hF9, (hZ9.to hS hFc hW.alike hU), hpre⟩⟩ rfl rfl hl.1 rfl (lv_room (Nat.le_of_ble_eq_true rfl)) dL_give_S_13 ⟨h_1, h_2⟩) (fun _ _ _ h9 => by obtain ⟨⟨_, h9⟩, _⟩ := h9; simp at h9) hS hFc (fun q _ h => hFc q h) (fun E ce x3 u t H1 locs ht hvm hw hB hz1 hk1 hS hce hcv hcl => ?_)
  obtain ⟨hE, hP1, hK1, hD1⟩ := hB
  subst hE
  rw [ht] at hP1
  have hK1 := va_K.moved hvm.symm hK1
  obtain ⟨hP, hD⟩ := va_join (wr := [(ho, .inl (cO, 1, .inr (.inl fo)))]) (w1 := [(h0, .inr (12, [a0, a1, a2, a3, .ref h4, a5, a6, a7, a8])), (h4, .inr (4, [b0, b1, b2, b3, .ref h5, b5, b6, b7, b8, b9, b10, b11, b12, b13])), (h5, .inl (cB, 4, .inl f1))]) hP hD [0, 1, 2] [3] rfl rfl (by decide) (by decide) hk1 hFc hP1 hD1
  have hK := (hK.sub (tys' := [(cO, .long)]) [1] rfl).app hK1
  generalize H1 = H at hP hS hce ⊢
  have hP : va_P (dC, dI) vwCl [(ho, .inl (cO, 1, .inr (.inl fo))), (h0, .inr (12, [a0, a1, a2, a3, .ref h4, a5, a6, a7, a8])), (h4, .inr (4, [b0, b1, b2, b3, .ref h5, b5, b6, b7, b8, b9, b10, b11, b12, b13])), (h5, .inl (cB, 4, .inl f1))] H := hP
  have hD : va_D A [(ho, .inl (cO, 1, .inr (.inl fo))), (h0, .inr (12, [a0, a1, a2, a3, .ref h4, a5, a6, a7, a8])), (h4, .inr (4, [b0, b1, b2, b3, .ref h5, b5, b6, b7, b8, b9, b10, b11, b12, b13])), (h5, .inl (cB, 4, .inl f1))] := hD
  have hK : va_K (dC, dI) vwCl [(cO, .long), (cB, .int)] s := hK
  refine vx_widen (k := 1) (n := 6) (by decide) (by decide) ?_
  refine vx_catch (own := RL) (name := "java/lang/IllegalStateException") (E := "java/lang/IllegalStateException") hown [⟨0, 18, 21, 27⟩] ⟨0, 18, 25, 21⟩ [⟨0, 18, 29, 13⟩, ⟨0, 18, 33, 15⟩] htab (fun z9 hz9 => by cases List.mem_singleton.mp hz9; exact Or.inr ⟨by decide, "java/lang/IndexOutOfBoundsException", (hts (.classLink RL 27 "java/lang/IndexOutOfBoundsException") (wm_L_give_S 4 rfl)), nC1⟩) (by decide) (by decide) (hts (.classLink RL 21 "java/lang/IllegalStateException") (wm_L_give_S 5 rfl)) (va_Nw.use rfl hF9.2.2.2.1) hce hcv hcl ?_
  refine lv_astore (lv' := [(12, .ref x3), (0, .ref h0), (1, .int k1), (2, .int k2), (3, .long g1), (5, .long g2), (7, .long g3), (9, .long g4), (11, .ref ho)]) hx hb dL_give_S_25 hl (by decide) rfl (fun ls hl => ?_)
  refine lv_iconst (v := 2) hx hb dL_give_S_27 (by decide) ?_
  have hP9 := hP.sub (ws' := [(h0, .inr (12, [a0, a1, a2, a3, .ref h4, a5, a6, a7, a8])), (h4, .inr (4, [b0, b1, b2, b3, .ref h5, b5, b6, b7, b8, b9, b10, b11, b12, b13])), (h5, .inl (cB, 4, .inl f1)), (ho, .inl (cO, 1, .inr (.inl fo)))]) [1, 2, 3, 0] rfl
  have hD9 := hD.sub (ws' := [(h0, .inr (12, [a0, a1, a2, a3, .ref h4, a5, a6, a7, a8])), (h4, .inr (4, [b0, b1, b2, b3, .ref h5, b5, b6, b7, b8, b9, b10, b11, b12, b13])), (h5, .inl (cB, 4, .inl f1)), (ho, .inl (cO, 1, .inr (.inl fo)))]) [1, 2, 3, 0] (by decide) rfl
  have hK9 := hK.sub (tys' := [(cO, .long), (cB, .int)]) [0, 1] rfl
  refine W.widen (k := 1) (n := 6) (by decide) (by decide) ?_
  exact W.iret (v := 2) hx hb hr (fun t ht hW => ⟨⟨2, (), rfl, rfl, by rw [ht]; exact hP9, va_K.moved hW.alike hK9, hD9⟩, hS.F ht⟩) hS.2.2 dL_give_S_28

abbrev ar_L_crash_A (dC : Nat → ClassId) (dI : Nat → Nat → Nat) (A : Nat → Prop) (h0 h7 h8 : Nat) (k1 : Int32) (a0 a1 a2 a3 a4 a5 a6 a8 b0 b1 b3 b4 b5 b6 b7 b8 b9 b10 b11 b12 b13 b14 b15 b16 b17 b18 b19 d0 d1 d2 d3 d4 d5 d6 d7 d8 : Value) (_ : Unit) (t : State) : Prop := va_P (dC, dI) vwCl [(h0, .inr (12, [a0, a1, a2, a3, a4, a5, a6, .ref h7, a8])), (h7, .inr (9, [b0, b1, .ref h8, b3, b4, b5, b6, b7, b8, b9, b10, b11, b12, b13, b14, b15, b16, b17, b18, b19])), (h8, .inr (3, [d0, d1, d2, d3, d4, d5, d6, d7, d8, .int 0]))] t.heap ∧ va_K (dC, dI) vwCl [] t ∧ va_D A [(h0, .inr (12, [a0, a1, a2, a3, a4, a5, a6, .ref h7, a8])), (h7, .inr (9, [b0, b1, .ref h8, b3, b4, b5, b6, b7, b8, b9, b10, b11, b12, b13, b14, b15, b16, b17, b18, b19])), (h8, .inr (3, [d0, d1, d2, d3, d4, d5, d6, d7, d8, .int 0]))]
theorem dL_crash_A_0 : decode cL_crash 0 = .ok (.aload_n 0, 1) := by decide +kernel
theorem dL_crash_A_1 : decode cL_crash 1 = .ok (.iload_n 1, 1) := by decide +kernel
theorem dL_crash_A_2 : decode cL_crash 2 = .ok (.invokevirtual 54, 3) := by decide +kernel
theorem dL_crash_A_11 : decode cL_crash 11 = .ok (.astore_n 2, 1) := by decide +kernel
theorem dL_crash_A_12 : decode cL_crash 12 = .ok (.iconst 2, 1) := by decide +kernel
theorem dL_crash_A_13 : decode cL_crash 13 = .ok (.ireturn, 1) := by decide +kernel
def ww_L_crash_A : List Cond := [.methodLink RL 54 yX12_crash, .instanceMethod yX12_crash, .selects RX12 yX12_crash yX12_crash, .initialized RX12, .classLink RL 21 "java/lang/IllegalStateException", .classLink RL 13 "java/lang/IllegalArgumentException"]
def wv_L_crash_A : List Cond := .codeWith yL_crash cL_crash 3 (some .int) [(0, 5, 8, 21), (0, 5, 11, 13)] :: (ww_L_crash_A ++ (wv_X12_crash_A ++ []))
theorem wm_L_crash_A {w : Cond} (i : Nat) (h : ww_L_crash_A[i]? = some w) : w ∈ wv_L_crash_A := List.mem_cons_of_mem _ (List.mem_append_left _ (List.mem_of_getElem? h))
set_option maxRecDepth 100000 in
theorem gw_L_crash_A : wv_L_crash_A.all goodWord = true := by decide +kernel
theorem wg_L_crash_A_X12_crash_A : GoodIn wv_L_crash_A wv_X12_crash_A := goodIn_sub (fun w h => List.mem_cons_of_mem _ (List.mem_append_right _ (List.mem_append_left _ h))) gw_X12_crash_A
theorem wV_L_crash_A_X12_crash_A_54 : GoodIn wv_L_crash_A (wsV RL 54 RX12 yX12_crash wv_X12_crash_A) := goodIn_app (goodIn_sub (fun w h => by simp only [List.mem_cons, List.not_mem_nil, or_false] at h; rcases h with rfl | rfl | rfl | rfl <;> first | exact wm_L_crash_A 0 rfl | exact wm_L_crash_A 1 rfl | exact wm_L_crash_A 2 rfl | exact wm_L_crash_A 3 rfl) (by decide +kernel)) wg_L_crash_A_X12_crash_A
set_option maxHeartbeats 4000000 in
set_option maxRecDepth 100000 in
/-- the law's crash on a fresh house -/
theorem r_L_crash_A (l : Launch) (hl0 : l.stackTraces = false) (dC : Nat → ClassId) (dI : Nat → Nat → Nat) (h0 h7 h8 : Nat) (k1 : Int32) (a0 a1 a2 a3 a4 a5 a6 a8 b0 b1 b3 b4 b5 b6 b7 b8 b9 b10 b11 b12 b13 b14 b15 b16 b17 b18 b19 d0 d1 d2 d3 d4 d5 d6 d7 d8 : Value) (sz : Nat) : Met l yL_crash wv_L_crash_A ({ frames := 7, cells := 1, slots := 6, locals := 102 }) (va_Pc [.ref h0, .int k1] (fun U => U.heap.size = sz ∧ va_P (dC, dI) vwCl [(h0, .inr (12, [a0, a1, a2, a3, a4, a5, a6, .ref h7, a8])), (h7, .inr (9, [b0, b1, .ref h8, b3, b4, b5, b6, b7, b8, b9, b10, b11, b12, b13, b14, b15, b16, b17, b18, b19])), (h8, .inr (3, [d0, d1, d2, d3, d4, d5, d6, d7, d8, .int 0]))] U.heap ∧ va_K (dC, dI) vwCl [] U ∧ va_D (fun _ => True) [(h0, .inr (12, [a0, a1, a2, a3, a4, a5, a6, .ref h7, a8])), (h7, .inr (9, [b0, b1, .ref h8, b3, b4, b5, b6, b7, b8, b9, b10, b11, b12, b13, b14, b15, b16, b17, b18, b19])), (h8, .inr (3, [d0, d1, d2, d3, d4, d5, d6, d7, d8, .int 0]))] ∧ xz_F U ∧ xz_Z (va_A [(h0, .inr (12, [a0, a1, a2, a3, a4, a5, a6, .ref h7, a8])), (h7, .inr (9, [b0, b1, .ref h8, b3, b4, b5, b6, b7, b8, b9, b10, b11, b12, b13, b14, b15, b16, b17, b18, b19])), (h8, .inr (3, [d0, d1, d2, d3, d4, d5, d6, d7, d8, .int 0]))] sz) U U.heap ∧ va_Nc "java/lang/IllegalArgumentException" "java/lang/IllegalStateException" U ∧ k1 < (-1))) (va_Qi (fun r (_ : Unit) => r = 2) (ar_L_crash_A dC dI (va_A [(h0, .inr (12, [a0, a1, a2, a3, a4, a5, a6, .ref h7, a8])), (h7, .inr (9, [b0, b1, .ref h8, b3, b4, b5, b6, b7, b8, b9, b10, b11, b12, b13, b14, b15, b16, b17, b18, b19])), (h8, .inr (3, [d0, d1, d2, d3, d4, d5, d6, d7, d8, .int 0]))] sz) h0 h7 h8 k1 a0 a1 a2 a3 a4 a5 a6 a8 b0 b1 b3 b4 b5 b6 b7 b8 b9 b10 b11 b12 b13 b14 b15 b16 b17 b18 b19 d0 d1 d2 d3 d4 d5 d6 d7 d8) (va_A [(h0, .inr (12, [a0, a1, a2, a3, a4, a5, a6, .ref h7, a8])), (h7, .inr (9, [b0, b1, .ref h8, b3, b4, b5, b6, b7, b8, b9, b10, b11, b12, b13, b14, b15, b16, b17, b18, b19])), (h8, .inr (3, [d0, d1, d2, d3, d4, d5, d6, d7, d8, .int 0]))] sz)) 1 6 (va_A [(h0, .inr (12, [a0, a1, a2, a3, a4, a5, a6, .ref h7, a8])), (h7, .inr (9, [b0, b1, .ref h8, b3, b4, b5, b6, b7, b8, b9, b10, b11, b12, b13, b14, b15, b16, b17, b18, b19])), (h8, .inr (3, [d0, d1, d2, d3, d4, d5, d6, d7, d8, .int 0]))] sz) := by
  refine va_MetW (cc := cL_crash) (maxL := 3) (ret := (some .int)) (hh := [(0, 5, 8, 21), (0, 5, 11, 13)]) (by decide) rfl ?_
  intro p e s m args below meth c s₁ B hml hv
  obtain ⟨rfl, hsz, hP, hK, hD0, hF9, hZ9, nC2, hpre⟩ := hv
  have hx := B.exec
  have hb := B.bytes
  have hr := B.returns
  have hts := atoms_spec (ws := wv_L_crash_A) B.pre
  have hown : s.vm.findClass RL = some m.cls := findClass_of_methodNamed B.named
  have hlocks := B.notSynchronized
  subst hsz
  have hD := hD0.self (sz := s.heap.size)
  generalize hAe : va_A [(h0, .inr (12, [a0, a1, a2, a3, a4, a5, a6, .ref h7, a8])), (h7, .inr (9, [b0, b1, .ref h8, b3, b4, b5, b6, b7, b8, b9, b10, b11, b12, b13, b14, b15, b16, b17, b18, b19])), (h8, .inr (3, [d0, d1, d2, d3, d4, d5, d6, d7, d8, .int 0]))] s.heap.size = A at hD hZ9 ⊢
  have hA : ∀ q : Nat, s.heap.size ≤ q → A q := fun q h => by rw [← hAe]; exact Or.inr h
  have hS : va_S A s.heap s.heap [] := va_S.rf
  have hP : va_P (dC, dI) vwCl [(h0, .inr (12, [a0, a1, a2, a3, a4, a5, a6, .ref h7, a8])), (h7, .inr (9, [b0, b1, .ref h8, b3, b4, b5, b6, b7, b8, b9, b10, b11, b12, b13, b14, b15, b16, b17, b18, b19])), (h8, .inr (3, [d0, d1, d2, d3, d4, d5, d6, d7, d8, .int 0]))] s.heap := hP
  have hl := lv_entry ([.ref h0, .int k1]) (n := 3) (Nat.le_of_ble_eq_true rfl)
  rw [lg_entry_eq]
  generalize (lg_sl ([.ref h0, .int k1]) ++ List.replicate (3 - (lg_sl ([.ref h0, .int k1])).length) Slot.unset).toArray = ls at hl ⊢
  have hl : lv_has ls 3 [(0, .ref h0), (1, .int k1)] := hl
  have htab : c.exceptionTable.toList = [⟨0, 5, 8, 21⟩, ⟨0, 5, 11, 13⟩] := vx_table (x := yL_crash) B (hts _ List.mem_cons_self)
  refine lv_aload_n hx hb dL_crash_A_0 rfl (lv_at hl 0 rfl) ?_
  refine lv_iload_n hx hb dL_crash_A_1 rfl (lv_at hl 1 rfl) ?_
  have hPc := hP.sub (ws' := [(h0, .inr (12, [a0, a1, a2, a3, a4, a5, a6, .ref h7, a8])), (h7, .inr (9, [b0, b1, .ref h8, b3, b4, b5, b6, b7, b8, b9, b10, b11, b12, b13, b14, b15, b16, b17, b18, b19])), (h8, .inr (3, [d0, d1, d2, d3, d4, d5, d6, d7, d8, .int 0]))]) [0, 1, 2] rfl
  have hDc := hD.sub (ws' := [(h0, .inr (12, [a0, a1, a2, a3, a4, a5, a6, .ref h7, a8])), (h7, .inr (9, [b0, b1, .ref h8, b3, b4, b5, b6, b7, b8, b9, b10, b11, b12, b13, b14, b15, b16, b17, b18, b19])), (h8, .inr (3, [d0, d1, d2, d3, d4, d5, d6, d7, d8, .int 0]))]) [0, 1, 2] (by decide) rfl
  have hKc := hK.sub (tys' := []) [] rfl
  have hFc := va_free (wc := [(h0, .inr (12, [a0, a1, a2, a3, a4, a5, a6, .ref h7, a8])), (h7, .inr (9, [b0, b1, .ref h8, b3, b4, b5, b6, b7, b8, b9, b10, b11, b12, b13, b14, b15, b16, b17, b18, b19])), (h8, .inr (3, [d0, d1, d2, d3, d4, d5, d6, d7, d8, .int 0]))]) hD hS hA [0, 1, 2] rfl
  have h_1 : 1 ≤ 1 := by decide
  have h_2 : 6 ≤ 6 := by decide
  refine xz_callX (vx_runV (As := [.int k1]) (rest := []) ⟨hx, hb, hml, hown, hts⟩ (x_X12_crash_A l hl0 dC dI h0 h7 h8 k1 a0 a1 a2 a3 a4 a5 a6 a8 b0 b1 b3 b4 b5 b6 b7 b8 b9 b10 b11 b12 b13 b14 b15 b16 b17 b18 b19 d0 d1 d2 d3 d4 d5 d6 d7 d8 _) (cwV 1 hts wV_L_crash_A_X12_crash_A_54 rfl rfl rfl (by decide +kernel) ⟨Nat.le_of_ble_eq_true rfl, Nat.le_of_ble_eq_true rfl⟩) ⟨fun a U g mk q => by obtain ⟨q0, q1, qP, qK, qD, qf0, qf1, qp⟩ := q; exact ⟨q0, q1, qP, va_K.moved (u := U) (U := U.calling g mk a) (Vm.Alike.refl U.vm) qK, qD, xz_F.same rfl qf0, xz_Z.same (Vm.Alike.refl _) rfl qf1, qp⟩, va_recv hKc hPc (ci := 12) (q0 := 0) rfl rfl, fun U hU hW => ⟨rfl, by rw [hU], by rw [hU]; exact hPc, va_K.moved hW.alike hKc, hDc.weaken (fun _ _ _ _ => trivial), xz_F.warm hW hF9, (hZ9.to hS hFc hW.alike hU), hpre⟩⟩ rfl rfl hl.1 rfl (lv_room (Nat.le_of_ble_eq_true rfl)) dL_crash_A_2 ⟨h_1, h_2⟩) (fun _ _ _ h9 => by obtain ⟨⟨_, h9⟩, _⟩ := h9; simp at h9) hS hFc (fun q _ h => hFc q h) (fun E ce x3 u t H1 locs ht hvm hw hB hz1 hk1 hS hce hcv hcl => ?_)
  obtain ⟨hE, hP1, hK1, hD1⟩ := hB
  subst hE
  rw [ht] at hP1
  have hK1 := va_K.moved hvm.symm hK1
  obtain ⟨hP, hD⟩ := va_join (wr := []) (w1 := [(h0, .inr (12, [a0, a1, a2, a3, a4, a5, a6, .ref h7, a8])), (h7, .inr (9, [b0, b1, .ref h8, b3, b4, b5, b6, b7, b8, b9, b10, b11, b12, b13, b14, b15, b16, b17, b18, b19])), (h8, .inr (3, [d0, d1, d2, d3, d4, d5, d6, d7, d8, .int 0]))]) hP hD [0, 1, 2] [] rfl rfl (by decide) (by decide) hk1 hFc hP1 hD1
  have hK := (hK.sub (tys' := []) [] rfl).app hK1
  generalize H1 = H at hP hS hce ⊢
  have hP : va_P (dC, dI) vwCl [(h0, .inr (12, [a0, a1, a2, a3, a4, a5, a6, .ref h7, a8])), (h7, .inr (9, [b0, b1, .ref h8, b3, b4, b5, b6, b7, b8, b9, b10, b11, b12, b13, b14, b15, b16, b17, b18, b19])), (h8, .inr (3, [d0, d1, d2, d3, d4, d5, d6, d7, d8, .int 0]))] H := hP
  have hD : va_D A [(h0, .inr (12, [a0, a1, a2, a3, a4, a5, a6, .ref h7, a8])), (h7, .inr (9, [b0, b1, .ref h8, b3, b4, b5, b6, b7, b8, b9, b10, b11, b12, b13, b14, b15, b16, b17, b18, b19])), (h8, .inr (3, [d0, d1, d2, d3, d4, d5, d6, d7, d8, .int 0]))] := hD
  have hK : va_K (dC, dI) vwCl [] s := hK
  refine vx_widen (k := 1) (n := 6) (by decide) (by decide) ?_
  refine vx_catch (own := RL) (name := "java/lang/IllegalArgumentException") (E := "java/lang/IllegalArgumentException") hown [⟨0, 5, 8, 21⟩] ⟨0, 5, 11, 13⟩ [] htab (fun z9 hz9 => by cases List.mem_singleton.mp hz9; exact Or.inr ⟨by decide, "java/lang/IllegalStateException", (hts (.classLink RL 21 "java/lang/IllegalStateException") (wm_L_crash_A 4 rfl)), nC2⟩) (by decide) (by decide) (hts (.classLink RL 13 "java/lang/IllegalArgumentException") (wm_L_crash_A 5 rfl)) (va_Nw.use rfl hF9.2.2.2.2.1) hce hcv hcl ?_
  refine lv_astore_n (lv' := [(2, .ref x3), (0, .ref h0), (1, .int k1)]) hx hb dL_crash_A_11 rfl hl (by decide) rfl (fun ls hl => ?_)
  refine lv_iconst (v := 2) hx hb dL_crash_A_12 (by decide) ?_
  have hP9 := hP.sub (ws' := [(h0, .inr (12, [a0, a1, a2, a3, a4, a5, a6, .ref h7, a8])), (h7, .inr (9, [b0, b1, .ref h8, b3, b4, b5, b6, b7, b8, b9, b10, b11, b12, b13, b14, b15, b16, b17, b18, b19])), (h8, .inr (3, [d0, d1, d2, d3, d4, d5, d6, d7, d8, .int 0]))]) [0, 1, 2] rfl
  have hD9 := hD.sub (ws' := [(h0, .inr (12, [a0, a1, a2, a3, a4, a5, a6, .ref h7, a8])), (h7, .inr (9, [b0, b1, .ref h8, b3, b4, b5, b6, b7, b8, b9, b10, b11, b12, b13, b14, b15, b16, b17, b18, b19])), (h8, .inr (3, [d0, d1, d2, d3, d4, d5, d6, d7, d8, .int 0]))]) [0, 1, 2] (by decide) rfl
  have hK9 := hK.sub (tys' := []) [] rfl
  refine W.widen (k := 1) (n := 6) (by decide) (by decide) ?_
  exact W.iret (v := 2) hx hb hr (fun t ht hW => ⟨⟨2, (), rfl, rfl, by rw [ht]; exact hP9, va_K.moved hW.alike hK9, hD9⟩, hS.F ht⟩) hS.2.2 dL_crash_A_13

abbrev ar_L_crash_o (dC : Nat → ClassId) (dI : Nat → Nat → Nat) (A : Nat → Prop) (h0 h7 h8 : Nat) (k1 : Int32) (a0 a1 a2 a3 a4 a5 a6 a8 b0 b1 b3 b4 b5 b6 b7 b8 b9 b10 b11 b12 b13 b14 b15 b16 b17 b18 b19 d0 d1 d2 d3 d4 d5 d6 d7 d8 : Value) (_ : Unit) (t : State) : Prop := va_P (dC, dI) vwCl [(h0, .inr (12, [a0, a1, a2, a3, a4, a5, a6, .ref h7, a8])), (h7, .inr (9, [b0, b1, .ref h8, b3, b4, b5, b6, b7, b8, b9, b10, b11, b12, b13, b14, b15, b16, b17, b18, b19])), (h8, .inr (3, [d0, d1, d2, d3, d4, d5, d6, d7, .int k1, .int 0]))] t.heap ∧ va_K (dC, dI) vwCl [] t ∧ va_D A [(h0, .inr (12, [a0, a1, a2, a3, a4, a5, a6, .ref h7, a8])), (h7, .inr (9, [b0, b1, .ref h8, b3, b4, b5, b6, b7, b8, b9, b10, b11, b12, b13, b14, b15, b16, b17, b18, b19])), (h8, .inr (3, [d0, d1, d2, d3, d4, d5, d6, d7, .int k1, .int 0]))]
theorem dL_crash_o_0 : decode cL_crash 0 = .ok (.aload_n 0, 1) := by decide +kernel
theorem dL_crash_o_1 : decode cL_crash 1 = .ok (.iload_n 1, 1) := by decide +kernel
theorem dL_crash_o_2 : decode cL_crash 2 = .ok (.invokevirtual 54, 3) := by decide +kernel
theorem dL_crash_o_5 : decode cL_crash 5 = .ok (.goto 9, 3) := by decide +kernel
theorem dL_crash_o_14 : decode cL_crash 14 = .ok (.iconst 0, 1) := by decide +kernel
theorem dL_crash_o_15 : decode cL_crash 15 = .ok (.ireturn, 1) := by decide +kernel
def ww_L_crash_o : List Cond := [.initialized RX12, .methodLink RL 54 yX12_crash, .instanceMethod yX12_crash, .selects RX12 yX12_crash yX12_crash]
def wv_L_crash_o : List Cond := .codeWith yL_crash cL_crash 3 (some .int) [(0, 5, 8, 21), (0, 5, 11, 13)] :: (ww_L_crash_o ++ (wv_X12_crash ++ []))
theorem wm_L_crash_o {w : Cond} (i : Nat) (h : ww_L_crash_o[i]? = some w) : w ∈ wv_L_crash_o := List.mem_cons_of_mem _ (List.mem_append_left _ (List.mem_of_getElem? h))
set_option maxRecDepth 100000 in
theorem gw_L_crash_o : wv_L_crash_o.all goodWord = true := by decide +kernel
theorem wg_L_crash_o_X12_crash : GoodIn wv_L_crash_o wv_X12_crash := goodIn_sub (fun w h => List.mem_cons_of_mem _ (List.mem_append_right _ (List.mem_append_left _ h))) gw_X12_crash
theorem wV_L_crash_o_X12_crash_54 : GoodIn wv_L_crash_o (wsV RL 54 RX12 yX12_crash wv_X12_crash) := goodIn_app (goodIn_sub (fun w h => by simp only [List.mem_cons, List.not_mem_nil, or_false] at h; rcases h with rfl | rfl | rfl | rfl <;> first | exact wm_L_crash_o 1 rfl | exact wm_L_crash_o 2 rfl | exact wm_L_crash_o 3 rfl | exact wm_L_crash_o 0 rfl) (by decide +kernel)) wg_L_crash_o_X12_crash
set_option maxHeartbeats 4000000 in
set_option maxRecDepth 100000 in
/-- the law's crash on a fresh house -/
theorem r_L_crash_o (l : Launch) (hl0 : l.stackTraces = false) (dC : Nat → ClassId) (dI : Nat → Nat → Nat) (h0 h7 h8 : Nat) (k1 : Int32) (a0 a1 a2 a3 a4 a5 a6 a8 b0 b1 b3 b4 b5 b6 b7 b8 b9 b10 b11 b12 b13 b14 b15 b16 b17 b18 b19 d0 d1 d2 d3 d4 d5 d6 d7 d8 : Value) (sz : Nat) : Met l yL_crash wv_L_crash_o ({ frames := 1, cells := 0, slots := 0, locals := 21 }) (va_Pc [.ref h0, .int k1] (fun U => U.heap.size = sz ∧ va_P (dC, dI) vwCl [(h0, .inr (12, [a0, a1, a2, a3, a4, a5, a6, .ref h7, a8])), (h7, .inr (9, [b0, b1, .ref h8, b3, b4, b5, b6, b7, b8, b9, b10, b11, b12, b13, b14, b15, b16, b17, b18, b19])), (h8, .inr (3, [d0, d1, d2, d3, d4, d5, d6, d7, d8, .int 0]))] U.heap ∧ va_K (dC, dI) vwCl [] U ∧ va_D (fun _ => True) [(h0, .inr (12, [a0, a1, a2, a3, a4, a5, a6, .ref h7, a8])), (h7, .inr (9, [b0, b1, .ref h8, b3, b4, b5, b6, b7, b8, b9, b10, b11, b12, b13, b14, b15, b16, b17, b18, b19])), (h8, .inr (3, [d0, d1, d2, d3, d4, d5, d6, d7, d8, .int 0]))] ∧ xz_F U ∧ xz_Z (va_A [(h0, .inr (12, [a0, a1, a2, a3, a4, a5, a6, .ref h7, a8])), (h7, .inr (9, [b0, b1, .ref h8, b3, b4, b5, b6, b7, b8, b9, b10, b11, b12, b13, b14, b15, b16, b17, b18, b19])), (h8, .inr (3, [d0, d1, d2, d3, d4, d5, d6, d7, d8, .int 0]))] sz) U U.heap ∧ -1 ≤ k1)) (va_Qi (fun r (_ : Unit) => r = 0) (ar_L_crash_o dC dI (va_A [(h0, .inr (12, [a0, a1, a2, a3, a4, a5, a6, .ref h7, a8])), (h7, .inr (9, [b0, b1, .ref h8, b3, b4, b5, b6, b7, b8, b9, b10, b11, b12, b13, b14, b15, b16, b17, b18, b19])), (h8, .inr (3, [d0, d1, d2, d3, d4, d5, d6, d7, d8, .int 0]))] sz) h0 h7 h8 k1 a0 a1 a2 a3 a4 a5 a6 a8 b0 b1 b3 b4 b5 b6 b7 b8 b9 b10 b11 b12 b13 b14 b15 b16 b17 b18 b19 d0 d1 d2 d3 d4 d5 d6 d7 d8) (va_A [(h0, .inr (12, [a0, a1, a2, a3, a4, a5, a6, .ref h7, a8])), (h7, .inr (9, [b0, b1, .ref h8, b3, b4, b5, b6, b7, b8, b9, b10, b11, b12, b13, b14, b15, b16, b17, b18, b19])), (h8, .inr (3, [d0, d1, d2, d3, d4, d5, d6, d7, d8, .int 0]))] sz)) 0 0 (va_A [(h0, .inr (12, [a0, a1, a2, a3, a4, a5, a6, .ref h7, a8])), (h7, .inr (9, [b0, b1, .ref h8, b3, b4, b5, b6, b7, b8, b9, b10, b11, b12, b13, b14, b15, b16, b17, b18, b19])), (h8, .inr (3, [d0, d1, d2, d3, d4, d5, d6, d7, d8, .int 0]))] sz) := by
  refine va_MetW (cc := cL_crash) (maxL := 3) (ret := (some .int)) (hh := [(0, 5, 8, 21), (0, 5, 11, 13)]) (by decide) rfl ?_
  intro p e s m args below meth c s₁ B hml hv
  obtain ⟨rfl, hsz, hP, hK, hD0, hF9, hZ9, hpre⟩ := hv
  have hx := B.exec
  have hb := B.bytes
  have hr := B.returns
  have hts := atoms_spec (ws := wv_L_crash_o) B.pre
  have hown : s.vm.findClass RL = some m.cls := findClass_of_methodNamed B.named
  have hlocks := B.notSynchronized
  subst hsz
  have hD := hD0.self (sz := s.heap.size)
  generalize hAe : va_A [(h0, .inr (12, [a0, a1, a2, a3, a4, a5, a6, .ref h7, a8])), (h7, .inr (9, [b0, b1, .ref h8, b3, b4, b5, b6, b7, b8, b9, b10, b11, b12, b13, b14, b15, b16, b17, b18, b19])), (h8, .inr (3, [d0, d1, d2, d3, d4, d5, d6, d7, d8, .int 0]))] s.heap.size = A at hD hZ9 ⊢
  have hA : ∀ q : Nat, s.heap.size ≤ q → A q := fun q h => by rw [← hAe]; exact Or.inr h
  have hS : va_S A s.heap s.heap [] := va_S.rf
  have hP : va_P (dC, dI) vwCl [(h0, .inr (12, [a0, a1, a2, a3, a4, a5, a6, .ref h7, a8])), (h7, .inr (9, [b0, b1, .ref h8, b3, b4, b5, b6, b7, b8, b9, b10, b11, b12, b13, b14, b15, b16, b17, b18, b19])), (h8, .inr (3, [d0, d1, d2, d3, d4, d5, d6, d7, d8, .int 0]))] s.heap := hP
  have hl := lv_entry ([.ref h0, .int k1]) (n := 3) (Nat.le_of_ble_eq_true rfl)
  rw [lg_entry_eq]
  generalize (lg_sl ([.ref h0, .int k1]) ++ List.replicate (3 - (lg_sl ([.ref h0, .int k1])).length) Slot.unset).toArray = ls at hl ⊢
  have hl : lv_has ls 3 [(0, .ref h0), (1, .int k1)] := hl
  have htab : c.exceptionTable.toList = [⟨0, 5, 8, 21⟩, ⟨0, 5, 11, 13⟩] := vx_table (x := yL_crash) B (hts _ List.mem_cons_self)
  refine lv_aload_n hx hb dL_crash_o_0 rfl (lv_at hl 0 rfl) ?_
  refine lv_iload_n hx hb dL_crash_o_1 rfl (lv_at hl 1 rfl) ?_
  have hPc := hP.sub (ws' := [(h0, .inr (12, [a0, a1, a2, a3, a4, a5, a6, .ref h7, a8])), (h7, .inr (9, [b0, b1, .ref h8, b3, b4, b5, b6, b7, b8, b9, b10, b11, b12, b13, b14, b15, b16, b17, b18, b19])), (h8, .inr (3, [d0, d1, d2, d3, d4, d5, d6, d7, d8, .int 0]))]) [0, 1, 2] rfl
  have hDc := hD.sub (ws' := [(h0, .inr (12, [a0, a1, a2, a3, a4, a5, a6, .ref h7, a8])), (h7, .inr (9, [b0, b1, .ref h8, b3, b4, b5, b6, b7, b8, b9, b10, b11, b12, b13, b14, b15, b16, b17, b18, b19])), (h8, .inr (3, [d0, d1, d2, d3, d4, d5, d6, d7, d8, .int 0]))]) [0, 1, 2] (by decide) rfl
  have hKc := hK.sub (tys' := []) [] rfl
  have hFc := va_free (wc := [(h0, .inr (12, [a0, a1, a2, a3, a4, a5, a6, .ref h7, a8])), (h7, .inr (9, [b0, b1, .ref h8, b3, b4, b5, b6, b7, b8, b9, b10, b11, b12, b13, b14, b15, b16, b17, b18, b19])), (h8, .inr (3, [d0, d1, d2, d3, d4, d5, d6, d7, d8, .int 0]))]) hD hS hA [0, 1, 2] rfl
  have h_1 : 0 ≤ 0 := by decide
  have h_2 : 0 ≤ 0 := by decide
  refine va_callv (va_runV (As := [.int k1]) (rest := []) ⟨hx, hb, hml, hown, hts⟩ (r_X12_crash l dC dI h0 h7 h8 k1 a0 a1 a2 a3 a4 a5 a6 a8 b0 b1 b3 b4 b5 b6 b7 b8 b9 b10 b11 b12 b13 b14 b15 b16 b17 b18 b19 d0 d1 d2 d3 d4 d5 d6 d7 d8 _) (cwV 1 hts wV_L_crash_o_X12_crash_54 rfl rfl rfl (by decide +kernel) ⟨Nat.le_of_ble_eq_true rfl, Nat.le_of_ble_eq_true rfl⟩) ⟨fun a U g mk q => by obtain ⟨q0, q1, qP, qK, qD, qp⟩ := q; exact ⟨q0, q1, qP, va_K.moved (u := U) (U := U.calling g mk a) (Vm.Alike.refl U.vm) qK, qD, qp⟩, va_recv hKc hPc (ci := 12) (q0 := 0) rfl rfl, fun U hU hW => ⟨rfl, by rw [hU], by rw [hU]; exact hPc, va_K.moved hW.alike hKc, hDc.weaken (fun _ _ _ _ => trivial), hpre⟩⟩ rfl rfl hl.1 rfl (lv_room (Nat.le_of_ble_eq_true rfl)) dL_crash_o_2 ⟨h_1, h_2⟩) hS (fun q _ h => hFc q h) hFc (fun u3 t H1 locs ht hvm hw hB hz1 hk1 hS => ?_)
  obtain ⟨hP1, hK1, hD1⟩ := hB
  rw [ht] at hP1
  have hK1 := va_K.moved hvm.symm hK1
  obtain ⟨hP, hD⟩ := va_join (wr := []) (w1 := [(h0, .inr (12, [a0, a1, a2, a3, a4, a5, a6, .ref h7, a8])), (h7, .inr (9, [b0, b1, .ref h8, b3, b4, b5, b6, b7, b8, b9, b10, b11, b12, b13, b14, b15, b16, b17, b18, b19])), (h8, .inr (3, [d0, d1, d2, d3, d4, d5, d6, d7, .int k1, .int 0]))]) hP hD [0, 1, 2] [] rfl rfl (by decide) (by decide) hk1 hFc hP1 hD1
  have hK := (hK.sub (tys' := []) [] rfl).app hK1
  generalize H1 = H at hP hS ⊢
  have hP : va_P (dC, dI) vwCl [(h0, .inr (12, [a0, a1, a2, a3, a4, a5, a6, .ref h7, a8])), (h7, .inr (9, [b0, b1, .ref h8, b3, b4, b5, b6, b7, b8, b9, b10, b11, b12, b13, b14, b15, b16, b17, b18, b19])), (h8, .inr (3, [d0, d1, d2, d3, d4, d5, d6, d7, .int k1, .int 0]))] H := hP
  have hD : va_D A [(h0, .inr (12, [a0, a1, a2, a3, a4, a5, a6, .ref h7, a8])), (h7, .inr (9, [b0, b1, .ref h8, b3, b4, b5, b6, b7, b8, b9, b10, b11, b12, b13, b14, b15, b16, b17, b18, b19])), (h8, .inr (3, [d0, d1, d2, d3, d4, d5, d6, d7, .int k1, .int 0]))] := hD
  have hK : va_K (dC, dI) vwCl [] s := hK
  refine W.widen (k := 0) (n := 0) (by decide) (by decide) ?_
  refine lv_goto (tgt := 14) hx hb dL_crash_o_5 (by decide) ?_
  refine lv_iconst (v := 0) hx hb dL_crash_o_14 (by decide) ?_
  have hP9 := hP.sub (ws' := [(h0, .inr (12, [a0, a1, a2, a3, a4, a5, a6, .ref h7, a8])), (h7, .inr (9, [b0, b1, .ref h8, b3, b4, b5, b6, b7, b8, b9, b10, b11, b12, b13, b14, b15, b16, b17, b18, b19])), (h8, .inr (3, [d0, d1, d2, d3, d4, d5, d6, d7, .int k1, .int 0]))]) [0, 1, 2] rfl
  have hD9 := hD.sub (ws' := [(h0, .inr (12, [a0, a1, a2, a3, a4, a5, a6, .ref h7, a8])), (h7, .inr (9, [b0, b1, .ref h8, b3, b4, b5, b6, b7, b8, b9, b10, b11, b12, b13, b14, b15, b16, b17, b18, b19])), (h8, .inr (3, [d0, d1, d2, d3, d4, d5, d6, d7, .int k1, .int 0]))]) [0, 1, 2] (by decide) rfl
  have hK9 := hK.sub (tys' := []) [] rfl
  refine W.widen (k := 0) (n := 0) (by decide) (by decide) ?_
  exact W.iret (v := 0) hx hb hr (fun t ht hW => ⟨⟨0, (), rfl, rfl, by rw [ht]; exact hP9, va_K.moved hW.alike hK9, hD9⟩, hS.F ht⟩) hS.2.2 dL_crash_o_15

abbrev ar_L_feed_A (dC : Nat → ClassId) (dI : Nat → Nat → Nat) (A : Nat → Prop) (h0 ho : Nat) (cO : ClassId) (fo : Nat → Int64) (k1 : Int32) (g1 : Int64) (a0 a1 a2 a3 a4 a5 a6 a7 a8 : Value) (_ : Unit) (t : State) : Prop := va_P (dC, dI) vwCl [(h0, .inr (12, [a0, a1, a2, a3, a4, a5, a6, a7, a8])), (ho, .inl (cO, 1, .inr (.inl fo)))] t.heap ∧ va_K (dC, dI) vwCl [(cO, .long)] t ∧ va_D A [(h0, .inr (12, [a0, a1, a2, a3, a4, a5, a6, a7, a8])), (ho, .inl (cO, 1, .inr (.inl fo)))]
theorem dL_feed_A_0 : decode cL_feed 0 = .ok (.aload 4, 2) := by decide +kernel
theorem dL_feed_A_2 : decode cL_feed 2 = .ok (.iconst 0, 1) := by decide +kernel
theorem dL_feed_A_3 : decode cL_feed 3 = .ok (.aload_n 0, 1) := by decide +kernel
theorem dL_feed_A_4 : decode cL_feed 4 = .ok (.lload_n 1, 1) := by decide +kernel
theorem dL_feed_A_5 : decode cL_feed 5 = .ok (.iload_n 3, 1) := by decide +kernel
theorem dL_feed_A_6 : decode cL_feed 6 = .ok (.invokevirtual 7, 3) := by decide +kernel
theorem dL_feed_A_14 : decode cL_feed 14 = .ok (.astore 5, 2) := by decide +kernel
theorem dL_feed_A_16 : decode cL_feed 16 = .ok (.iconst 1, 1) := by decide +kernel
theorem dL_feed_A_17 : decode cL_feed 17 = .ok (.ireturn, 1) := by decide +kernel
def ww_L_feed_A : List Cond := [.methodLink RL 7 yX12_feed, .instanceMethod yX12_feed, .selects RX12 yX12_feed yX12_feed, .initialized RX12, .classLink RL 13 "java/lang/IllegalArgumentException"]
def wv_L_feed_A : List Cond := .codeWith yL_feed cL_feed 6 (some .int) [(0, 11, 14, 13), (0, 11, 18, 15)] :: (ww_L_feed_A ++ (wv_X12_feed_A ++ []))
theorem wm_L_feed_A {w : Cond} (i : Nat) (h : ww_L_feed_A[i]? = some w) : w ∈ wv_L_feed_A := List.mem_cons_of_mem _ (List.mem_append_left _ (List.mem_of_getElem? h))
set_option maxRecDepth 100000 in
theorem gw_L_feed_A : wv_L_feed_A.all goodWord = true := by decide +kernel
theorem wg_L_feed_A_X12_feed_A : GoodIn wv_L_feed_A wv_X12_feed_A := goodIn_sub (fun w h => List.mem_cons_of_mem _ (List.mem_append_right _ (List.mem_append_left _ h))) gw_X12_feed_A
theorem wV_L_feed_A_X12_feed_A_7 : GoodIn wv_L_feed_A (wsV RL 7 RX12 yX12_feed wv_X12_feed_A) := goodIn_app (goodIn_sub (fun w h => by simp only [List.mem_cons, List.not_mem_nil, or_false] at h; rcases h with rfl | rfl | rfl | rfl <;> first | exact wm_L_feed_A 0 rfl | exact wm_L_feed_A 1 rfl | exact wm_L_feed_A 2 rfl | exact wm_L_feed_A 3 rfl) (by decide +kernel)) wg_L_feed_A_X12_feed_A
set_option maxHeartbeats 4000000 in
set_option maxRecDepth 100000 in
/-- the law's feed on a fresh house -/
theorem r_L_feed_A (l : Launch) (hl0 : l.stackTraces = false) (dC : Nat → ClassId) (dI : Nat → Nat → Nat) (h0 ho : Nat) (cO : ClassId) (fo : Nat → Int64) (k1 : Int32) (g1 : Int64) (a0 a1 a2 a3 a4 a5 a6 a7 a8 : Value) (sz : Nat) : Met l yL_feed wv_L_feed_A ({ frames := 7, cells := 1, slots := 6, locals := 105 }) (va_Pc [.ref h0, .long g1, .int k1, .ref ho] (fun U => U.heap.size = sz ∧ va_P (dC, dI) vwCl [(h0, .inr (12, [a0, a1, a2, a3, a4, a5, a6, a7, a8])), (ho, .inl (cO, 1, .inr (.inl fo)))] U.heap ∧ va_K (dC, dI) vwCl [(cO, .long)] U ∧ va_D (fun _ => True) [(h0, .inr (12, [a0, a1, a2, a3, a4, a5, a6, a7, a8])), (ho, .inl (cO, 1, .inr (.inl fo)))] ∧ xz_F U ∧ xz_Z (va_A [(h0, .inr (12, [a0, a1, a2, a3, a4, a5, a6, a7, a8])), (ho, .inl (cO, 1, .inr (.inl fo)))] sz) U U.heap ∧ (k1 < 1 ∨ 8 < k1))) (va_Qi (fun r (_ : Unit) => r = 1) (ar_L_feed_A dC dI (va_A [(h0, .inr (12, [a0, a1, a2, a3, a4, a5, a6, a7, a8])), (ho, .inl (cO, 1, .inr (.inl fo)))] sz) h0 ho cO fo k1 g1 a0 a1 a2 a3 a4 a5 a6 a7 a8) (va_A [(h0, .inr (12, [a0, a1, a2, a3, a4, a5, a6, a7, a8])), (ho, .inl (cO, 1, .inr (.inl fo)))] sz)) 1 6 (va_A [(h0, .inr (12, [a0, a1, a2, a3, a4, a5, a6, a7, a8])), (ho, .inl (cO, 1, .inr (.inl fo)))] sz) := by
  refine va_MetW (cc := cL_feed) (maxL := 6) (ret := (some .int)) (hh := [(0, 11, 14, 13), (0, 11, 18, 15)]) (by decide) rfl ?_
  intro p e s m args below meth c s₁ B hml hv
  obtain ⟨rfl, hsz, hP, hK, hD0, hF9, hZ9, hpre⟩ := hv
  have hx := B.exec
  have hb := B.bytes
  have hr := B.returns
  have hts := atoms_spec (ws := wv_L_feed_A) B.pre
  have hown : s.vm.findClass RL = some m.cls := findClass_of_methodNamed B.named
  have hlocks := B.notSynchronized
  subst hsz
  have hD := hD0.self (sz := s.heap.size)
  generalize hAe : va_A [(h0, .inr (12, [a0, a1, a2, a3, a4, a5, a6, a7, a8])), (ho, .inl (cO, 1, .inr (.inl fo)))] s.heap.size = A at hD hZ9 ⊢
  have hA : ∀ q : Nat, s.heap.size ≤ q → A q := fun q h => by rw [← hAe]; exact Or.inr h
  have hS : va_S A s.heap s.heap [] := va_S.rf
  have hP : va_P (dC, dI) vwCl [(h0, .inr (12, [a0, a1, a2, a3, a4, a5, a6, a7, a8])), (ho, .inl (cO, 1, .inr (.inl fo)))] s.heap := hP
  have hl := lv_entry ([.ref h0, .long g1, .int k1, .ref ho]) (n := 6) (Nat.le_of_ble_eq_true rfl)
  rw [lg_entry_eq]
  generalize (lg_sl ([.ref h0, .long g1, .int k1, .ref ho]) ++ List.replicate (6 - (lg_sl ([.ref h0, .long g1, .int k1, .ref ho])).length) Slot.unset).toArray = ls at hl ⊢
  have hl : lv_has ls 6 [(0, .ref h0), (1, .long g1), (3, .int k1), (4, .ref ho)] := hl
  have htab : c.exceptionTable.toList = [⟨0, 11, 14, 13⟩, ⟨0, 11, 18, 15⟩] := vx_table (x := yL_feed) B (hts _ List.mem_cons_self)
  refine lv_aload hx hb dL_feed_A_0 (lv_at hl 3 rfl) ?_
  refine lv_iconst (v := 0) hx hb dL_feed_A_2 (by decide) ?_
  refine lv_aload_n hx hb dL_feed_A_3 rfl (lv_at hl 0 rfl) ?_
  refine lv_lload_n hx hb dL_feed_A_4 rfl (lv_at hl 1 rfl) ?_
  refine lv_iload_n hx hb dL_feed_A_5 rfl (lv_at hl 2 rfl) ?_
  have hPc := hP.sub (ws' := [(h0, .inr (12, [a0, a1, a2, a3, a4, a5, a6, a7, a8]))]) [0] rfl
  have hDc := hD.sub (ws' := [(h0, .inr (12, [a0, a1, a2, a3, a4, a5, a6, a7, a8]))]) [0] (by decide) rfl
  have hKc := hK.sub (tys' := []) [] rfl
  have hFc := va_free (wc := [(h0, .inr (12, [a0, a1, a2, a3, a4, a5, a6, a7, a8]))]) hD hS hA [0] rfl
  have h_1 : 1 ≤ 1 := by decide
  have h_2 : 6 ≤ 6 := by decide
  refine xz_callX (vx_runV (As := [.long g1, .int k1]) (rest := [.int 0, .ref ho]) ⟨hx, hb, hml, hown, hts⟩ (x_X12_feed_A l hl0 dC dI h0 k1 g1 a0 a1 a2 a3 a4 a5 a6 a7 a8 _) (cwV 2 hts wV_L_feed_A_X12_feed_A_7 rfl rfl rfl (by decide +kernel) ⟨Nat.le_of_ble_eq_true rfl, Nat.le_of_ble_eq_true rfl⟩) ⟨fun a U g mk q => by obtain ⟨q0, q1, qP, qK, qD, qf0, qf1, qp⟩ := q; exact ⟨q0, q1, qP, va_K.moved (u := U) (U := U.calling g mk a) (Vm.Alike.refl U.vm) qK, qD, xz_F.same rfl qf0, xz_Z.same (Vm.Alike.refl _) rfl qf1, qp⟩, va_recv hKc hPc (ci := 12) (q0 := 0) rfl rfl, fun U hU hW => ⟨rfl, by rw [hU], by rw [hU]; exact hPc, va_K.moved hW.alike hKc, hDc.weaken (fun _ _ _ _ => trivial), xz_F.warm hW hF9, (hZ9.to hS hFc hW.alike hU), hpre⟩⟩ rfl rfl hl.1 rfl (lv_room (Nat.le_of_ble_eq_true rfl)) dL_feed_A_6 ⟨h_1, h_2⟩) (fun _ _ _ h9 => by obtain ⟨⟨_, h9⟩, _⟩ := h9; simp at h9) hS hFc (fun q _ h => hFc q h) (fun E ce x3 u t H1 locs ht hvm hw hB hz1 hk1 hS hce hcv hcl => ?_)
  obtain ⟨hE, hP1, hK1, hD1⟩ := hB
  subst hE
  rw [ht] at hP1
  have hK1 := va_K.moved hvm.symm hK1
  obtain ⟨hP, hD⟩ := va_join (wr := [(ho, .inl (cO, 1, .inr (.inl fo)))]) (w1 := [(h0, .inr (12, [a0, a1, a2, a3, a4, a5, a6, a7, a8]))]) hP hD [0] [1] rfl rfl (by decide) (by decide) hk1 hFc hP1 hD1
  have hK := (hK.sub (tys' := [(cO, .long)]) [0] rfl).app hK1
  generalize H1 = H at hP hS hce ⊢
  have hP : va_P (dC, dI) vwCl [(ho, .inl (cO, 1, .inr (.inl fo))), (h0, .inr (12, [a0, a1, a2, a3, a4, a5, a6, a7, a8]))] H := hP
  have hD : va_D A [(ho, .inl (cO, 1, .inr (.inl fo))), (h0, .inr (12, [a0, a1, a2, a3, a4, a5, a6, a7, a8]))] := hD
  have hK : va_K (dC, dI) vwCl [(cO, .long)] s := hK
  refine vx_widen (k := 1) (n := 6) (by decide) (by decide) ?_
  refine vx_catch (own := RL) (name := "java/lang/IllegalArgumentException") (E := "java/lang/IllegalArgumentException") hown [] ⟨0, 11, 14, 13⟩ [⟨0, 11, 18, 15⟩] htab (fun z9 hz9 => nomatch hz9) (by decide) (by decide) (hts (.classLink RL 13 "java/lang/IllegalArgumentException") (wm_L_feed_A 4 rfl)) (va_Nw.use rfl hF9.2.2.2.2.1) hce hcv hcl ?_
  refine lv_astore (lv' := [(5, .ref x3), (0, .ref h0), (1, .long g1), (3, .int k1), (4, .ref ho)]) hx hb dL_feed_A_14 hl (by decide) rfl (fun ls hl => ?_)
  refine lv_iconst (v := 1) hx hb dL_feed_A_16 (by decide) ?_
  have hP9 := hP.sub (ws' := [(h0, .inr (12, [a0, a1, a2, a3, a4, a5, a6, a7, a8])), (ho, .inl (cO, 1, .inr (.inl fo)))]) [1, 0] rfl
  have hD9 := hD.sub (ws' := [(h0, .inr (12, [a0, a1, a2, a3, a4, a5, a6, a7, a8])), (ho, .inl (cO, 1, .inr (.inl fo)))]) [1, 0] (by decide) rfl
  have hK9 := hK.sub (tys' := [(cO, .long)]) [0] rfl
  refine W.widen (k := 1) (n := 6) (by decide) (by decide) ?_
  exact W.iret (v := 1) hx hb hr (fun t ht hW => ⟨⟨1, (), rfl, rfl, by rw [ht]; exact hP9, va_K.moved hW.alike hK9, hD9⟩, hS.F ht⟩) hS.2.2 dL_feed_A_17

abbrev ar_L_feed_1 (dC : Nat → ClassId) (dI : Nat → Nat → Nat) (A : Nat → Prop) (h0 h1 ho : Nat) (cT cO : ClassId) (f1 : Nat → Int32) (fo : Nat → Int64) (g1 : Int64) (a2 a3 a4 a5 a6 a7 a8 : Value) (_ : Unit) (t : State) : Prop := va_P (dC, dI) vwCl [(h0, .inr (12, [.ref h1, .int 1, a2, a3, a4, a5, a6, a7, a8])), (ho, .inl (cO, 1, .inr (.inl (vp_updL fo 0 1))))] t.heap ∧ va_K (dC, dI) vwCl [(cO, .long)] t ∧ va_D A [(h0, .inr (12, [.ref h1, .int 1, a2, a3, a4, a5, a6, a7, a8])), (ho, .inl (cO, 1, .inr (.inl (vp_updL fo 0 1))))]
theorem dL_feed_1_0 : decode cL_feed 0 = .ok (.aload 4, 2) := by decide +kernel
theorem dL_feed_1_2 : decode cL_feed 2 = .ok (.iconst 0, 1) := by decide +kernel
theorem dL_feed_1_3 : decode cL_feed 3 = .ok (.aload_n 0, 1) := by decide +kernel
theorem dL_feed_1_4 : decode cL_feed 4 = .ok (.lload_n 1, 1) := by decide +kernel
theorem dL_feed_1_5 : decode cL_feed 5 = .ok (.iload_n 3, 1) := by decide +kernel
theorem dL_feed_1_6 : decode cL_feed 6 = .ok (.invokevirtual 7, 3) := by decide +kernel
theorem dL_feed_1_9 : decode cL_feed 9 = .ok (.i2l, 1) := by decide +kernel
theorem dL_feed_1_10 : decode cL_feed 10 = .ok (.lastore, 1) := by decide +kernel
theorem dL_feed_1_11 : decode cL_feed 11 = .ok (.goto 11, 3) := by decide +kernel
theorem dL_feed_1_22 : decode cL_feed 22 = .ok (.iconst 0, 1) := by decide +kernel
theorem dL_feed_1_23 : decode cL_feed 23 = .ok (.ireturn, 1) := by decide +kernel
def ww_L_feed_1 : List Cond := [.initialized RX12, .methodLink RL 7 yX12_feed, .instanceMethod yX12_feed, .selects RX12 yX12_feed yX12_feed]
def wv_L_feed_1 : List Cond := .codeWith yL_feed cL_feed 6 (some .int) [(0, 11, 14, 13), (0, 11, 18, 15)] :: (ww_L_feed_1 ++ (wv_X12_feed_1 ++ []))
theorem wm_L_feed_1 {w : Cond} (i : Nat) (h : ww_L_feed_1[i]? = some w) : w ∈ wv_L_feed_1 := List.mem_cons_of_mem _ (List.mem_append_left _ (List.mem_of_getElem? h))
set_option maxRecDepth 100000 in
theorem gw_L_feed_1 : wv_L_feed_1.all goodWord = true := by decide +kernel
theorem wg_L_feed_1_X12_feed_1 : GoodIn wv_L_feed_1 wv_X12_feed_1 := goodIn_sub (fun w h => List.mem_cons_of_mem _ (List.mem_append_right _ (List.mem_append_left _ h))) gw_X12_feed_1
theorem wV_L_feed_1_X12_feed_1_7 : GoodIn wv_L_feed_1 (wsV RL 7 RX12 yX12_feed wv_X12_feed_1) := goodIn_app (goodIn_sub (fun w h => by simp only [List.mem_cons, List.not_mem_nil, or_false] at h; rcases h with rfl | rfl | rfl | rfl <;> first | exact wm_L_feed_1 1 rfl | exact wm_L_feed_1 2 rfl | exact wm_L_feed_1 3 rfl | exact wm_L_feed_1 0 rfl) (by decide +kernel)) wg_L_feed_1_X12_feed_1
set_option maxHeartbeats 4000000 in
set_option maxRecDepth 100000 in
/-- the law's feed on a fresh house -/
theorem r_L_feed_1 (l : Launch) (hl0 : l.stackTraces = false) (dC : Nat → ClassId) (dI : Nat → Nat → Nat) (h0 h1 ho : Nat) (cT cO : ClassId) (f1 : Nat → Int32) (fo : Nat → Int64) (g1 : Int64) (a2 a3 a4 a5 a6 a7 a8 : Value) (sz : Nat) : Met l yL_feed wv_L_feed_1 ({ frames := 1, cells := 0, slots := 0, locals := 24 }) (va_Pc [.ref h0, .long g1, .int 1, .ref ho] (fun U => U.heap.size = sz ∧ va_P (dC, dI) vwCl [(h0, .inr (12, [.ref h1, .int 0, a2, a3, a4, a5, a6, a7, a8])), (h1, .inl (cT, 1500, .inl f1)), (ho, .inl (cO, 1, .inr (.inl fo)))] U.heap ∧ va_K (dC, dI) vwCl [(cT, .byte), (cO, .long)] U ∧ va_D (fun _ => True) [(h0, .inr (12, [.ref h1, .int 0, a2, a3, a4, a5, a6, a7, a8])), (h1, .inl (cT, 1500, .inl f1)), (ho, .inl (cO, 1, .inr (.inl fo)))] ∧ xz_F U ∧ xz_Z (va_A [(h0, .inr (12, [.ref h1, .int 0, a2, a3, a4, a5, a6, a7, a8])), (h1, .inl (cT, 1500, .inl f1)), (ho, .inl (cO, 1, .inr (.inl fo)))] sz) U U.heap)) (va_Qi (fun r (_ : Unit) => r = 0) (ar_L_feed_1 dC dI (va_A [(h0, .inr (12, [.ref h1, .int 0, a2, a3, a4, a5, a6, a7, a8])), (h1, .inl (cT, 1500, .inl f1)), (ho, .inl (cO, 1, .inr (.inl fo)))] sz) h0 h1 ho cT cO f1 fo g1 a2 a3 a4 a5 a6 a7 a8) (va_A [(h0, .inr (12, [.ref h1, .int 0, a2, a3, a4, a5, a6, a7, a8])), (h1, .inl (cT, 1500, .inl f1)), (ho, .inl (cO, 1, .inr (.inl fo)))] sz)) 0 0 (va_A [(h0, .inr (12, [.ref h1, .int 0, a2, a3, a4, a5, a6, a7, a8])), (h1, .inl (cT, 1500, .inl f1)), (ho, .inl (cO, 1, .inr (.inl fo)))] sz) := by
  refine va_MetW (cc := cL_feed) (maxL := 6) (ret := (some .int)) (hh := [(0, 11, 14, 13), (0, 11, 18, 15)]) (by decide) rfl ?_
  intro p e s m args below meth c s₁ B hml hv
  obtain ⟨rfl, hsz, hP, hK, hD0, hF9, hZ9⟩ := hv
  have hx := B.exec
  have hb := B.bytes
  have hr := B.returns
  have hts := atoms_spec (ws := wv_L_feed_1) B.pre
  have hown : s.vm.findClass RL = some m.cls := findClass_of_methodNamed B.named
  have hlocks := B.notSynchronized
  subst hsz
  have hD := hD0.self (sz := s.heap.size)
  generalize hAe : va_A [(h0, .inr (12, [.ref h1, .int 0, a2, a3, a4, a5, a6, a7, a8])), (h1, .inl (cT, 1500, .inl f1)), (ho, .inl (cO, 1, .inr (.inl fo)))] s.heap.size = A at hD hZ9 ⊢
  have hA : ∀ q : Nat, s.heap.size ≤ q → A q := fun q h => by rw [← hAe]; exact Or.inr h
  have hS : va_S A s.heap s.heap [] := va_S.rf
  have hP : va_P (dC, dI) vwCl [(h0, .inr (12, [.ref h1, .int 0, a2, a3, a4, a5, a6, a7, a8])), (h1, .inl (cT, 1500, .inl f1)), (ho, .inl (cO, 1, .inr (.inl fo)))] s.heap := hP
  have hl := lv_entry ([.ref h0, .long g1, .int 1, .ref ho]) (n := 6) (Nat.le_of_ble_eq_true rfl)
  rw [lg_entry_eq]
  generalize (lg_sl ([.ref h0, .long g1, .int 1, .ref ho]) ++ List.replicate (6 - (lg_sl ([.ref h0, .long g1, .int 1, .ref ho])).length) Slot.unset).toArray = ls at hl ⊢
  have hl : lv_has ls 6 [(0, .ref h0), (1, .long g1), (3, .int 1), (4, .ref ho)] := hl
  have htab : c.exceptionTable.toList = [⟨0, 11, 14, 13⟩, ⟨0, 11, 18, 15⟩] := vx_table (x := yL_feed) B (hts _ List.mem_cons_self)
  refine lv_aload hx hb dL_feed_1_0 (lv_at hl 3 rfl) ?_
  refine lv_iconst (v := 0) hx hb dL_feed_1_2 (by decide) ?_
  refine lv_aload_n hx hb dL_feed_1_3 rfl (lv_at hl 0 rfl) ?_
  refine lv_lload_n hx hb dL_feed_1_4 rfl (lv_at hl 1 rfl) ?_
  refine lv_iload_n hx hb dL_feed_1_5 rfl (lv_at hl 2 rfl) ?_
  have hPc := hP.sub (ws' := [(h0, .inr (12, [.ref h1, .int 0, a2, a3, a4, a5, a6, a7, a8])), (h1, .inl (cT, 1500, .inl f1))]) [0, 1] rfl
  have hDc := hD.sub (ws' := [(h0, .inr (12, [.ref h1, .int 0, a2, a3, a4, a5, a6, a7, a8])), (h1, .inl (cT, 1500, .inl f1))]) [0, 1] (by decide) rfl
  have hKc := hK.sub (tys' := [(cT, .byte)]) [0] rfl
  have hFc := va_free (wc := [(h0, .inr (12, [.ref h1, .int 0, a2, a3, a4, a5, a6, a7, a8])), (h1, .inl (cT, 1500, .inl f1))]) hD hS hA [0, 1] rfl
  have h_1 : 0 ≤ 0 := by decide
  have h_2 : 0 ≤ 0 := by decide
  refine va_calli (va_runV (As := [.long g1, .int 1]) (rest := [.int 0, .ref ho]) ⟨hx, hb, hml, hown, hts⟩ (r_X12_feed_1 l dC dI h0 h1 g1 cT f1 a2 a3 a4 a5 a6 a7 a8 _) (cwV 2 hts wV_L_feed_1_X12_feed_1_7 rfl rfl rfl (by decide +kernel) ⟨Nat.le_of_ble_eq_true rfl, Nat.le_of_ble_eq_true rfl⟩) ⟨fun a U g mk q => by obtain ⟨q0, q1, qP, qK, qD⟩ := q; exact ⟨q0, q1, qP, va_K.moved (u := U) (U := U.calling g mk a) (Vm.Alike.refl U.vm) qK, qD⟩, va_recv hKc hPc (ci := 12) (q0 := 0) rfl rfl, fun U hU hW => ⟨rfl, by rw [hU], by rw [hU]; exact hPc, va_K.moved hW.alike hKc, hDc.weaken (fun _ _ _ _ => trivial)⟩⟩ rfl rfl hl.1 rfl (lv_room (Nat.le_of_ble_eq_true rfl)) dL_feed_1_6 ⟨h_1, h_2⟩) hS (fun q _ h => hFc q h) hFc (fun y4 u3 t H1 locs ht hvm hw hB hz1 hk1 hS => ?_)
  obtain ⟨hP1, hK1, hD1⟩ := hB
  rw [ht] at hP1
  have hK1 := va_K.moved hvm.symm hK1
  obtain ⟨hP, hD⟩ := va_join (wr := [(ho, .inl (cO, 1, .inr (.inl fo)))]) (w1 := [(h0, .inr (12, [.ref h1, .int 1, a2, a3, a4, a5, a6, a7, a8]))]) hP hD [0, 1] [2] rfl rfl (by decide) (by decide) hk1 hFc hP1 hD1
  have hK := (hK.sub (tys' := [(cO, .long)]) [1] rfl).app hK1
  generalize H1 = H at hP hS ⊢
  have hP : va_P (dC, dI) vwCl [(ho, .inl (cO, 1, .inr (.inl fo))), (h0, .inr (12, [.ref h1, .int 1, a2, a3, a4, a5, a6, a7, a8]))] H := hP
  have hD : va_D A [(ho, .inl (cO, 1, .inr (.inl fo))), (h0, .inr (12, [.ref h1, .int 1, a2, a3, a4, a5, a6, a7, a8]))] := hD
  have hK : va_K (dC, dI) vwCl [(cO, .long)] s := hK
  refine W.widen (k := 0) (n := 0) (by decide) (by decide) ?_
  have hw : y4 = 1 := hw
  subst hw
  refine lv_i2l (v := 1) hx hb dL_feed_1_9 (by decide) ?_
  refine va_last hx hb hK hP hD hS 0 0 rfl rfl (by unfold vp_in; decide) dL_feed_1_10 (fun H locs hP hD hS => ?_)
  have hP : va_P (dC, dI) vwCl [(ho, .inl (cO, 1, .inr (.inl (vp_updL fo 0 1)))), (h0, .inr (12, [.ref h1, .int 1, a2, a3, a4, a5, a6, a7, a8]))] H := hP
  have hD : va_D A [(ho, .inl (cO, 1, .inr (.inl (vp_updL fo 0 1)))), (h0, .inr (12, [.ref h1, .int 1, a2, a3, a4, a5, a6, a7, a8]))] := hD
  refine lv_goto (tgt := 22) hx hb dL_feed_1_11 (by decide) ?_
  refine lv_iconst (v := 0) hx hb dL_feed_1_22 (by decide) ?_
  have hP9 := hP.sub (ws' := [(h0, .inr (12, [.ref h1, .int 1, a2, a3, a4, a5, a6, a7, a8])), (ho, .inl (cO, 1, .inr (.inl (vp_updL fo 0 1))))]) [1, 0] rfl
  have hD9 := hD.sub (ws' := [(h0, .inr (12, [.ref h1, .int 1, a2, a3, a4, a5, a6, a7, a8])), (ho, .inl (cO, 1, .inr (.inl (vp_updL fo 0 1))))]) [1, 0] (by decide) rfl
  have hK9 := hK.sub (tys' := [(cO, .long)]) [0] rfl
  refine W.widen (k := 0) (n := 0) (by decide) (by decide) ?_
  exact W.iret (v := 0) hx hb hr (fun t ht hW => ⟨⟨0, (), rfl, rfl, by rw [ht]; exact hP9, va_K.moved hW.alike hK9, hD9⟩, hS.F ht⟩) hS.2.2 dL_feed_1_23

abbrev ar_L_feed_2 (dC : Nat → ClassId) (dI : Nat → Nat → Nat) (A : Nat → Prop) (h0 h1 ho : Nat) (cT cO : ClassId) (f1 : Nat → Int32) (fo : Nat → Int64) (g1 : Int64) (a2 a3 a4 a5 a6 a7 a8 : Value) (_ : Unit) (t : State) : Prop := va_P (dC, dI) vwCl [(h0, .inr (12, [.ref h1, .int 2, a2, a3, a4, a5, a6, a7, a8])), (ho, .inl (cO, 1, .inr (.inl (vp_updL fo 0 2))))] t.heap ∧ va_K (dC, dI) vwCl [(cO, .long)] t ∧ va_D A [(h0, .inr (12, [.ref h1, .int 2, a2, a3, a4, a5, a6, a7, a8])), (ho, .inl (cO, 1, .inr (.inl (vp_updL fo 0 2))))]
theorem dL_feed_2_0 : decode cL_feed 0 = .ok (.aload 4, 2) := by decide +kernel
theorem dL_feed_2_2 : decode cL_feed 2 = .ok (.iconst 0, 1) := by decide +kernel
theorem dL_feed_2_3 : decode cL_feed 3 = .ok (.aload_n 0, 1) := by decide +kernel
theorem dL_feed_2_4 : decode cL_feed 4 = .ok (.lload_n 1, 1) := by decide +kernel
theorem dL_feed_2_5 : decode cL_feed 5 = .ok (.iload_n 3, 1) := by decide +kernel
theorem dL_feed_2_6 : decode cL_feed 6 = .ok (.invokevirtual 7, 3) := by decide +kernel
theorem dL_feed_2_9 : decode cL_feed 9 = .ok (.i2l, 1) := by decide +kernel
theorem dL_feed_2_10 : decode cL_feed 10 = .ok (.lastore, 1) := by decide +kernel
theorem dL_feed_2_11 : decode cL_feed 11 = .ok (.goto 11, 3) := by decide +kernel
theorem dL_feed_2_22 : decode cL_feed 22 = .ok (.iconst 0, 1) := by decide +kernel
theorem dL_feed_2_23 : decode cL_feed 23 = .ok (.ireturn, 1) := by decide +kernel
def ww_L_feed_2 : List Cond := [.initialized RX12, .methodLink RL 7 yX12_feed, .instanceMethod yX12_feed, .selects RX12 yX12_feed yX12_feed]
def wv_L_feed_2 : List Cond := .codeWith yL_feed cL_feed 6 (some .int) [(0, 11, 14, 13), (0, 11, 18, 15)] :: (ww_L_feed_2 ++ (wv_X12_feed_2 ++ []))
theorem wm_L_feed_2 {w : Cond} (i : Nat) (h : ww_L_feed_2[i]? = some w) : w ∈ wv_L_feed_2 := List.mem_cons_of_mem _ (List.mem_append_left _ (List.mem_of_getElem? h))
set_option maxRecDepth 100000 in
theorem gw_L_feed_2 : wv_L_feed_2.all goodWord = true := by decide +kernel
theorem wg_L_feed_2_X12_feed_2 : GoodIn wv_L_feed_2 wv_X12_feed_2 := goodIn_sub (fun w h => List.mem_cons_of_mem _ (List.mem_append_right _ (List.mem_append_left _ h))) gw_X12_feed_2
theorem wV_L_feed_2_X12_feed_2_7 : GoodIn wv_L_feed_2 (wsV RL 7 RX12 yX12_feed wv_X12_feed_2) := goodIn_app (goodIn_sub (fun w h => by simp only [List.mem_cons, List.not_mem_nil, or_false] at h; rcases h with rfl | rfl | rfl | rfl <;> first | exact wm_L_feed_2 1 rfl | exact wm_L_feed_2 2 rfl | exact wm_L_feed_2 3 rfl | exact wm_L_feed_2 0 rfl) (by decide +kernel)) wg_L_feed_2_X12_feed_2
set_option maxHeartbeats 4000000 in
set_option maxRecDepth 100000 in
/-- the law's feed on a fresh house -/
theorem r_L_feed_2 (l : Launch) (hl0 : l.stackTraces = false) (dC : Nat → ClassId) (dI : Nat → Nat → Nat) (h0 h1 ho : Nat) (cT cO : ClassId) (f1 : Nat → Int32) (fo : Nat → Int64) (g1 : Int64) (a2 a3 a4 a5 a6 a7 a8 : Value) (sz : Nat) : Met l yL_feed wv_L_feed_2 ({ frames := 1, cells := 0, slots := 0, locals := 24 }) (va_Pc [.ref h0, .long g1, .int 2, .ref ho] (fun U => U.heap.size = sz ∧ va_P (dC, dI) vwCl [(h0, .inr (12, [.ref h1, .int 0, a2, a3, a4, a5, a6, a7, a8])), (h1, .inl (cT, 1500, .inl f1)), (ho, .inl (cO, 1, .inr (.inl fo)))] U.heap ∧ va_K (dC, dI) vwCl [(cT, .byte), (cO, .long)] U ∧ va_D (fun _ => True) [(h0, .inr (12, [.ref h1, .int 0, a2, a3, a4, a5, a6, a7, a8])), (h1, .inl (cT, 1500, .inl f1)), (ho, .inl (cO, 1, .inr (.inl fo)))] ∧ xz_F U ∧ xz_Z (va_A [(h0, .inr (12, [.ref h1, .int 0, a2, a3, a4, a5, a6, a7, a8])), (h1, .inl (cT, 1500, .inl f1)), (ho, .inl (cO, 1, .inr (.inl fo)))] sz) U U.heap)) (va_Qi (fun r (_ : Unit) => r = 0) (ar_L_feed_2 dC dI (va_A [(h0, .inr (12, [.ref h1, .int 0, a2, a3, a4, a5, a6, a7, a8])), (h1, .inl (cT, 1500, .inl f1)), (ho, .inl (cO, 1, .inr (.inl fo)))] sz) h0 h1 ho cT cO f1 fo g1 a2 a3 a4 a5 a6 a7 a8) (va_A [(h0, .inr (12, [.ref h1, .int 0, a2, a3, a4, a5, a6, a7, a8])), (h1, .inl (cT, 1500, .inl f1)), (ho, .inl (cO, 1, .inr (.inl fo)))] sz)) 0 0 (va_A [(h0, .inr (12, [.ref h1, .int 0, a2, a3, a4, a5, a6, a7, a8])), (h1, .inl (cT, 1500, .inl f1)), (ho, .inl (cO, 1, .inr (.inl fo)))] sz) := by
  refine va_MetW (cc := cL_feed) (maxL := 6) (ret := (some .int)) (hh := [(0, 11, 14, 13), (0, 11, 18, 15)]) (by decide) rfl ?_
  intro p e s m args below meth c s₁ B hml hv
  obtain ⟨rfl, hsz, hP, hK, hD0, hF9, hZ9⟩ := hv
  have hx := B.exec
  have hb := B.bytes
  have hr := B.returns
  have hts := atoms_spec (ws := wv_L_feed_2) B.pre
  have hown : s.vm.findClass RL = some m.cls := findClass_of_methodNamed B.named
  have hlocks := B.notSynchronized
  subst hsz
  have hD := hD0.self (sz := s.heap.size)
  generalize hAe : va_A [(h0, .inr (12, [.ref h1, .int 0, a2, a3, a4, a5, a6, a7, a8])), (h1, .inl (cT, 1500, .inl f1)), (ho, .inl (cO, 1, .inr (.inl fo)))] s.heap.size = A at hD hZ9 ⊢
  have hA : ∀ q : Nat, s.heap.size ≤ q → A q := fun q h => by rw [← hAe]; exact Or.inr h
  have hS : va_S A s.heap s.heap [] := va_S.rf
  have hP : va_P (dC, dI) vwCl [(h0, .inr (12, [.ref h1, .int 0, a2, a3, a4, a5, a6, a7, a8])), (h1, .inl (cT, 1500, .inl f1)), (ho, .inl (cO, 1, .inr (.inl fo)))] s.heap := hP
  have hl := lv_entry ([.ref h0, .long g1, .int 2, .ref ho]) (n := 6) (Nat.le_of_ble_eq_true rfl)
  rw [lg_entry_eq]
  generalize (lg_sl ([.ref h0, .long g1, .int 2, .ref ho]) ++ List.replicate (6 - (lg_sl ([.ref h0, .long g1, .int 2, .ref ho])).length) Slot.unset).toArray = ls at hl ⊢
  have hl : lv_has ls 6 [(0, .ref h0), (1, .long g1), (3, .int 2), (4, .ref ho)] := hl
  have htab : c.exceptionTable.toList = [⟨0, 11, 14, 13⟩, ⟨0, 11, 18, 15⟩] := vx_table (x := yL_feed) B (hts _ List.mem_cons_self)
  refine lv_aload hx hb dL_feed_2_0 (lv_at hl 3 rfl) ?_
  refine lv_iconst (v := 0) hx hb dL_feed_2_2 (by decide) ?_
  refine lv_aload_n hx hb dL_feed_2_3 rfl (lv_at hl 0 rfl) ?_
  refine lv_lload_n hx hb dL_feed_2_4 rfl (lv_at hl 1 rfl) ?_
  refine lv_iload_n hx hb dL_feed_2_5 rfl (lv_at hl 2 rfl) ?_
  have hPc := hP.sub (ws' := [(h0, .inr (12, [.ref h1, .int 0, a2, a3, a4, a5, a6, a7, a8])), (h1, .inl (cT, 1500, .inl f1))]) [0, 1] rfl
  have hDc := hD.sub (ws' := [(h0, .inr (12, [.ref h1, .int 0, a2, a3, a4, a5, a6, a7, a8])), (h1, .inl (cT, 1500, .inl f1))]) [0, 1] (by decide) rfl
  have hKc := hK.sub (tys' := [(cT, .byte)]) [0] rfl
  have hFc := va_free (wc := [(h0, .inr (12, [.ref h1, .int 0, a2, a3, a4, a5, a6, a7, a8])), (h1, .inl (cT, 1500, .inl f1))]) hD hS hA [0, 1] rfl
  have h_1 : 0 ≤ 0 := by decide
  have h_2 : 0 ≤ 0 := by decide
  refine va_calli (va_runV (As := [.long g1, .int 2]) (rest := [.int 0, .ref ho]) ⟨hx, hb, hml, hown, hts⟩ (r_X12_feed_2 l dC dI h0 h1 g1 cT f1 a2 a3 a4 a5 a6 a7 a8 _) (cwV 2 hts wV_L_feed_2_X12_feed_2_7 rfl rfl rfl (by decide +kernel) ⟨Nat.le_of_ble_eq_true rfl, Nat.le_of_ble_eq_true rfl⟩) ⟨fun a U g mk q => by obtain ⟨q0, q1, qP, qK, qD⟩ := q; exact ⟨q0, q1, qP, va_K.moved (u := U) (U := U.calling g mk a) (Vm.Alike.refl U.vm) qK, qD⟩, va_recv hKc hPc (ci := 12) (q0 := 0) rfl rfl, fun U hU hW => ⟨rfl, by rw [hU], by rw [hU]; exact hPc, va_K.moved hW.alike hKc, hDc.weaken (fun _ _ _ _ => trivial)⟩⟩ rfl rfl hl.1 rfl (lv_room (Nat.le_of_ble_eq_true rfl)) dL_feed_2_6 ⟨h_1, h_2⟩) hS (fun q _ h => hFc q h) hFc (fun y4 u3 t H1 locs ht hvm hw hB hz1 hk1 hS => ?_)
  obtain ⟨hP1, hK1, hD1⟩ := hB
  rw [ht] at hP1
  have hK1 := va_K.moved hvm.symm hK1
  obtain ⟨hP, hD⟩ := va_join (wr := [(ho, .inl (cO, 1, .inr (.inl fo)))]) (w1 := [(h0, .inr (12, [.ref h1, .int 2, a2, a3, a4, a5, a6, a7, a8]))]) hP hD [0, 1] [2] rfl rfl (by decide) (by decide) hk1 hFc hP1 hD1
  have hK := (hK.sub (tys' := [(cO, .long)]) [1] rfl).app hK1
  generalize H1 = H at hP hS ⊢
  have hP : va_P (dC, dI) vwCl [(ho, .inl (cO, 1, .inr (.inl fo))), (h0, .inr (12, [.ref h1, .int 2, a2, a3, a4, a5, a6, a7, a8]))] H := hP
  have hD : va_D A [(ho, .inl (cO, 1, .inr (.inl fo))), (h0, .inr (12, [.ref h1, .int 2, a2, a3, a4, a5, a6, a7, a8]))] := hD
  have hK : va_K (dC, dI) vwCl [(cO, .long)] s := hK
  refine W.widen (k := 0) (n := 0) (by decide) (by decide) ?_
  have hw : y4 = 2 := hw
  subst hw
  refine lv_i2l (v := 2) hx hb dL_feed_2_9 (by decide) ?_
  refine va_last hx hb hK hP hD hS 0 0 rfl rfl (by unfold vp_in; decide) dL_feed_2_10 (fun H locs hP hD hS => ?_)
  have hP : va_P (dC, dI) vwCl [(ho, .inl (cO, 1, .inr (.inl (vp_updL fo 0 2)))), (h0, .inr (12, [.ref h1, .int 2, a2, a3, a4, a5, a6, a7, a8]))] H := hP
  have hD : va_D A [(ho, .inl (cO, 1, .inr (.inl (vp_updL fo 0 2)))), (h0, .inr (12, [.ref h1, .int 2, a2, a3, a4, a5, a6, a7, a8]))] := hD
  refine lv_goto (tgt := 22) hx hb dL_feed_2_11 (by decide) ?_
  refine lv_iconst (v := 0) hx hb dL_feed_2_22 (by decide) ?_
  have hP9 := hP.sub (ws' := [(h0, .inr (12, [.ref h1, .int 2, a2, a3, a4, a5, a6, a7, a8])), (ho, .inl (cO, 1, .inr (.inl (vp_updL fo 0 2))))]) [1, 0] rfl
  have hD9 := hD.sub (ws' := [(h0, .inr (12, [.ref h1, .int 2, a2, a3, a4, a5, a6, a7, a8])), (ho, .inl (cO, 1, .inr (.inl (vp_updL fo 0 2))))]) [1, 0] (by decide) rfl
  have hK9 := hK.sub (tys' := [(cO, .long)]) [0] rfl
  refine W.widen (k := 0) (n := 0) (by decide) (by decide) ?_
  exact W.iret (v := 0) hx hb hr (fun t ht hW => ⟨⟨0, (), rfl, rfl, by rw [ht]; exact hP9, va_K.moved hW.alike hK9, hD9⟩, hS.F ht⟩) hS.2.2 dL_feed_2_23

abbrev ar_L_feed_3 (dC : Nat → ClassId) (dI : Nat → Nat → Nat) (A : Nat → Prop) (h0 h1 ho : Nat) (cT cO : ClassId) (f1 : Nat → Int32) (fo : Nat → Int64) (g1 : Int64) (a2 a3 a4 a5 a6 a7 a8 : Value) (_ : Unit) (t : State) : Prop := va_P (dC, dI) vwCl [(h0, .inr (12, [.ref h1, .int 3, a2, a3, a4, a5, a6, a7, a8])), (ho, .inl (cO, 1, .inr (.inl (vp_updL fo 0 3))))] t.heap ∧ va_K (dC, dI) vwCl [(cO, .long)] t ∧ va_D A [(h0, .inr (12, [.ref h1, .int 3, a2, a3, a4, a5, a6, a7, a8])), (ho, .inl (cO, 1, .inr (.inl (vp_updL fo 0 3))))]
theorem dL_feed_3_0 : decode cL_feed 0 = .ok (.aload 4, 2) := by decide +kernel
theorem dL_feed_3_2 : decode cL_feed 2 = .ok (.iconst 0, 1) := by decide +kernel
theorem dL_feed_3_3 : decode cL_feed 3 = .ok (.aload_n 0, 1) := by decide +kernel
theorem dL_feed_3_4 : decode cL_feed 4 = .ok (.lload_n 1, 1) := by decide +kernel
theorem dL_feed_3_5 : decode cL_feed 5 = .ok (.iload_n 3, 1) := by decide +kernel
theorem dL_feed_3_6 : decode cL_feed 6 = .ok (.invokevirtual 7, 3) := by decide +kernel
theorem dL_feed_3_9 : decode cL_feed 9 = .ok (.i2l, 1) := by decide +kernel
theorem dL_feed_3_10 : decode cL_feed 10 = .ok (.lastore, 1) := by decide +kernel
theorem dL_feed_3_11 : decode cL_feed 11 = .ok (.goto 11, 3) := by decide +kernel
theorem dL_feed_3_22 : decode cL_feed 22 = .ok (.iconst 0, 1) := by decide +kernel
theorem dL_feed_3_23 : decode cL_feed 23 = .ok (.ireturn, 1) := by decide +kernel
def ww_L_feed_3 : List Cond := [.initialized RX12, .methodLink RL 7 yX12_feed, .instanceMethod yX12_feed, .selects RX12 yX12_feed yX12_feed]
def wv_L_feed_3 : List Cond := .codeWith yL_feed cL_feed 6 (some .int) [(0, 11, 14, 13), (0, 11, 18, 15)] :: (ww_L_feed_3 ++ (wv_X12_feed_3 ++ []))
theorem wm_L_feed_3 {w : Cond} (i : Nat) (h : ww_L_feed_3[i]? = some w) : w ∈ wv_L_feed_3 := List.mem_cons_of_mem _ (List.mem_append_left _ (List.mem_of_getElem? h))
set_option maxRecDepth 100000 in
theorem gw_L_feed_3 : wv_L_feed_3.all goodWord = true := by decide +kernel
theorem wg_L_feed_3_X12_feed_3 : GoodIn wv_L_feed_3 wv_X12_feed_3 := goodIn_sub (fun w h => List.mem_cons_of_mem _ (List.mem_append_right _ (List.mem_append_left _ h))) gw_X12_feed_3
theorem wV_L_feed_3_X12_feed_3_7 : GoodIn wv_L_feed_3 (wsV RL 7 RX12 yX12_feed wv_X12_feed_3) := goodIn_app (goodIn_sub (fun w h => by simp only [List.mem_cons, List.not_mem_nil, or_false] at h; rcases h with rfl | rfl | rfl | rfl <;> first | exact wm_L_feed_3 1 rfl | exact wm_L_feed_3 2 rfl | exact wm_L_feed_3 3 rfl | exact wm_L_feed_3 0 rfl) (by decide +kernel)) wg_L_feed_3_X12_feed_3
set_option maxHeartbeats 4000000 in
set_option maxRecDepth 100000 in
/-- the law's feed on a fresh house -/
theorem r_L_feed_3 (l : Launch) (hl0 : l.stackTraces = false) (dC : Nat → ClassId) (dI : Nat → Nat → Nat) (h0 h1 ho : Nat) (cT cO : ClassId) (f1 : Nat → Int32) (fo : Nat → Int64) (g1 : Int64) (a2 a3 a4 a5 a6 a7 a8 : Value) (sz : Nat) : Met l yL_feed wv_L_feed_3 ({ frames := 1, cells := 0, slots := 0, locals := 24 }) (va_Pc [.ref h0, .long g1, .int 3, .ref ho] (fun U => U.heap.size = sz ∧ va_P (dC, dI) vwCl [(h0, .inr (12, [.ref h1, .int 0, a2, a3, a4, a5, a6, a7, a8])), (h1, .inl (cT, 1500, .inl f1)), (ho, .inl (cO, 1, .inr (.inl fo)))] U.heap ∧ va_K (dC, dI) vwCl [(cT, .byte), (cO, .long)] U ∧ va_D (fun _ => True) [(h0, .inr (12, [.ref h1, .int 0, a2, a3, a4, a5, a6, a7, a8])), (h1, .inl (cT, 1500, .inl f1)), (ho, .inl (cO, 1, .inr (.inl fo)))] ∧ xz_F U ∧ xz_Z (va_A [(h0, .inr (12, [.ref h1, .int 0, a2, a3, a4, a5, a6, a7, a8])), (h1, .inl (cT, 1500, .inl f1)), (ho, .inl (cO, 1, .inr (.inl fo)))] sz) U U.heap)) (va_Qi (fun r (_ : Unit) => r = 0) (ar_L_feed_3 dC dI (va_A [(h0, .inr (12, [.ref h1, .int 0, a2, a3, a4, a5, a6, a7, a8])), (h1, .inl (cT, 1500, .inl f1)), (ho, .inl (cO, 1, .inr (.inl fo)))] sz) h0 h1 ho cT cO f1 fo g1 a2 a3 a4 a5 a6 a7 a8) (va_A [(h0, .inr (12, [.ref h1, .int 0, a2, a3, a4, a5, a6, a7, a8])), (h1, .inl (cT, 1500, .inl f1)), (ho, .inl (cO, 1, .inr (.inl fo)))] sz)) 0 0 (va_A [(h0, .inr (12, [.ref h1, .int 0, a2, a3, a4, a5, a6, a7, a8])), (h1, .inl (cT, 1500, .inl f1)), (ho, .inl (cO, 1, .inr (.inl fo)))] sz) := by
  refine va_MetW (cc := cL_feed) (maxL := 6) (ret := (some .int)) (hh := [(0, 11, 14, 13), (0, 11, 18, 15)]) (by decide) rfl ?_
  intro p e s m args below meth c s₁ B hml hv
  obtain ⟨rfl, hsz, hP, hK, hD0, hF9, hZ9⟩ := hv
  have hx := B.exec
  have hb := B.bytes
  have hr := B.returns
  have hts := atoms_spec (ws := wv_L_feed_3) B.pre
  have hown : s.vm.findClass RL = some m.cls := findClass_of_methodNamed B.named
  have hlocks := B.notSynchronized
  subst hsz
  have hD := hD0.self (sz := s.heap.size)
  generalize hAe : va_A [(h0, .inr (12, [.ref h1, .int 0, a2, a3, a4, a5, a6, a7, a8])), (h1, .inl (cT, 1500, .inl f1)), (ho, .inl (cO, 1, .inr (.inl fo)))] s.heap.size = A at hD hZ9 ⊢
  have hA : ∀ q : Nat, s.heap.size ≤ q → A q := fun q h => by rw [← hAe]; exact Or.inr h
  have hS : va_S A s.heap s.heap [] := va_S.rf
  have hP : va_P (dC, dI) vwCl [(h0, .inr (12, [.ref h1, .int 0, a2, a3, a4, a5, a6, a7, a8])), (h1, .inl (cT, 1500, .inl f1)), (ho, .inl (cO, 1, .inr (.inl fo)))] s.heap := hP
  have hl := lv_entry ([.ref h0, .long g1, .int 3, .ref ho]) (n := 6) (Nat.le_of_ble_eq_true rfl)
  rw [lg_entry_eq]
  generalize (lg_sl ([.ref h0, .long g1, .int 3, .ref ho]) ++ List.replicate (6 - (lg_sl ([.ref h0, .long g1, .int 3, .ref ho])).length) Slot.unset).toArray = ls at hl ⊢
  have hl : lv_has ls 6 [(0, .ref h0), (1, .long g1), (3, .int 3), (4, .ref ho)] := hl
  have htab : c.exceptionTable.toList = [⟨0, 11, 14, 13⟩, ⟨0, 11, 18, 15⟩] := vx_table (x := yL_feed) B (hts _ List.mem_cons_self)
  refine lv_aload hx hb dL_feed_3_0 (lv_at hl 3 rfl) ?_
  refine lv_iconst (v := 0) hx hb dL_feed_3_2 (by decide) ?_
  refine lv_aload_n hx hb dL_feed_3_3 rfl (lv_at hl 0 rfl) ?_
  refine lv_lload_n hx hb dL_feed_3_4 rfl (lv_at hl 1 rfl) ?_
  refine lv_iload_n hx hb dL_feed_3_5 rfl (lv_at hl 2 rfl) ?_
  have hPc := hP.sub (ws' := [(h0, .inr (12, [.ref h1, .int 0, a2, a3, a4, a5, a6, a7, a8])), (h1, .inl (cT, 1500, .inl f1))]) [0, 1] rfl
  have hDc := hD.sub (ws' := [(h0, .inr (12, [.ref h1, .int 0, a2, a3, a4, a5, a6, a7, a8])), (h1, .inl (cT, 1500, .inl f1))]) [0, 1] (by decide) rfl
  have hKc := hK.sub (tys' := [(cT, .byte)]) [0] rfl
  have hFc := va_free (wc := [(h0, .inr (12, [.ref h1, .int 0, a2, a3, a4, a5, a6, a7, a8])), (h1, .inl (cT, 1500, .inl f1))]) hD hS hA [0, 1] rfl
  have h_1 : 0 ≤ 0 := by decide
  have h_2 : 0 ≤ 0 := by decide
  refine va_calli (va_runV (As := [.long g1, .int 3]) (rest := [.int 0, .ref ho]) ⟨hx, hb, hml, hown, hts⟩ (r_X12_feed_3 l dC dI h0 h1 g1 cT f1 a2 a3 a4 a5 a6 a7 a8 _) (cwV 2 hts wV_L_feed_3_X12_feed_3_7 rfl rfl rfl (by decide +kernel) ⟨Nat.le_of_ble_eq_true rfl, Nat.le_of_ble_eq_true rfl⟩) ⟨fun a U g mk q => by obtain ⟨q0, q1, qP, qK, qD⟩ := q; exact ⟨q0, q1, qP, va_K.moved (u := U) (U := U.calling g mk a) (Vm.Alike.refl U.vm) qK, qD⟩, va_recv hKc hPc (ci := 12) (q0 := 0) rfl rfl, fun U hU hW => ⟨rfl, by rw [hU], by rw [hU]; exact hPc, va_K.moved hW.alike hKc, hDc.weaken (fun _ _ _ _ => trivial)⟩⟩ rfl rfl hl.1 rfl (lv_room (Nat.le_of_ble_eq_true rfl)) dL_feed_3_6 ⟨h_1, h_2⟩) hS (fun q _ h => hFc q h) hFc (fun y4 u3 t H1 locs ht hvm hw hB hz1 hk1 hS => ?_)
  obtain ⟨hP1, hK1, hD1⟩ := hB
  rw [ht] at hP1
  have hK1 := va_K.moved hvm.symm hK1
  obtain ⟨hP, hD⟩ := va_join (wr := [(ho, .inl (cO, 1, .inr (.inl fo)))]) (w1 := [(h0, .inr (12, [.ref h1, .int 3, a2, a3, a4, a5, a6, a7, a8]))]) hP hD [0, 1] [2] rfl rfl (by decide) (by decide) hk1 hFc hP1 hD1
  have hK := (hK.sub (tys' := [(cO, .long)]) [1] rfl).app hK1
  generalize H1 = H at hP hS ⊢
  have hP : va_P (dC, dI) vwCl [(ho, .inl (cO, 1, .inr (.inl fo))), (h0, .inr (12, [.ref h1, .int 3, a2, a3, a4, a5, a6, a7, a8]))] H := hP
  have hD : va_D A [(ho, .inl (cO, 1, .inr (.inl fo))), (h0, .inr (12, [.ref h1, .int 3, a2, a3, a4, a5, a6, a7, a8]))] := hD
  have hK : va_K (dC, dI) vwCl [(cO, .long)] s := hK
  refine W.widen (k := 0) (n := 0) (by decide) (by decide) ?_
  have hw : y4 = 3 := hw
  subst hw
  refine lv_i2l (v := 3) hx hb dL_feed_3_9 (by decide) ?_
  refine va_last hx hb hK hP hD hS 0 0 rfl rfl (by unfold vp_in; decide) dL_feed_3_10 (fun H locs hP hD hS => ?_)
  have hP : va_P (dC, dI) vwCl [(ho, .inl (cO, 1, .inr (.inl (vp_updL fo 0 3)))), (h0, .inr (12, [.ref h1, .int 3, a2, a3, a4, a5, a6, a7, a8]))] H := hP
  have hD : va_D A [(ho, .inl (cO, 1, .inr (.inl (vp_updL fo 0 3)))), (h0, .inr (12, [.ref h1, .int 3, a2, a3, a4, a5, a6, a7, a8]))] := hD
  refine lv_goto (tgt := 22) hx hb dL_feed_3_11 (by decide) ?_
  refine lv_iconst (v := 0) hx hb dL_feed_3_22 (by decide) ?_
  have hP9 := hP.sub (ws' := [(h0, .inr (12, [.ref h1, .int 3, a2, a3, a4, a5, a6, a7, a8])), (ho, .inl (cO, 1, .inr (.inl (vp_updL fo 0 3))))]) [1, 0] rfl
  have hD9 := hD.sub (ws' := [(h0, .inr (12, [.ref h1, .int 3, a2, a3, a4, a5, a6, a7, a8])), (ho, .inl (cO, 1, .inr (.inl (vp_updL fo 0 3))))]) [1, 0] (by decide) rfl
  have hK9 := hK.sub (tys' := [(cO, .long)]) [0] rfl
  refine W.widen (k := 0) (n := 0) (by decide) (by decide) ?_
  exact W.iret (v := 0) hx hb hr (fun t ht hW => ⟨⟨0, (), rfl, rfl, by rw [ht]; exact hP9, va_K.moved hW.alike hK9, hD9⟩, hS.F ht⟩) hS.2.2 dL_feed_3_23

abbrev ar_L_feed_4 (dC : Nat → ClassId) (dI : Nat → Nat → Nat) (A : Nat → Prop) (h0 h1 ho : Nat) (cT cO : ClassId) (f1 : Nat → Int32) (fo : Nat → Int64) (g1 : Int64) (a2 a3 a4 a5 a6 a7 a8 : Value) (_ : Unit) (t : State) : Prop := va_P (dC, dI) vwCl [(h0, .inr (12, [.ref h1, .int 4, a2, a3, a4, a5, a6, a7, a8])), (ho, .inl (cO, 1, .inr (.inl (vp_updL fo 0 4))))] t.heap ∧ va_K (dC, dI) vwCl [(cO, .long)] t ∧ va_D A [(h0, .inr (12, [.ref h1, .int 4, a2, a3, a4, a5, a6, a7, a8])), (ho, .inl (cO, 1, .inr (.inl (vp_updL fo 0 4))))]
theorem dL_feed_4_0 : decode cL_feed 0 = .ok (.aload 4, 2) := by decide +kernel
theorem dL_feed_4_2 : decode cL_feed 2 = .ok (.iconst 0, 1) := by decide +kernel
theorem dL_feed_4_3 : decode cL_feed 3 = .ok (.aload_n 0, 1) := by decide +kernel
theorem dL_feed_4_4 : decode cL_feed 4 = .ok (.lload_n 1, 1) := by decide +kernel
theorem dL_feed_4_5 : decode cL_feed 5 = .ok (.iload_n 3, 1) := by decide +kernel
theorem dL_feed_4_6 : decode cL_feed 6 = .ok (.invokevirtual 7, 3) := by decide +kernel
theorem dL_feed_4_9 : decode cL_feed 9 = .ok (.i2l, 1) := by decide +kernel
theorem dL_feed_4_10 : decode cL_feed 10 = .ok (.lastore, 1) := by decide +kernel
theorem dL_feed_4_11 : decode cL_feed 11 = .ok (.goto 11, 3) := by decide +kernel
theorem dL_feed_4_22 : decode cL_feed 22 = .ok (.iconst 0, 1) := by decide +kernel
theorem dL_feed_4_23 : decode cL_feed 23 = .ok (.ireturn, 1) := by decide +kernel
def ww_L_feed_4 : List Cond := [.initialized RX12, .methodLink RL 7 yX12_feed, .instanceMethod yX12_feed, .selects RX12 yX12_feed yX12_feed]
def wv_L_feed_4 : List Cond := .codeWith yL_feed cL_feed 6 (some .int) [(0, 11, 14, 13), (0, 11, 18, 15)] :: (ww_L_feed_4 ++ (wv_X12_feed_4 ++ []))
theorem wm_L_feed_4 {w : Cond} (i : Nat) (h : ww_L_feed_4[i]? = some w) : w ∈ wv_L_feed_4 := List.mem_cons_of_mem _ (List.mem_append_left _ (List.mem_of_getElem? h))
set_option maxRecDepth 100000 in
theorem gw_L_feed_4 : wv_L_feed_4.all goodWord = true := by decide +kernel
theorem wg_L_feed_4_X12_feed_4 : GoodIn wv_L_feed_4 wv_X12_feed_4 := goodIn_sub (fun w h => List.mem_cons_of_mem _ (List.mem_append_right _ (List.mem_append_left _ h))) gw_X12_feed_4
theorem wV_L_feed_4_X12_feed_4_7 : GoodIn wv_L_feed_4 (wsV RL 7 RX12 yX12_feed wv_X12_feed_4) := goodIn_app (goodIn_sub (fun w h => by simp only [List.mem_cons, List.not_mem_nil, or_false] at h; rcases h with rfl | rfl | rfl | rfl <;> first | exact wm_L_feed_4 1 rfl | exact wm_L_feed_4 2 rfl | exact wm_L_feed_4 3 rfl | exact wm_L_feed_4 0 rfl) (by decide +kernel)) wg_L_feed_4_X12_feed_4
set_option maxHeartbeats 4000000 in
set_option maxRecDepth 100000 in
/-- the law's feed on a fresh house -/
theorem r_L_feed_4 (l : Launch) (hl0 : l.stackTraces = false) (dC : Nat → ClassId) (dI : Nat → Nat → Nat) (h0 h1 ho : Nat) (cT cO : ClassId) (f1 : Nat → Int32) (fo : Nat → Int64) (g1 : Int64) (a2 a3 a4 a5 a6 a7 a8 : Value) (sz : Nat) : Met l yL_feed wv_L_feed_4 ({ frames := 1, cells := 0, slots := 0, locals := 24 }) (va_Pc [.ref h0, .long g1, .int 4, .ref ho] (fun U => U.heap.size = sz ∧ va_P (dC, dI) vwCl [(h0, .inr (12, [.ref h1, .int 0, a2, a3, a4, a5, a6, a7, a8])), (h1, .inl (cT, 1500, .inl f1)), (ho, .inl (cO, 1, .inr (.inl fo)))] U.heap ∧ va_K (dC, dI) vwCl [(cT, .byte), (cO, .long)] U ∧ va_D (fun _ => True) [(h0, .inr (12, [.ref h1, .int 0, a2, a3, a4, a5, a6, a7, a8])), (h1, .inl (cT, 1500, .inl f1)), (ho, .inl (cO, 1, .inr (.inl fo)))] ∧ xz_F U ∧ xz_Z (va_A [(h0, .inr (12, [.ref h1, .int 0, a2, a3, a4, a5, a6, a7, a8])), (h1, .inl (cT, 1500, .inl f1)), (ho, .inl (cO, 1, .inr (.inl fo)))] sz) U U.heap)) (va_Qi (fun r (_ : Unit) => r = 0) (ar_L_feed_4 dC dI (va_A [(h0, .inr (12, [.ref h1, .int 0, a2, a3, a4, a5, a6, a7, a8])), (h1, .inl (cT, 1500, .inl f1)), (ho, .inl (cO, 1, .inr (.inl fo)))] sz) h0 h1 ho cT cO f1 fo g1 a2 a3 a4 a5 a6 a7 a8) (va_A [(h0, .inr (12, [.ref h1, .int 0, a2, a3, a4, a5, a6, a7, a8])), (h1, .inl (cT, 1500, .inl f1)), (ho, .inl (cO, 1, .inr (.inl fo)))] sz)) 0 0 (va_A [(h0, .inr (12, [.ref h1, .int 0, a2, a3, a4, a5, a6, a7, a8])), (h1, .inl (cT, 1500, .inl f1)), (ho, .inl (cO, 1, .inr (.inl fo)))] sz) := by
  refine va_MetW (cc := cL_feed) (maxL := 6) (ret := (some .int)) (hh := [(0, 11, 14, 13), (0, 11, 18, 15)]) (by decide) rfl ?_
  intro p e s m args below meth c s₁ B hml hv
  obtain ⟨rfl, hsz, hP, hK, hD0, hF9, hZ9⟩ := hv
  have hx := B.exec
  have hb := B.bytes
  have hr := B.returns
  have hts := atoms_spec (ws := wv_L_feed_4) B.pre
  have hown : s.vm.findClass RL = some m.cls := findClass_of_methodNamed B.named
  have hlocks := B.notSynchronized
  subst hsz
  have hD := hD0.self (sz := s.heap.size)
  generalize hAe : va_A [(h0, .inr (12, [.ref h1, .int 0, a2, a3, a4, a5, a6, a7, a8])), (h1, .inl (cT, 1500, .inl f1)), (ho, .inl (cO, 1, .inr (.inl fo)))] s.heap.size = A at hD hZ9 ⊢
  have hA : ∀ q : Nat, s.heap.size ≤ q → A q := fun q h => by rw [← hAe]; exact Or.inr h
  have hS : va_S A s.heap s.heap [] := va_S.rf
  have hP : va_P (dC, dI) vwCl [(h0, .inr (12, [.ref h1, .int 0, a2, a3, a4, a5, a6, a7, a8])), (h1, .inl (cT, 1500, .inl f1)), (ho, .inl (cO, 1, .inr (.inl fo)))] s.heap := hP
  have hl := lv_entry ([.ref h0, .long g1, .int 4, .ref ho]) (n := 6) (Nat.le_of_ble_eq_true rfl)
  rw [lg_entry_eq]
  generalize (lg_sl ([.ref h0, .long g1, .int 4, .ref ho]) ++ List.replicate (6 - (lg_sl ([.ref h0, .long g1, .int 4, .ref ho])).length) Slot.unset).toArray = ls at hl ⊢
  have hl : lv_has ls 6 [(0, .ref h0), (1, .long g1), (3, .int 4), (4, .ref ho)] := hl
  have htab : c.exceptionTable.toList = [⟨0, 11, 14, 13⟩, ⟨0, 11, 18, 15⟩] := vx_table (x := yL_feed) B (hts _ List.mem_cons_self)
  refine lv_aload hx hb dL_feed_4_0 (lv_at hl 3 rfl) ?_
  refine lv_iconst (v := 0) hx hb dL_feed_4_2 (by decide) ?_
  refine lv_aload_n hx hb dL_feed_4_3 rfl (lv_at hl 0 rfl) ?_
  refine lv_lload_n hx hb dL_feed_4_4 rfl (lv_at hl 1 rfl) ?_
  refine lv_iload_n hx hb dL_feed_4_5 rfl (lv_at hl 2 rfl) ?_
  have hPc := hP.sub (ws' := [(h0, .inr (12, [.ref h1, .int 0, a2, a3, a4, a5, a6, a7, a8])), (h1, .inl (cT, 1500, .inl f1))]) [0, 1] rfl
  have hDc := hD.sub (ws' := [(h0, .inr (12, [.ref h1, .int 0, a2, a3, a4, a5, a6, a7, a8])), (h1, .inl (cT, 1500, .inl f1))]) [0, 1] (by decide) rfl
  have hKc := hK.sub (tys' := [(cT, .byte)]) [0] rfl
  have hFc := va_free (wc := [(h0, .inr (12, [.ref h1, .int 0, a2, a3, a4, a5, a6, a7, a8])), (h1, .inl (cT, 1500, .inl f1))]) hD hS hA [0, 1] rfl
  have h_1 : 0 ≤ 0 := by decide
  have h_2 : 0 ≤ 0 := by decide
  refine va_calli (va_runV (As := [.long g1, .int 4]) (rest := [.int 0, .ref ho]) ⟨hx, hb, hml, hown, hts⟩ (r_X12_feed_4 l dC dI h0 h1 g1 cT f1 a2 a3 a4 a5 a6 a7 a8 _) (cwV 2 hts wV_L_feed_4_X12_feed_4_7 rfl rfl rfl (by decide +kernel) ⟨Nat.le_of_ble_eq_true rfl, Nat.le_of_ble_eq_true rfl⟩) ⟨fun a U g mk q => by obtain ⟨q0, q1, qP, qK, qD⟩ := q; exact ⟨q0, q1, qP, va_K.moved (u := U) (U := U.calling g mk a) (Vm.Alike.refl U.vm) qK, qD⟩, va_recv hKc hPc (ci := 12) (q0 := 0) rfl rfl, fun U hU hW => ⟨rfl, by rw [hU], by rw [hU]; exact hPc, va_K.moved hW.alike hKc, hDc.weaken (fun _ _ _ _ => trivial)⟩⟩ rfl rfl hl.1 rfl (lv_room (Nat.le_of_ble_eq_true rfl)) dL_feed_4_6 ⟨h_1, h_2⟩) hS (fun q _ h => hFc q h) hFc (fun y4 u3 t H1 locs ht hvm hw hB hz1 hk1 hS => ?_)
  obtain ⟨hP1, hK1, hD1⟩ := hB
  rw [ht] at hP1
  have hK1 := va_K.moved hvm.symm hK1
  obtain ⟨hP, hD⟩ := va_join (wr := [(ho, .inl (cO, 1, .inr (.inl fo)))]) (w1 := [(h0, .inr (12, [.ref h1, .int 4, a2, a3, a4, a5, a6, a7, a8]))]) hP hD [0, 1] [2] rfl rfl (by decide) (by decide) hk1 hFc hP1 hD1
  have hK := (hK.sub (tys' := [(cO, .long)]) [1] rfl).app hK1
  generalize H1 = H at hP hS ⊢
  have hP : va_P (dC, dI) vwCl [(ho, .inl (cO, 1, .inr (.inl fo))), (h0, .inr (12, [.ref h1, .int 4, a2, a3, a4, a5, a6, a7, a8]))] H := hP
  have hD : va_D A [(ho, .inl (cO, 1, .inr (.inl fo))), (h0, .inr (12, [.ref h1, .int 4, a2, a3, a4, a5, a6, a7, a8]))] := hD
  have hK : va_K (dC, dI) vwCl [(cO, .long)] s := hK
  refine W.widen (k := 0) (n := 0) (by decide) (by decide) ?_
  have hw : y4 = 4 := hw
  subst hw
  refine lv_i2l (v := 4) hx hb dL_feed_4_9 (by decide) ?_
  refine va_last hx hb hK hP hD hS 0 0 rfl rfl (by unfold vp_in; decide) dL_feed_4_10 (fun H locs hP hD hS => ?_)
  have hP : va_P (dC, dI) vwCl [(ho, .inl (cO, 1, .inr (.inl (vp_updL fo 0 4)))), (h0, .inr (12, [.ref h1, .int 4, a2, a3, a4, a5, a6, a7, a8]))] H := hP
  have hD : va_D A [(ho, .inl (cO, 1, .inr (.inl (vp_updL fo 0 4)))), (h0, .inr (12, [.ref h1, .int 4, a2, a3, a4, a5, a6, a7, a8]))] := hD
  refine lv_goto (tgt := 22) hx hb dL_feed_4_11 (by decide) ?_
  refine lv_iconst (v := 0) hx hb dL_feed_4_22 (by decide) ?_
  have hP9 := hP.sub (ws' := [(h0, .inr (12, [.ref h1, .int 4, a2, a3, a4, a5, a6, a7, a8])), (ho, .inl (cO, 1, .inr (.inl (vp_updL fo 0 4))))]) [1, 0] rfl
  have hD9 := hD.sub (ws' := [(h0, .inr (12, [.ref h1, .int 4, a2, a3, a4, a5, a6, a7, a8])), (ho, .inl (cO, 1, .inr (.inl (vp_updL fo 0 4))))]) [1, 0] (by decide) rfl
  have hK9 := hK.sub (tys' := [(cO, .long)]) [0] rfl
  refine W.widen (k := 0) (n := 0) (by decide) (by decide) ?_
  exact W.iret (v := 0) hx hb hr (fun t ht hW => ⟨⟨0, (), rfl, rfl, by rw [ht]; exact hP9, va_K.moved hW.alike hK9, hD9⟩, hS.F ht⟩) hS.2.2 dL_feed_4_23

abbrev ar_L_feed_5 (dC : Nat → ClassId) (dI : Nat → Nat → Nat) (A : Nat → Prop) (h0 h1 ho : Nat) (cT cO : ClassId) (f1 : Nat → Int32) (fo : Nat → Int64) (g1 : Int64) (a2 a3 a4 a5 a6 a7 a8 : Value) (_ : Unit) (t : State) : Prop := va_P (dC, dI) vwCl [(h0, .inr (12, [.ref h1, .int 5, a2, a3, a4, a5, a6, a7, a8])), (ho, .inl (cO, 1, .inr (.inl (vp_updL fo 0 5))))] t.heap ∧ va_K (dC, dI) vwCl [(cO, .long)] t ∧ va_D A [(h0, .inr (12, [.ref h1, .int 5, a2, a3, a4, a5, a6, a7, a8])), (ho, .inl (cO, 1, .inr (.inl (vp_updL fo 0 5))))]
theorem dL_feed_5_0 : decode cL_feed 0 = .ok (.aload 4, 2) := by decide +kernel
theorem dL_feed_5_2 : decode cL_feed 2 = .ok (.iconst 0, 1) := by decide +kernel
theorem dL_feed_5_3 : decode cL_feed 3 = .ok (.aload_n 0, 1) := by decide +kernel
theorem dL_feed_5_4 : decode cL_feed 4 = .ok (.lload_n 1, 1) := by decide +kernel
theorem dL_feed_5_5 : decode cL_feed 5 = .ok (.iload_n 3, 1) := by decide +kernel
theorem dL_feed_5_6 : decode cL_feed 6 = .ok (.invokevirtual 7, 3) := by decide +kernel
theorem dL_feed_5_9 : decode cL_feed 9 = .ok (.i2l, 1) := by decide +kernel
theorem dL_feed_5_10 : decode cL_feed 10 = .ok (.lastore, 1) := by decide +kernel
theorem dL_feed_5_11 : decode cL_feed 11 = .ok (.goto 11, 3) := by decide +kernel
theorem dL_feed_5_22 : decode cL_feed 22 = .ok (.iconst 0, 1) := by decide +kernel
theorem dL_feed_5_23 : decode cL_feed 23 = .ok (.ireturn, 1) := by decide +kernel
def ww_L_feed_5 : List Cond := [.initialized RX12, .methodLink RL 7 yX12_feed, .instanceMethod yX12_feed, .selects RX12 yX12_feed yX12_feed]
def wv_L_feed_5 : List Cond := .codeWith yL_feed cL_feed 6 (some .int) [(0, 11, 14, 13), (0, 11, 18, 15)] :: (ww_L_feed_5 ++ (wv_X12_feed_5 ++ []))
theorem wm_L_feed_5 {w : Cond} (i : Nat) (h : ww_L_feed_5[i]? = some w) : w ∈ wv_L_feed_5 := List.mem_cons_of_mem _ (List.mem_append_left _ (List.mem_of_getElem? h))
set_option maxRecDepth 100000 in
theorem gw_L_feed_5 : wv_L_feed_5.all goodWord = true := by decide +kernel
theorem wg_L_feed_5_X12_feed_5 : GoodIn wv_L_feed_5 wv_X12_feed_5 := goodIn_sub (fun w h => List.mem_cons_of_mem _ (List.mem_append_right _ (List.mem_append_left _ h))) gw_X12_feed_5
theorem wV_L_feed_5_X12_feed_5_7 : GoodIn wv_L_feed_5 (wsV RL 7 RX12 yX12_feed wv_X12_feed_5) := goodIn_app (goodIn_sub (fun w h => by simp only [List.mem_cons, List.not_mem_nil, or_false] at h; rcases h with rfl | rfl | rfl | rfl <;> first | exact wm_L_feed_5 1 rfl | exact wm_L_feed_5 2 rfl | exact wm_L_feed_5 3 rfl | exact wm_L_feed_5 0 rfl) (by decide +kernel)) wg_L_feed_5_X12_feed_5
set_option maxHeartbeats 4000000 in
set_option maxRecDepth 100000 in
/-- the law's feed on a fresh house -/
theorem r_L_feed_5 (l : Launch) (hl0 : l.stackTraces = false) (dC : Nat → ClassId) (dI : Nat → Nat → Nat) (h0 h1 ho : Nat) (cT cO : ClassId) (f1 : Nat → Int32) (fo : Nat → Int64) (g1 : Int64) (a2 a3 a4 a5 a6 a7 a8 : Value) (sz : Nat) : Met l yL_feed wv_L_feed_5 ({ frames := 1, cells := 0, slots := 0, locals := 24 }) (va_Pc [.ref h0, .long g1, .int 5, .ref ho] (fun U => U.heap.size = sz ∧ va_P (dC, dI) vwCl [(h0, .inr (12, [.ref h1, .int 0, a2, a3, a4, a5, a6, a7, a8])), (h1, .inl (cT, 1500, .inl f1)), (ho, .inl (cO, 1, .inr (.inl fo)))] U.heap ∧ va_K (dC, dI) vwCl [(cT, .byte), (cO, .long)] U ∧ va_D (fun _ => True) [(h0, .inr (12, [.ref h1, .int 0, a2, a3, a4, a5, a6, a7, a8])), (h1, .inl (cT, 1500, .inl f1)), (ho, .inl (cO, 1, .inr (.inl fo)))] ∧ xz_F U ∧ xz_Z (va_A [(h0, .inr (12, [.ref h1, .int 0, a2, a3, a4, a5, a6, a7, a8])), (h1, .inl (cT, 1500, .inl f1)), (ho, .inl (cO, 1, .inr (.inl fo)))] sz) U U.heap)) (va_Qi (fun r (_ : Unit) => r = 0) (ar_L_feed_5 dC dI (va_A [(h0, .inr (12, [.ref h1, .int 0, a2, a3, a4, a5, a6, a7, a8])), (h1, .inl (cT, 1500, .inl f1)), (ho, .inl (cO, 1, .inr (.inl fo)))] sz) h0 h1 ho cT cO f1 fo g1 a2 a3 a4 a5 a6 a7 a8) (va_A [(h0, .inr (12, [.ref h1, .int 0, a2, a3, a4, a5, a6, a7, a8])), (h1, .inl (cT, 1500, .inl f1)), (ho, .inl (cO, 1, .inr (.inl fo)))] sz)) 0 0 (va_A [(h0, .inr (12, [.ref h1, .int 0, a2, a3, a4, a5, a6, a7, a8])), (h1, .inl (cT, 1500, .inl f1)), (ho, .inl (cO, 1, .inr (.inl fo)))] sz) := by
  refine va_MetW (cc := cL_feed) (maxL := 6) (ret := (some .int)) (hh := [(0, 11, 14, 13), (0, 11, 18, 15)]) (by decide) rfl ?_
  intro p e s m args below meth c s₁ B hml hv
  obtain ⟨rfl, hsz, hP, hK, hD0, hF9, hZ9⟩ := hv
  have hx := B.exec
  have hb := B.bytes
  have hr := B.returns
  have hts := atoms_spec (ws := wv_L_feed_5) B.pre
  have hown : s.vm.findClass RL = some m.cls := findClass_of_methodNamed B.named
  have hlocks := B.notSynchronized
  subst hsz
  have hD := hD0.self (sz := s.heap.size)
  generalize hAe : va_A [(h0, .inr (12, [.ref h1, .int 0, a2, a3, a4, a5, a6, a7, a8])), (h1, .inl (cT, 1500, .inl f1)), (ho, .inl (cO, 1, .inr (.inl fo)))] s.heap.size = A at hD hZ9 ⊢
  have hA : ∀ q : Nat, s.heap.size ≤ q → A q := fun q h => by rw [← hAe]; exact Or.inr h
  have hS : va_S A s.heap s.heap [] := va_S.rf
  have hP : va_P (dC, dI) vwCl [(h0, .inr (12, [.ref h1, .int 0, a2, a3, a4, a5, a6, a7, a8])), (h1, .inl (cT, 1500, .inl f1)), (ho, .inl (cO, 1, .inr (.inl fo)))] s.heap := hP
  have hl := lv_entry ([.ref h0, .long g1, .int 5, .ref ho]) (n := 6) (Nat.le_of_ble_eq_true rfl)
  rw [lg_entry_eq]
  generalize (lg_sl ([.ref h0, .long g1, .int 5, .ref ho]) ++ List.replicate (6 - (lg_sl ([.ref h0, .long g1, .int 5, .ref ho])).length) Slot.unset).toArray = ls at hl ⊢
  have hl : lv_has ls 6 [(0, .ref h0), (1, .long g1), (3, .int 5), (4, .ref ho)] := hl
  have htab : c.exceptionTable.toList = [⟨0, 11, 14, 13⟩, ⟨0, 11, 18, 15⟩] := vx_table (x := yL_feed) B (hts _ List.mem_cons_self)
  refine lv_aload hx hb dL_feed_5_0 (lv_at hl 3 rfl) ?_
  refine lv_iconst (v := 0) hx hb dL_feed_5_2 (by decide) ?_
  refine lv_aload_n hx hb dL_feed_5_3 rfl (lv_at hl 0 rfl) ?_
  refine lv_lload_n hx hb dL_feed_5_4 rfl (lv_at hl 1 rfl) ?_
  refine lv_iload_n hx hb dL_feed_5_5 rfl (lv_at hl 2 rfl) ?_
  have hPc := hP.sub (ws' := [(h0, .inr (12, [.ref h1, .int 0, a2, a3, a4, a5, a6, a7, a8])), (h1, .inl (cT, 1500, .inl f1))]) [0, 1] rfl
  have hDc := hD.sub (ws' := [(h0, .inr (12, [.ref h1, .int 0, a2, a3, a4, a5, a6, a7, a8])), (h1, .inl (cT, 1500, .inl f1))]) [0, 1] (by decide) rfl
  have hKc := hK.sub (tys' := [(cT, .byte)]) [0] rfl
  have hFc := va_free (wc := [(h0, .inr (12, [.ref h1, .int 0, a2, a3, a4, a5, a6, a7, a8])), (h1, .inl (cT, 1500, .inl f1))]) hD hS hA [0, 1] rfl
  have h_1 : 0 ≤ 0 := by decide
  have h_2 : 0 ≤ 0 := by decide
  refine va_calli (va_runV (As := [.long g1, .int 5]) (rest := [.int 0, .ref ho]) ⟨hx, hb, hml, hown, hts⟩ (r_X12_feed_5 l dC dI h0 h1 g1 cT f1 a2 a3 a4 a5 a6 a7 a8 _) (cwV 2 hts wV_L_feed_5_X12_feed_5_7 rfl rfl rfl (by decide +kernel) ⟨Nat.le_of_ble_eq_true rfl, Nat.le_of_ble_eq_true rfl⟩) ⟨fun a U g mk q => by obtain ⟨q0, q1, qP, qK, qD⟩ := q; exact ⟨q0, q1, qP, va_K.moved (u := U) (U := U.calling g mk a) (Vm.Alike.refl U.vm) qK, qD⟩, va_recv hKc hPc (ci := 12) (q0 := 0) rfl rfl, fun U hU hW => ⟨rfl, by rw [hU], by rw [hU]; exact hPc, va_K.moved hW.alike hKc, hDc.weaken (fun _ _ _ _ => trivial)⟩⟩ rfl rfl hl.1 rfl (lv_room (Nat.le_of_ble_eq_true rfl)) dL_feed_5_6 ⟨h_1, h_2⟩) hS (fun q _ h => hFc q h) hFc (fun y4 u3 t H1 locs ht hvm hw hB hz1 hk1 hS => ?_)
  obtain ⟨hP1, hK1, hD1⟩ := hB
  rw [ht] at hP1
  have hK1 := va_K.moved hvm.symm hK1
  obtain ⟨hP, hD⟩ := va_join (wr := [(ho, .inl (cO, 1, .inr (.inl fo)))]) (w1 := [(h0, .inr (12, [.ref h1, .int 5, a2, a3, a4, a5, a6, a7, a8]))]) hP hD [0, 1] [2] rfl rfl (by decide) (by decide) hk1 hFc hP1 hD1
  have hK := (hK.sub (tys' := [(cO, .long)]) [1] rfl).app hK1
  generalize H1 = H at hP hS ⊢
  have hP : va_P (dC, dI) vwCl [(ho, .inl (cO, 1, .inr (.inl fo))), (h0, .inr (12, [.ref h1, .int 5, a2, a3, a4, a5, a6, a7, a8]))] H := hP
  have hD : va_D A [(ho, .inl (cO, 1, .inr (.inl fo))), (h0, .inr (12, [.ref h1, .int 5, a2, a3, a4, a5, a6, a7, a8]))] := hD
  have hK : va_K (dC, dI) vwCl [(cO, .long)] s := hK
  refine W.widen (k := 0) (n := 0) (by decide) (by decide) ?_
  have hw : y4 = 5 := hw
  subst hw
  refine lv_i2l (v := 5) hx hb dL_feed_5_9 (by decide) ?_
  refine va_last hx hb hK hP hD hS 0 0 rfl rfl (by unfold vp_in; decide) dL_feed_5_10 (fun H locs hP hD hS => ?_)
  have hP : va_P (dC, dI) vwCl [(ho, .inl (cO, 1, .inr (.inl (vp_updL fo 0 5)))), (h0, .inr (12, [.ref h1, .int 5, a2, a3, a4, a5, a6, a7, a8]))] H := hP
  have hD : va_D A [(ho, .inl (cO, 1, .inr (.inl (vp_updL fo 0 5)))), (h0, .inr (12, [.ref h1, .int 5, a2, a3, a4, a5, a6, a7, a8]))] := hD
  refine lv_goto (tgt := 22) hx hb dL_feed_5_11 (by decide) ?_
  refine lv_iconst (v := 0) hx hb dL_feed_5_22 (by decide) ?_
  have hP9 := hP.sub (ws' := [(h0, .inr (12, [.ref h1, .int 5, a2, a3, a4, a5, a6, a7, a8])), (ho, .inl (cO, 1, .inr (.inl (vp_updL fo 0 5))))]) [1, 0] rfl
  have hD9 := hD.sub (ws' := [(h0, .inr (12, [.ref h1, .int 5, a2, a3, a4, a5, a6, a7, a8])), (ho, .inl (cO, 1, .inr (.inl (vp_updL fo 0 5))))]) [1, 0] (by decide) rfl
  have hK9 := hK.sub (tys' := [(cO, .long)]) [0] rfl
  refine W.widen (k := 0) (n := 0) (by decide) (by decide) ?_
  exact W.iret (v := 0) hx hb hr (fun t ht hW => ⟨⟨0, (), rfl, rfl, by rw [ht]; exact hP9, va_K.moved hW.alike hK9, hD9⟩, hS.F ht⟩) hS.2.2 dL_feed_5_23

abbrev ar_L_feed_6 (dC : Nat → ClassId) (dI : Nat → Nat → Nat) (A : Nat → Prop) (h0 h1 ho : Nat) (cT cO : ClassId) (f1 : Nat → Int32) (fo : Nat → Int64) (g1 : Int64) (a2 a3 a4 a5 a6 a7 a8 : Value) (_ : Unit) (t : State) : Prop := va_P (dC, dI) vwCl [(h0, .inr (12, [.ref h1, .int 6, a2, a3, a4, a5, a6, a7, a8])), (ho, .inl (cO, 1, .inr (.inl (vp_updL fo 0 6))))] t.heap ∧ va_K (dC, dI) vwCl [(cO, .long)] t ∧ va_D A [(h0, .inr (12, [.ref h1, .int 6, a2, a3, a4, a5, a6, a7, a8])), (ho, .inl (cO, 1, .inr (.inl (vp_updL fo 0 6))))]
theorem dL_feed_6_0 : decode cL_feed 0 = .ok (.aload 4, 2) := by decide +kernel
theorem dL_feed_6_2 : decode cL_feed 2 = .ok (.iconst 0, 1) := by decide +kernel
theorem dL_feed_6_3 : decode cL_feed 3 = .ok (.aload_n 0, 1) := by decide +kernel
theorem dL_feed_6_4 : decode cL_feed 4 = .ok (.lload_n 1, 1) := by decide +kernel
theorem dL_feed_6_5 : decode cL_feed 5 = .ok (.iload_n 3, 1) := by decide +kernel
theorem dL_feed_6_6 : decode cL_feed 6 = .ok (.invokevirtual 7, 3) := by decide +kernel
theorem dL_feed_6_9 : decode cL_feed 9 = .ok (.i2l, 1) := by decide +kernel
theorem dL_feed_6_10 : decode cL_feed 10 = .ok (.lastore, 1) := by decide +kernel
theorem dL_feed_6_11 : decode cL_feed 11 = .ok (.goto 11, 3) := by decide +kernel
theorem dL_feed_6_22 : decode cL_feed 22 = .ok (.iconst 0, 1) := by decide +kernel
theorem dL_feed_6_23 : decode cL_feed 23 = .ok (.ireturn, 1) := by decide +kernel
def ww_L_feed_6 : List Cond := [.initialized RX12, .methodLink RL 7 yX12_feed, .instanceMethod yX12_feed, .selects RX12 yX12_feed yX12_feed]
def wv_L_feed_6 : List Cond := .codeWith yL_feed cL_feed 6 (some .int) [(0, 11, 14, 13), (0, 11, 18, 15)] :: (ww_L_feed_6 ++ (wv_X12_feed_6 ++ []))
theorem wm_L_feed_6 {w : Cond} (i : Nat) (h : ww_L_feed_6[i]? = some w) : w ∈ wv_L_feed_6 := List.mem_cons_of_mem _ (List.mem_append_left _ (List.mem_of_getElem? h))
set_option maxRecDepth 100000 in
theorem gw_L_feed_6 : wv_L_feed_6.all goodWord = true := by decide +kernel
theorem wg_L_feed_6_X12_feed_6 : GoodIn wv_L_feed_6 wv_X12_feed_6 := goodIn_sub (fun w h => List.mem_cons_of_mem _ (List.mem_append_right _ (List.mem_append_left _ h))) gw_X12_feed_6
theorem wV_L_feed_6_X12_feed_6_7 : GoodIn wv_L_feed_6 (wsV RL 7 RX12 yX12_feed wv_X12_feed_6) := goodIn_app (goodIn_sub (fun w h => by simp only [List.mem_cons, List.not_mem_nil, or_false] at h; rcases h with rfl | rfl | rfl | rfl <;> first | exact wm_L_feed_6 1 rfl | exact wm_L_feed_6 2 rfl | exact wm_L_feed_6 3 rfl | exact wm_L_feed_6 0 rfl) (by decide +kernel)) wg_L_feed_6_X12_feed_6
set_option maxHeartbeats 4000000 in
set_option maxRecDepth 100000 in
/-- the law's feed on a fresh house -/
theorem r_L_feed_6 (l : Launch) (hl0 : l.stackTraces = false) (dC : Nat → ClassId) (dI : Nat → Nat → Nat) (h0 h1 ho : Nat) (cT cO : ClassId) (f1 : Nat → Int32) (fo : Nat → Int64) (g1 : Int64) (a2 a3 a4 a5 a6 a7 a8 : Value) (sz : Nat) : Met l yL_feed wv_L_feed_6 ({ frames := 1, cells := 0, slots := 0, locals := 24 }) (va_Pc [.ref h0, .long g1, .int 6, .ref ho] (fun U => U.heap.size = sz ∧ va_P (dC, dI) vwCl [(h0, .inr (12, [.ref h1, .int 0, a2, a3, a4, a5, a6, a7, a8])), (h1, .inl (cT, 1500, .inl f1)), (ho, .inl (cO, 1, .inr (.inl fo)))] U.heap ∧ va_K (dC, dI) vwCl [(cT, .byte), (cO, .long)] U ∧ va_D (fun _ => True) [(h0, .inr (12, [.ref h1, .int 0, a2, a3, a4, a5, a6, a7, a8])), (h1, .inl (cT, 1500, .inl f1)), (ho, .inl (cO, 1, .inr (.inl fo)))] ∧ xz_F U ∧ xz_Z (va_A [(h0, .inr (12, [.ref h1, .int 0, a2, a3, a4, a5, a6, a7, a8])), (h1, .inl (cT, 1500, .inl f1)), (ho, .inl (cO, 1, .inr (.inl fo)))] sz) U U.heap)) (va_Qi (fun r (_ : Unit) => r = 0) (ar_L_feed_6 dC dI (va_A [(h0, .inr (12, [.ref h1, .int 0, a2, a3, a4, a5, a6, a7, a8])), (h1, .inl (cT, 1500, .inl f1)), (ho, .inl (cO, 1, .inr (.inl fo)))] sz) h0 h1 ho cT cO f1 fo g1 a2 a3 a4 a5 a6 a7 a8) (va_A [(h0, .inr (12, [.ref h1, .int 0, a2, a3, a4, a5, a6, a7, a8])), (h1, .inl (cT, 1500, .inl f1)), (ho, .inl (cO, 1, .inr (.inl fo)))] sz)) 0 0 (va_A [(h0, .inr (12, [.ref h1, .int 0, a2, a3, a4, a5, a6, a7, a8])), (h1, .inl (cT, 1500, .inl f1)), (ho, .inl (cO, 1, .inr (.inl fo)))] sz) := by
  refine va_MetW (cc := cL_feed) (maxL := 6) (ret := (some .int)) (hh := [(0, 11, 14, 13), (0, 11, 18, 15)]) (by decide) rfl ?_
  intro p e s m args below meth c s₁ B hml hv
  obtain ⟨rfl, hsz, hP, hK, hD0, hF9, hZ9⟩ := hv
  have hx := B.exec
  have hb := B.bytes
  have hr := B.returns
  have hts := atoms_spec (ws := wv_L_feed_6) B.pre
  have hown : s.vm.findClass RL = some m.cls := findClass_of_methodNamed B.named
  have hlocks := B.notSynchronized
  subst hsz
  have hD := hD0.self (sz := s.heap.size)
  generalize hAe : va_A [(h0, .inr (12, [.ref h1, .int 0, a2, a3, a4, a5, a6, a7, a8])), (h1, .inl (cT, 1500, .inl f1)), (ho, .inl (cO, 1, .inr (.inl fo)))] s.heap.size = A at hD hZ9 ⊢
  have hA : ∀ q : Nat, s.heap.size ≤ q → A q := fun q h => by rw [← hAe]; exact Or.inr h
  have hS : va_S A s.heap s.heap [] := va_S.rf
  have hP : va_P (dC, dI) vwCl [(h0, .inr (12, [.ref h1, .int 0, a2, a3, a4, a5, a6, a7, a8])), (h1, .inl (cT, 1500, .inl f1)), (ho, .inl (cO, 1, .inr (.inl fo)))] s.heap := hP
  have hl := lv_entry ([.ref h0, .long g1, .int 6, .ref ho]) (n := 6) (Nat.le_of_ble_eq_true rfl)
  rw [lg_entry_eq]
  generalize (lg_sl ([.ref h0, .long g1, .int 6, .ref ho]) ++ List.replicate (6 - (lg_sl ([.ref h0, .long g1, .int 6, .ref ho])).length) Slot.unset).toArray = ls at hl ⊢
  have hl : lv_has ls 6 [(0, .ref h0), (1, .long g1), (3, .int 6), (4, .ref ho)] := hl
  have htab : c.exceptionTable.toList = [⟨0, 11, 14, 13⟩, ⟨0, 11, 18, 15⟩] := vx_table (x := yL_feed) B (hts _ List.mem_cons_self)
  refine lv_aload hx hb dL_feed_6_0 (lv_at hl 3 rfl) ?_
  refine lv_iconst (v := 0) hx hb dL_feed_6_2 (by decide) ?_
  refine lv_aload_n hx hb dL_feed_6_3 rfl (lv_at hl 0 rfl) ?_
  refine lv_lload_n hx hb dL_feed_6_4 rfl (lv_at hl 1 rfl) ?_
  refine lv_iload_n hx hb dL_feed_6_5 rfl (lv_at hl 2 rfl) ?_
  have hPc := hP.sub (ws' := [(h0, .inr (12, [.ref h1, .int 0, a2, a3, a4, a5, a6, a7, a8])), (h1, .inl (cT, 1500, .inl f1))]) [0, 1] rfl
  have hDc := hD.sub (ws' := [(h0, .inr (12, [.ref h1, .int 0, a2, a3, a4, a5, a6, a7, a8])), (h1, .inl (cT, 1500, .inl f1))]) [0, 1] (by decide) rfl
  have hKc := hK.sub (tys' := [(cT, .byte)]) [0] rfl
  have hFc := va_free (wc := [(h0, .inr (12, [.ref h1, .int 0, a2, a3, a4, a5, a6, a7, a8])), (h1, .inl (cT, 1500, .inl f1))]) hD hS hA [0, 1] rfl
  have h_1 : 0 ≤ 0 := by decide
  have h_2 : 0 ≤ 0 := by decide
  refine va_calli (va_runV (As := [.long g1, .int 6]) (rest := [.int 0, .ref ho]) ⟨hx, hb, hml, hown, hts⟩ (r_X12_feed_6 l dC dI h0 h1 g1 cT f1 a2 a3 a4 a5 a6 a7 a8 _) (cwV 2 hts wV_L_feed_6_X12_feed_6_7 rfl rfl rfl (by decide +kernel) ⟨Nat.le_of_ble_eq_true rfl, Nat.le_of_ble_eq_true rfl⟩) ⟨fun a U g mk q => by obtain ⟨q0, q1, qP, qK, qD⟩ := q; exact ⟨q0, q1, qP, va_K.moved (u := U) (U := U.calling g mk a) (Vm.Alike.refl U.vm) qK, qD⟩, va_recv hKc hPc (ci := 12) (q0 := 0) rfl rfl, fun U hU hW => ⟨rfl, by rw [hU], by rw [hU]; exact hPc, va_K.moved hW.alike hKc, hDc.weaken (fun _ _ _ _ => trivial)⟩⟩ rfl rfl hl.1 rfl (lv_room (Nat.le_of_ble_eq_true rfl)) dL_feed_6_6 ⟨h_1, h_2⟩) hS (fun q _ h => hFc q h) hFc (fun y4 u3 t H1 locs ht hvm hw hB hz1 hk1 hS => ?_)
  obtain ⟨hP1, hK1, hD1⟩ := hB
  rw [ht] at hP1
  have hK1 := va_K.moved hvm.symm hK1
  obtain ⟨hP, hD⟩ := va_join (wr := [(ho, .inl (cO, 1, .inr (.inl fo)))]) (w1 := [(h0, .inr (12, [.ref h1, .int 6, a2, a3, a4, a5, a6, a7, a8]))]) hP hD [0, 1] [2] rfl rfl (by decide) (by decide) hk1 hFc hP1 hD1
  have hK := (hK.sub (tys' := [(cO, .long)]) [1] rfl).app hK1
  generalize H1 = H at hP hS ⊢
  have hP : va_P (dC, dI) vwCl [(ho, .inl (cO, 1, .inr (.inl fo))), (h0, .inr (12, [.ref h1, .int 6, a2, a3, a4, a5, a6, a7, a8]))] H := hP
  have hD : va_D A [(ho, .inl (cO, 1, .inr (.inl fo))), (h0, .inr (12, [.ref h1, .int 6, a2, a3, a4, a5, a6, a7, a8]))] := hD
  have hK : va_K (dC, dI) vwCl [(cO, .long)] s := hK
  refine W.widen (k := 0) (n := 0) (by decide) (by decide) ?_
  have hw : y4 = 6 := hw
  subst hw
  refine lv_i2l (v := 6) hx hb dL_feed_6_9 (by decide) ?_
  refine va_last hx hb hK hP hD hS 0 0 rfl rfl (by unfold vp_in; decide) dL_feed_6_10 (fun H locs hP hD hS => ?_)
  have hP : va_P (dC, dI) vwCl [(ho, .inl (cO, 1, .inr (.inl (vp_updL fo 0 6)))), (h0, .inr (12, [.ref h1, .int 6, a2, a3, a4, a5, a6, a7, a8]))] H := hP
  have hD : va_D A [(ho, .inl (cO, 1, .inr (.inl (vp_updL fo 0 6)))), (h0, .inr (12, [.ref h1, .int 6, a2, a3, a4, a5, a6, a7, a8]))] := hD
  refine lv_goto (tgt := 22) hx hb dL_feed_6_11 (by decide) ?_
  refine lv_iconst (v := 0) hx hb dL_feed_6_22 (by decide) ?_
  have hP9 := hP.sub (ws' := [(h0, .inr (12, [.ref h1, .int 6, a2, a3, a4, a5, a6, a7, a8])), (ho, .inl (cO, 1, .inr (.inl (vp_updL fo 0 6))))]) [1, 0] rfl
  have hD9 := hD.sub (ws' := [(h0, .inr (12, [.ref h1, .int 6, a2, a3, a4, a5, a6, a7, a8])), (ho, .inl (cO, 1, .inr (.inl (vp_updL fo 0 6))))]) [1, 0] (by decide) rfl
  have hK9 := hK.sub (tys' := [(cO, .long)]) [0] rfl
  refine W.widen (k := 0) (n := 0) (by decide) (by decide) ?_
  exact W.iret (v := 0) hx hb hr (fun t ht hW => ⟨⟨0, (), rfl, rfl, by rw [ht]; exact hP9, va_K.moved hW.alike hK9, hD9⟩, hS.F ht⟩) hS.2.2 dL_feed_6_23

abbrev ar_L_feed_7 (dC : Nat → ClassId) (dI : Nat → Nat → Nat) (A : Nat → Prop) (h0 h1 ho : Nat) (cT cO : ClassId) (f1 : Nat → Int32) (fo : Nat → Int64) (g1 : Int64) (a2 a3 a4 a5 a6 a7 a8 : Value) (_ : Unit) (t : State) : Prop := va_P (dC, dI) vwCl [(h0, .inr (12, [.ref h1, .int 7, a2, a3, a4, a5, a6, a7, a8])), (ho, .inl (cO, 1, .inr (.inl (vp_updL fo 0 7))))] t.heap ∧ va_K (dC, dI) vwCl [(cO, .long)] t ∧ va_D A [(h0, .inr (12, [.ref h1, .int 7, a2, a3, a4, a5, a6, a7, a8])), (ho, .inl (cO, 1, .inr (.inl (vp_updL fo 0 7))))]
theorem dL_feed_7_0 : decode cL_feed 0 = .ok (.aload 4, 2) := by decide +kernel
theorem dL_feed_7_2 : decode cL_feed 2 = .ok (.iconst 0, 1) := by decide +kernel
theorem dL_feed_7_3 : decode cL_feed 3 = .ok (.aload_n 0, 1) := by decide +kernel
theorem dL_feed_7_4 : decode cL_feed 4 = .ok (.lload_n 1, 1) := by decide +kernel
theorem dL_feed_7_5 : decode cL_feed 5 = .ok (.iload_n 3, 1) := by decide +kernel
theorem dL_feed_7_6 : decode cL_feed 6 = .ok (.invokevirtual 7, 3) := by decide +kernel
theorem dL_feed_7_9 : decode cL_feed 9 = .ok (.i2l, 1) := by decide +kernel
theorem dL_feed_7_10 : decode cL_feed 10 = .ok (.lastore, 1) := by decide +kernel
theorem dL_feed_7_11 : decode cL_feed 11 = .ok (.goto 11, 3) := by decide +kernel
theorem dL_feed_7_22 : decode cL_feed 22 = .ok (.iconst 0, 1) := by decide +kernel
theorem dL_feed_7_23 : decode cL_feed 23 = .ok (.ireturn, 1) := by decide +kernel
def ww_L_feed_7 : List Cond := [.initialized RX12, .methodLink RL 7 yX12_feed, .instanceMethod yX12_feed, .selects RX12 yX12_feed yX12_feed]
def wv_L_feed_7 : List Cond := .codeWith yL_feed cL_feed 6 (some .int) [(0, 11, 14, 13), (0, 11, 18, 15)] :: (ww_L_feed_7 ++ (wv_X12_feed_7 ++ []))
theorem wm_L_feed_7 {w : Cond} (i : Nat) (h : ww_L_feed_7[i]? = some w) : w ∈ wv_L_feed_7 := List.mem_cons_of_mem _ (List.mem_append_left _ (List.mem_of_getElem? h))
set_option maxRecDepth 100000 in
theorem gw_L_feed_7 : wv_L_feed_7.all goodWord = true := by decide +kernel
theorem wg_L_feed_7_X12_feed_7 : GoodIn wv_L_feed_7 wv_X12_feed_7 := goodIn_sub (fun w h => List.mem_cons_of_mem _ (List.mem_append_right _ (List.mem_append_left _ h))) gw_X12_feed_7
theorem wV_L_feed_7_X12_feed_7_7 : GoodIn wv_L_feed_7 (wsV RL 7 RX12 yX12_feed wv_X12_feed_7) := goodIn_app (goodIn_sub (fun w h => by simp only [List.mem_cons, List.not_mem_nil, or_false] at h; rcases h with rfl | rfl | rfl | rfl <;> first | exact wm_L_feed_7 1 rfl | exact wm_L_feed_7 2 rfl | exact wm_L_feed_7 3 rfl | exact wm_L_feed_7 0 rfl) (by decide +kernel)) wg_L_feed_7_X12_feed_7
set_option maxHeartbeats 4000000 in
set_option maxRecDepth 100000 in
/-- the law's feed on a fresh house -/
theorem r_L_feed_7 (l : Launch) (hl0 : l.stackTraces = false) (dC : Nat → ClassId) (dI : Nat → Nat → Nat) (h0 h1 ho : Nat) (cT cO : ClassId) (f1 : Nat → Int32) (fo : Nat → Int64) (g1 : Int64) (a2 a3 a4 a5 a6 a7 a8 : Value) (sz : Nat) : Met l yL_feed wv_L_feed_7 ({ frames := 1, cells := 0, slots := 0, locals := 24 }) (va_Pc [.ref h0, .long g1, .int 7, .ref ho] (fun U => U.heap.size = sz ∧ va_P (dC, dI) vwCl [(h0, .inr (12, [.ref h1, .int 0, a2, a3, a4, a5, a6, a7, a8])), (h1, .inl (cT, 1500, .inl f1)), (ho, .inl (cO, 1, .inr (.inl fo)))] U.heap ∧ va_K (dC, dI) vwCl [(cT, .byte), (cO, .long)] U ∧ va_D (fun _ => True) [(h0, .inr (12, [.ref h1, .int 0, a2, a3, a4, a5, a6, a7, a8])), (h1, .inl (cT, 1500, .inl f1)), (ho, .inl (cO, 1, .inr (.inl fo)))] ∧ xz_F U ∧ xz_Z (va_A [(h0, .inr (12, [.ref h1, .int 0, a2, a3, a4, a5, a6, a7, a8])), (h1, .inl (cT, 1500, .inl f1)), (ho, .inl (cO, 1, .inr (.inl fo)))] sz) U U.heap)) (va_Qi (fun r (_ : Unit) => r = 0) (ar_L_feed_7 dC dI (va_A [(h0, .inr (12, [.ref h1, .int 0, a2, a3, a4, a5, a6, a7, a8])), (h1, .inl (cT, 1500, .inl f1)), (ho, .inl (cO, 1, .inr (.inl fo)))] sz) h0 h1 ho cT cO f1 fo g1 a2 a3 a4 a5 a6 a7 a8) (va_A [(h0, .inr (12, [.ref h1, .int 0, a2, a3, a4, a5, a6, a7, a8])), (h1, .inl (cT, 1500, .inl f1)), (ho, .inl (cO, 1, .inr (.inl fo)))] sz)) 0 0 (va_A [(h0, .inr (12, [.ref h1, .int 0, a2, a3, a4, a5, a6, a7, a8])), (h1, .inl (cT, 1500, .inl f1)), (ho, .inl (cO, 1, .inr (.inl fo)))] sz) := by
  refine va_MetW (cc := cL_feed) (maxL := 6) (ret := (some .int)) (hh := [(0, 11, 14, 13), (0, 11, 18, 15)]) (by decide) rfl ?_
  intro p e s m args below meth c s₁ B hml hv
  obtain ⟨rfl, hsz, hP, hK, hD0, hF9, hZ9⟩ := hv
  have hx := B.exec
  have hb := B.bytes
  have hr := B.returns
  have hts := atoms_spec (ws := wv_L_feed_7) B.pre
  have hown : s.vm.findClass RL = some m.cls := findClass_of_methodNamed B.named
  have hlocks := B.notSynchronized
  subst hsz
  have hD := hD0.self (sz := s.heap.size)
  generalize hAe : va_A [(h0, .inr (12, [.ref h1, .int 0, a2, a3, a4, a5, a6, a7, a8])), (h1, .inl (cT, 1500, .inl f1)), (ho, .inl (cO, 1, .inr (.inl fo)))] s.heap.size = A at hD hZ9 ⊢
  have hA : ∀ q : Nat, s.heap.size ≤ q → A q := fun q h => by rw [← hAe]; exact Or.inr h
  have hS : va_S A s.heap s.heap [] := va_S.rf
  have hP : va_P (dC, dI) vwCl [(h0, .inr (12, [.ref h1, .int 0, a2, a3, a4, a5, a6, a7, a8])), (h1, .inl (cT, 1500, .inl f1)), (ho, .inl (cO, 1, .inr (.inl fo)))] s.heap := hP
  have hl := lv_entry ([.ref h0, .long g1, .int 7, .ref ho]) (n := 6) (Nat.le_of_ble_eq_true rfl)
  rw [lg_entry_eq]
  generalize (lg_sl ([.ref h0, .long g1, .int 7, .ref ho]) ++ List.replicate (6 - (lg_sl ([.ref h0, .long g1, .int 7, .ref ho])).length) Slot.unset).toArray = ls at hl ⊢
  have hl : lv_has ls 6 [(0, .ref h0), (1, .long g1), (3, .int 7), (4, .ref ho)] := hl
  have htab : c.exceptionTable.toList = [⟨0, 11, 14, 13⟩, ⟨0, 11, 18, 15⟩] := vx_table (x := yL_feed) B (hts _ List.mem_cons_self)
  refine lv_aload hx hb dL_feed_7_0 (lv_at hl 3 rfl) ?_
  refine lv_iconst (v := 0) hx hb dL_feed_7_2 (by decide) ?_
  refine lv_aload_n hx hb dL_feed_7_3 rfl (lv_at hl 0 rfl) ?_
  refine lv_lload_n hx hb dL_feed_7_4 rfl (lv_at hl 1 rfl) ?_
  refine lv_iload_n hx hb dL_feed_7_5 rfl (lv_at hl 2 rfl) ?_
  have hPc := hP.sub (ws' := [(h0, .inr (12, [.ref h1, .int 0, a2, a3, a4, a5, a6, a7, a8])), (h1, .inl (cT, 1500, .inl f1))]) [0, 1] rfl
  have hDc := hD.sub (ws' := [(h0, .inr (12, [.ref h1, .int 0, a2, a3, a4, a5, a6, a7, a8])), (h1, .inl (cT, 1500, .inl f1))]) [0, 1] (by decide) rfl
  have hKc := hK.sub (tys' := [(cT, .byte)]) [0] rfl
  have hFc := va_free (wc := [(h0, .inr (12, [.ref h1, .int 0, a2, a3, a4, a5, a6, a7, a8])), (h1, .inl (cT, 1500, .inl f1))]) hD hS hA [0, 1] rfl
  have h_1 : 0 ≤ 0 := by decide
  have h_2 : 0 ≤ 0 := by decide
  refine va_calli (va_runV (As := [.long g1, .int 7]) (rest := [.int 0, .ref ho]) ⟨hx, hb, hml, hown, hts⟩ (r_X12_feed_7 l dC dI h0 h1 g1 cT f1 a2 a3 a4 a5 a6 a7 a8 _) (cwV 2 hts wV_L_feed_7_X12_feed_7_7 rfl rfl rfl (by decide +kernel) ⟨Nat.le_of_ble_eq_true rfl, Nat.le_of_ble_eq_true rfl⟩) ⟨fun a U g mk q => by obtain ⟨q0, q1, qP, qK, qD⟩ := q; exact ⟨q0, q1, qP, va_K.moved (u := U) (U := U.calling g mk a) (Vm.Alike.refl U.vm) qK, qD⟩, va_recv hKc hPc (ci := 12) (q0 := 0) rfl rfl, fun U hU hW => ⟨rfl, by rw [hU], by rw [hU]; exact hPc, va_K.moved hW.alike hKc, hDc.weaken (fun _ _ _ _ => trivial)⟩⟩ rfl rfl hl.1 rfl (lv_room (Nat.le_of_ble_eq_true rfl)) dL_feed_7_6 ⟨h_1, h_2⟩) hS (fun q _ h => hFc q h) hFc (fun y4 u3 t H1 locs ht hvm hw hB hz1 hk1 hS => ?_)
  obtain ⟨hP1, hK1, hD1⟩ := hB
  rw [ht] at hP1
  have hK1 := va_K.moved hvm.symm hK1
  obtain ⟨hP, hD⟩ := va_join (wr := [(ho, .inl (cO, 1, .inr (.inl fo)))]) (w1 := [(h0, .inr (12, [.ref h1, .int 7, a2, a3, a4, a5, a6, a7, a8]))]) hP hD [0, 1] [2] rfl rfl (by decide) (by decide) hk1 hFc hP1 hD1
  have hK := (hK.sub (tys' := [(cO, .long)]) [1] rfl).app hK1
  generalize H1 = H at hP hS ⊢
  have hP : va_P (dC, dI) vwCl [(ho, .inl (cO, 1, .inr (.inl fo))), (h0, .inr (12, [.ref h1, .int 7, a2, a3, a4, a5, a6, a7, a8]))] H := hP
  have hD : va_D A [(ho, .inl (cO, 1, .inr (.inl fo))), (h0, .inr (12, [.ref h1, .int 7, a2, a3, a4, a5, a6, a7, a8]))] := hD
  have hK : va_K (dC, dI) vwCl [(cO, .long)] s := hK
  refine W.widen (k := 0) (n := 0) (by decide) (by decide) ?_
  have hw : y4 = 7 := hw
  subst hw
  refine lv_i2l (v := 7) hx hb dL_feed_7_9 (by decide) ?_
  refine va_last hx hb hK hP hD hS 0 0 rfl rfl (by unfold vp_in; decide) dL_feed_7_10 (fun H locs hP hD hS => ?_)
  have hP : va_P (dC, dI) vwCl [(ho, .inl (cO, 1, .inr (.inl (vp_updL fo 0 7)))), (h0, .inr (12, [.ref h1, .int 7, a2, a3, a4, a5, a6, a7, a8]))] H := hP
  have hD : va_D A [(ho, .inl (cO, 1, .inr (.inl (vp_updL fo 0 7)))), (h0, .inr (12, [.ref h1, .int 7, a2, a3, a4, a5, a6, a7, a8]))] := hD
  refine lv_goto (tgt := 22) hx hb dL_feed_7_11 (by decide) ?_
  refine lv_iconst (v := 0) hx hb dL_feed_7_22 (by decide) ?_
  have hP9 := hP.sub (ws' := [(h0, .inr (12, [.ref h1, .int 7, a2, a3, a4, a5, a6, a7, a8])), (ho, .inl (cO, 1, .inr (.inl (vp_updL fo 0 7))))]) [1, 0] rfl
  have hD9 := hD.sub (ws' := [(h0, .inr (12, [.ref h1, .int 7, a2, a3, a4, a5, a6, a7, a8])), (ho, .inl (cO, 1, .inr (.inl (vp_updL fo 0 7))))]) [1, 0] (by decide) rfl
  have hK9 := hK.sub (tys' := [(cO, .long)]) [0] rfl
  refine W.widen (k := 0) (n := 0) (by decide) (by decide) ?_
  exact W.iret (v := 0) hx hb hr (fun t ht hW => ⟨⟨0, (), rfl, rfl, by rw [ht]; exact hP9, va_K.moved hW.alike hK9, hD9⟩, hS.F ht⟩) hS.2.2 dL_feed_7_23

abbrev ar_L_feed_8 (dC : Nat → ClassId) (dI : Nat → Nat → Nat) (A : Nat → Prop) (h0 h1 ho : Nat) (cT cO : ClassId) (f1 : Nat → Int32) (fo : Nat → Int64) (g1 : Int64) (a2 a3 a4 a5 a6 a7 a8 : Value) (_ : Unit) (t : State) : Prop := va_P (dC, dI) vwCl [(h0, .inr (12, [.ref h1, .int 8, a2, a3, a4, a5, a6, a7, a8])), (ho, .inl (cO, 1, .inr (.inl (vp_updL fo 0 8))))] t.heap ∧ va_K (dC, dI) vwCl [(cO, .long)] t ∧ va_D A [(h0, .inr (12, [.ref h1, .int 8, a2, a3, a4, a5, a6, a7, a8])), (ho, .inl (cO, 1, .inr (.inl (vp_updL fo 0 8))))]
theorem dL_feed_8_0 : decode cL_feed 0 = .ok (.aload 4, 2) := by decide +kernel
theorem dL_feed_8_2 : decode cL_feed 2 = .ok (.iconst 0, 1) := by decide +kernel
theorem dL_feed_8_3 : decode cL_feed 3 = .ok (.aload_n 0, 1) := by decide +kernel
theorem dL_feed_8_4 : decode cL_feed 4 = .ok (.lload_n 1, 1) := by decide +kernel
theorem dL_feed_8_5 : decode cL_feed 5 = .ok (.iload_n 3, 1) := by decide +kernel
theorem dL_feed_8_6 : decode cL_feed 6 = .ok (.invokevirtual 7, 3) := by decide +kernel
theorem dL_feed_8_9 : decode cL_feed 9 = .ok (.i2l, 1) := by decide +kernel
theorem dL_feed_8_10 : decode cL_feed 10 = .ok (.lastore, 1) := by decide +kernel
theorem dL_feed_8_11 : decode cL_feed 11 = .ok (.goto 11, 3) := by decide +kernel
theorem dL_feed_8_22 : decode cL_feed 22 = .ok (.iconst 0, 1) := by decide +kernel
theorem dL_feed_8_23 : decode cL_feed 23 = .ok (.ireturn, 1) := by decide +kernel
def ww_L_feed_8 : List Cond := [.initialized RX12, .methodLink RL 7 yX12_feed, .instanceMethod yX12_feed, .selects RX12 yX12_feed yX12_feed]
def wv_L_feed_8 : List Cond := .codeWith yL_feed cL_feed 6 (some .int) [(0, 11, 14, 13), (0, 11, 18, 15)] :: (ww_L_feed_8 ++ (wv_X12_feed_8 ++ []))
theorem wm_L_feed_8 {w : Cond} (i : Nat) (h : ww_L_feed_8[i]? = some w) : w ∈ wv_L_feed_8 := List.mem_cons_of_mem _ (List.mem_append_left _ (List.mem_of_getElem? h))
set_option maxRecDepth 100000 in
theorem gw_L_feed_8 : wv_L_feed_8.all goodWord = true := by decide +kernel
theorem wg_L_feed_8_X12_feed_8 : GoodIn wv_L_feed_8 wv_X12_feed_8 := goodIn_sub (fun w h => List.mem_cons_of_mem _ (List.mem_append_right _ (List.mem_append_left _ h))) gw_X12_feed_8
theorem wV_L_feed_8_X12_feed_8_7 : GoodIn wv_L_feed_8 (wsV RL 7 RX12 yX12_feed wv_X12_feed_8) := goodIn_app (goodIn_sub (fun w h => by simp only [List.mem_cons, List.not_mem_nil, or_false] at h; rcases h with rfl | rfl | rfl | rfl <;> first | exact wm_L_feed_8 1 rfl | exact wm_L_feed_8 2 rfl | exact wm_L_feed_8 3 rfl | exact wm_L_feed_8 0 rfl) (by decide +kernel)) wg_L_feed_8_X12_feed_8
set_option maxHeartbeats 4000000 in
set_option maxRecDepth 100000 in
/-- the law's feed on a fresh house -/
theorem r_L_feed_8 (l : Launch) (hl0 : l.stackTraces = false) (dC : Nat → ClassId) (dI : Nat → Nat → Nat) (h0 h1 ho : Nat) (cT cO : ClassId) (f1 : Nat → Int32) (fo : Nat → Int64) (g1 : Int64) (a2 a3 a4 a5 a6 a7 a8 : Value) (sz : Nat) : Met l yL_feed wv_L_feed_8 ({ frames := 1, cells := 0, slots := 0, locals := 24 }) (va_Pc [.ref h0, .long g1, .int 8, .ref ho] (fun U => U.heap.size = sz ∧ va_P (dC, dI) vwCl [(h0, .inr (12, [.ref h1, .int 0, a2, a3, a4, a5, a6, a7, a8])), (h1, .inl (cT, 1500, .inl f1)), (ho, .inl (cO, 1, .inr (.inl fo)))] U.heap ∧ va_K (dC, dI) vwCl [(cT, .byte), (cO, .long)] U ∧ va_D (fun _ => True) [(h0, .inr (12, [.ref h1, .int 0, a2, a3, a4, a5, a6, a7, a8])), (h1, .inl (cT, 1500, .inl f1)), (ho, .inl (cO, 1, .inr (.inl fo)))] ∧ xz_F U ∧ xz_Z (va_A [(h0, .inr (12, [.ref h1, .int 0, a2, a3, a4, a5, a6, a7, a8])), (h1, .inl (cT, 1500, .inl f1)), (ho, .inl (cO, 1, .inr (.inl fo)))] sz) U U.heap)) (va_Qi (fun r (_ : Unit) => r = 0) (ar_L_feed_8 dC dI (va_A [(h0, .inr (12, [.ref h1, .int 0, a2, a3, a4, a5, a6, a7, a8])), (h1, .inl (cT, 1500, .inl f1)), (ho, .inl (cO, 1, .inr (.inl fo)))] sz) h0 h1 ho cT cO f1 fo g1 a2 a3 a4 a5 a6 a7 a8) (va_A [(h0, .inr (12, [.ref h1, .int 0, a2, a3, a4, a5, a6, a7, a8])), (h1, .inl (cT, 1500, .inl f1)), (ho, .inl (cO, 1, .inr (.inl fo)))] sz)) 0 0 (va_A [(h0, .inr (12, [.ref h1, .int 0, a2, a3, a4, a5, a6, a7, a8])), (h1, .inl (cT, 1500, .inl f1)), (ho, .inl (cO, 1, .inr (.inl fo)))] sz) := by
  refine va_MetW (cc := cL_feed) (maxL := 6) (ret := (some .int)) (hh := [(0, 11, 14, 13), (0, 11, 18, 15)]) (by decide) rfl ?_
  intro p e s m args below meth c s₁ B hml hv
  obtain ⟨rfl, hsz, hP, hK, hD0, hF9, hZ9⟩ := hv
  have hx := B.exec
  have hb := B.bytes
  have hr := B.returns
  have hts := atoms_spec (ws := wv_L_feed_8) B.pre
  have hown : s.vm.findClass RL = some m.cls := findClass_of_methodNamed B.named
  have hlocks := B.notSynchronized
  subst hsz
  have hD := hD0.self (sz := s.heap.size)
  generalize hAe : va_A [(h0, .inr (12, [.ref h1, .int 0, a2, a3, a4, a5, a6, a7, a8])), (h1, .inl (cT, 1500, .inl f1)), (ho, .inl (cO, 1, .inr (.inl fo)))] s.heap.size = A at hD hZ9 ⊢
  have hA : ∀ q : Nat, s.heap.size ≤ q → A q := fun q h => by rw [← hAe]; exact Or.inr h
  have hS : va_S A s.heap s.heap [] := va_S.rf
  have hP : va_P (dC, dI) vwCl [(h0, .inr (12, [.ref h1, .int 0, a2, a3, a4, a5, a6, a7, a8])), (h1, .inl (cT, 1500, .inl f1)), (ho, .inl (cO, 1, .inr (.inl fo)))] s.heap := hP
  have hl := lv_entry ([.ref h0, .long g1, .int 8, .ref ho]) (n := 6) (Nat.le_of_ble_eq_true rfl)
  rw [lg_entry_eq]
  generalize (lg_sl ([.ref h0, .long g1, .int 8, .ref ho]) ++ List.replicate (6 - (lg_sl ([.ref h0, .long g1, .int 8, .ref ho])).length) Slot.unset).toArray = ls at hl ⊢
  have hl : lv_has ls 6 [(0, .ref h0), (1, .long g1), (3, .int 8), (4, .ref ho)] := hl
  have htab : c.exceptionTable.toList = [⟨0, 11, 14, 13⟩, ⟨0, 11, 18, 15⟩] := vx_table (x := yL_feed) B (hts _ List.mem_cons_self)
  refine lv_aload hx hb dL_feed_8_0 (lv_at hl 3 rfl) ?_
  refine lv_iconst (v := 0) hx hb dL_feed_8_2 (by decide) ?_
  refine lv_aload_n hx hb dL_feed_8_3 rfl (lv_at hl 0 rfl) ?_
  refine lv_lload_n hx hb dL_feed_8_4 rfl (lv_at hl 1 rfl) ?_
  refine lv_iload_n hx hb dL_feed_8_5 rfl (lv_at hl 2 rfl) ?_
  have hPc := hP.sub (ws' := [(h0, .inr (12, [.ref h1, .int 0, a2, a3, a4, a5, a6, a7, a8])), (h1, .inl (cT, 1500, .inl f1))]) [0, 1] rfl
  have hDc := hD.sub (ws' := [(h0, .inr (12, [.ref h1, .int 0, a2, a3, a4, a5, a6, a7, a8])), (h1, .inl (cT, 1500, .inl f1))]) [0, 1] (by decide) rfl
  have hKc := hK.sub (tys' := [(cT, .byte)]) [0] rfl
  have hFc := va_free (wc := [(h0, .inr (12, [.ref h1, .int 0, a2, a3, a4, a5, a6, a7, a8])), (h1, .inl (cT, 1500, .inl f1))]) hD hS hA [0, 1] rfl
  have h_1 : 0 ≤ 0 := by decide
  have h_2 : 0 ≤ 0 := by decide
  refine va_calli (va_runV (As := [.long g1, .int 8]) (rest := [.int 0, .ref ho]) ⟨hx, hb, hml, hown, hts⟩ (r_X12_feed_8 l dC dI h0 h1 g1 cT f1 a2 a3 a4 a5 a6 a7 a8 _) (cwV 2 hts wV_L_feed_8_X12_feed_8_7 rfl rfl rfl (by decide +kernel) ⟨Nat.le_of_ble_eq_true rfl, Nat.le_of_ble_eq_true rfl⟩) ⟨fun a U g mk q => by obtain ⟨q0, q1, qP, qK, qD⟩ := q; exact ⟨q0, q1, qP, va_K.moved (u := U) (U := U.calling g mk a) (Vm.Alike.refl U.vm) qK, qD⟩, va_recv hKc hPc (ci := 12) (q0 := 0) rfl rfl, fun U hU hW => ⟨rfl, by rw [hU], by rw [hU]; exact hPc, va_K.moved hW.alike hKc, hDc.weaken (fun _ _ _ _ => trivial)⟩⟩ rfl rfl hl.1 rfl (lv_room (Nat.le_of_ble_eq_true rfl)) dL_feed_8_6 ⟨h_1, h_2⟩) hS (fun q _ h => hFc q h) hFc (fun y4 u3 t H1 locs ht hvm hw hB hz1 hk1 hS => ?_)
  obtain ⟨hP1, hK1, hD1⟩ := hB
  rw [ht] at hP1
  have hK1 := va_K.moved hvm.symm hK1
  obtain ⟨hP, hD⟩ := va_join (wr := [(ho, .inl (cO, 1, .inr (.inl fo)))]) (w1 := [(h0, .inr (12, [.ref h1, .int 8, a2, a3, a4, a5, a6, a7, a8]))]) hP hD [0, 1] [2] rfl rfl (by decide) (by decide) hk1 hFc hP1 hD1
  have hK := (hK.sub (tys' := [(cO, .long)]) [1] rfl).app hK1
  generalize H1 = H at hP hS ⊢
  have hP : va_P (dC, dI) vwCl [(ho, .inl (cO, 1, .inr (.inl fo))), (h0, .inr (12, [.ref h1, .int 8, a2, a3, a4, a5, a6, a7, a8]))] H := hP
  have hD : va_D A [(ho, .inl (cO, 1, .inr (.inl fo))), (h0, .inr (12, [.ref h1, .int 8, a2, a3, a4, a5, a6, a7, a8]))] := hD
  have hK : va_K (dC, dI) vwCl [(cO, .long)] s := hK
  refine W.widen (k := 0) (n := 0) (by decide) (by decide) ?_
  have hw : y4 = 8 := hw
  subst hw
  refine lv_i2l (v := 8) hx hb dL_feed_8_9 (by decide) ?_
  refine va_last hx hb hK hP hD hS 0 0 rfl rfl (by unfold vp_in; decide) dL_feed_8_10 (fun H locs hP hD hS => ?_)
  have hP : va_P (dC, dI) vwCl [(ho, .inl (cO, 1, .inr (.inl (vp_updL fo 0 8)))), (h0, .inr (12, [.ref h1, .int 8, a2, a3, a4, a5, a6, a7, a8]))] H := hP
  have hD : va_D A [(ho, .inl (cO, 1, .inr (.inl (vp_updL fo 0 8)))), (h0, .inr (12, [.ref h1, .int 8, a2, a3, a4, a5, a6, a7, a8]))] := hD
  refine lv_goto (tgt := 22) hx hb dL_feed_8_11 (by decide) ?_
  refine lv_iconst (v := 0) hx hb dL_feed_8_22 (by decide) ?_
  have hP9 := hP.sub (ws' := [(h0, .inr (12, [.ref h1, .int 8, a2, a3, a4, a5, a6, a7, a8])), (ho, .inl (cO, 1, .inr (.inl (vp_updL fo 0 8))))]) [1, 0] rfl
  have hD9 := hD.sub (ws' := [(h0, .inr (12, [.ref h1, .int 8, a2, a3, a4, a5, a6, a7, a8])), (ho, .inl (cO, 1, .inr (.inl (vp_updL fo 0 8))))]) [1, 0] (by decide) rfl
  have hK9 := hK.sub (tys' := [(cO, .long)]) [0] rfl
  refine W.widen (k := 0) (n := 0) (by decide) (by decide) ?_
  exact W.iret (v := 0) hx hb hr (fun t ht hW => ⟨⟨0, (), rfl, rfl, by rw [ht]; exact hP9, va_K.moved hW.alike hK9, hD9⟩, hS.F ht⟩) hS.2.2 dL_feed_8_23

abbrev ar_L_job (dC : Nat → ClassId) (dI : Nat → Nat → Nat) (A : Nat → Prop) (h0 h1 h6 h5 j1 j2 j3 h7 h8 ho : Nat) (cT cB cC cD cO : ClassId) (f1 : Nat → Int32) (g1 : Nat → Int32) (g2 : Nat → Int32) (g3 : Nat → Int32) (fo : Nat → Int64) (a2 a4 a6 a8 b0 b1 b2 b3 b4 b5 b6 b7 b8 c0 c1 c2 c3 c5 c6 c7 c8 c9 c10 c11 e0 e1 e3 e4 e5 e6 e7 e8 e9 e10 e11 e12 e13 e14 e15 e16 e17 e18 e19 d0 d1 d2 d3 d4 d5 d6 d7 d8 : Value) (_ : Unit) (t : State) : Prop := va_P (dC, dI) vwCl [(h0, .inr (12, [.ref h1, .int 0, .int 3, .ref h6, a4, .ref h5, a6, .ref h7, a8])), (h1, .inl (cT, 1500, .inl f1)), (h6, .inr (6, [.ref h1, .int 0, .int 0, .int 0, b4, .int 0, .int 3, .ref h5, b8])), (h5, .inr (4, [c0, .int 0, .int 0, c3, .ref j1, c5, c6, .int 0, c8, c9, c10, c11, .ref j2, .ref j3])), (j1, .inl (cB, 4, .inl (upd (upd (upd (upd g1 0 (-1)) 1 (-1)) 2 (-1)) 3 (-1)))), (j2, .inl (cC, 4, .inl (upd (upd (upd (upd g2 0 0) 1 0) 2 0) 3 0))), (j3, .inl (cD, 4, .inl (upd (upd (upd (upd g3 0 (vp_nar .boolean 0)) 1 (vp_nar .boolean 0)) 2 (vp_nar .boolean 0)) 3 (vp_nar .boolean 0)))), (h7, .inr (9, [e0, e1, .ref h8, e3, e4, e5, e6, e7, e8, e9, e10, e11, e12, e13, e14, e15, e16, e17, e18, e19])), (h8, .inr (3, [d0, d1, d2, d3, d4, d5, d6, d7, d8, .int 0])), (ho, .inl (cO, 1, .inr (.inl (vp_updL fo 0 (-1)))))] t.heap ∧ va_K (dC, dI) vwCl [(cO, .long), (cT, .byte), (cD, .boolean), (cB, .int), (cC, .int)] t ∧ va_D A [(h0, .inr (12, [.ref h1, .int 0, .int 3, .ref h6, a4, .ref h5, a6, .ref h7, a8])), (h1, .inl (cT, 1500, .inl f1)), (h6, .inr (6, [.ref h1, .int 0, .int 0, .int 0, b4, .int 0, .int 3, .ref h5, b8])), (h5, .inr (4, [c0, .int 0, .int 0, c3, .ref j1, c5, c6, .int 0, c8, c9, c10, c11, .ref j2, .ref j3])), (j1, .inl (cB, 4, .inl (upd (upd (upd (upd g1 0 (-1)) 1 (-1)) 2 (-1)) 3 (-1)))), (j2, .inl (cC, 4, .inl (upd (upd (upd (upd g2 0 0) 1 0) 2 0) 3 0))), (j3, .inl (cD, 4, .inl (upd (upd (upd (upd g3 0 (vp_nar .boolean 0)) 1 (vp_nar .boolean 0)) 2 (vp_nar .boolean 0)) 3 (vp_nar .boolean 0)))), (h7, .inr (9, [e0, e1, .ref h8, e3, e4, e5, e6, e7, e8, e9, e10, e11, e12, e13, e14, e15, e16, e17, e18, e19])), (h8, .inr (3, [d0, d1, d2, d3, d4, d5, d6, d7, d8, .int 0])), (ho, .inl (cO, 1, .inr (.inl (vp_updL fo 0 (-1)))))]
theorem dL_job_0 : decode cL_job 0 = .ok (.aload_n 1, 1) := by decide +kernel
theorem dL_job_1 : decode cL_job 1 = .ok (.iconst 0, 1) := by decide +kernel
theorem dL_job_2 : decode cL_job 2 = .ok (.aload_n 0, 1) := by decide +kernel
theorem dL_job_3 : decode cL_job 3 = .ok (.invokevirtual 17, 3) := by decide +kernel
theorem dL_job_6 : decode cL_job 6 = .ok (.i2l, 1) := by decide +kernel
theorem dL_job_7 : decode cL_job 7 = .ok (.lastore, 1) := by decide +kernel
theorem dL_job_8 : decode cL_job 8 = .ok (.goto 6, 3) := by decide +kernel
theorem dL_job_14 : decode cL_job 14 = .ok (.iconst 0, 1) := by decide +kernel
theorem dL_job_15 : decode cL_job 15 = .ok (.ireturn, 1) := by decide +kernel
def ww_L_job : List Cond := [.initialized RX12, .methodLink RL 17 yX12_job, .instanceMethod yX12_job, .selects RX12 yX12_job yX12_job]
def wv_L_job : List Cond := .codeWith yL_job cL_job 3 (some .int) [(0, 8, 11, 21)] :: (ww_L_job ++ (wv_X12_job ++ []))
theorem wm_L_job {w : Cond} (i : Nat) (h : ww_L_job[i]? = some w) : w ∈ wv_L_job := List.mem_cons_of_mem _ (List.mem_append_left _ (List.mem_of_getElem? h))
set_option maxRecDepth 100000 in
theorem gw_L_job : wv_L_job.all goodWord = true := by decide +kernel
theorem wg_L_job_X12_job : GoodIn wv_L_job wv_X12_job := goodIn_sub (fun w h => List.mem_cons_of_mem _ (List.mem_append_right _ (List.mem_append_left _ h))) gw_X12_job
theorem wV_L_job_X12_job_17 : GoodIn wv_L_job (wsV RL 17 RX12 yX12_job wv_X12_job) := goodIn_app (goodIn_sub (fun w h => by simp only [List.mem_cons, List.not_mem_nil, or_false] at h; rcases h with rfl | rfl | rfl | rfl <;> first | exact wm_L_job 1 rfl | exact wm_L_job 2 rfl | exact wm_L_job 3 rfl | exact wm_L_job 0 rfl) (by decide +kernel)) wg_L_job_X12_job
set_option maxHeartbeats 4000000 in
set_option maxRecDepth 100000 in
/-- the law's job on a fresh house -/
theorem r_L_job (l : Launch) (hl0 : l.stackTraces = false) (dC : Nat → ClassId) (dI : Nat → Nat → Nat) (h0 h1 h6 h5 j1 j2 j3 h7 h8 ho : Nat) (cT cB cC cD cO : ClassId) (f1 : Nat → Int32) (g1 : Nat → Int32) (g2 : Nat → Int32) (g3 : Nat → Int32) (fo : Nat → Int64) (a2 a4 a6 a8 b0 b1 b2 b3 b4 b5 b6 b7 b8 c0 c1 c2 c3 c5 c6 c7 c8 c9 c10 c11 e0 e1 e3 e4 e5 e6 e7 e8 e9 e10 e11 e12 e13 e14 e15 e16 e17 e18 e19 d0 d1 d2 d3 d4 d5 d6 d7 d8 : Value) (sz : Nat) : Met l yL_job wv_L_job ({ frames := 11, cells := 1, slots := 6, locals := 189 }) (va_Pc [.ref h0, .ref ho] (fun U => U.heap.size = sz ∧ va_P (dC, dI) vwCl [(h0, .inr (12, [.ref h1, .int 0, a2, .ref h6, a4, .ref h5, a6, .ref h7, a8])), (h1, .inl (cT, 1500, .inl f1)), (h6, .inr (6, [b0, b1, b2, b3, b4, b5, b6, b7, b8])), (h5, .inr (4, [c0, c1, c2, c3, .ref j1, c5, c6, c7, c8, c9, c10, c11, .ref j2, .ref j3])), (j1, .inl (cB, 4, .inl g1)), (j2, .inl (cC, 4, .inl g2)), (j3, .inl (cD, 4, .inl g3)), (h7, .inr (9, [e0, e1, .ref h8, e3, e4, e5, e6, e7, e8, e9, e10, e11, e12, e13, e14, e15, e16, e17, e18, e19])), (h8, .inr (3, [d0, d1, d2, d3, d4, d5, d6, d7, d8, .int 0])), (ho, .inl (cO, 1, .inr (.inl fo)))] U.heap ∧ va_K (dC, dI) vwCl [(cT, .byte), (cB, .int), (cC, .int), (cD, .boolean), (cO, .long)] U ∧ va_D (fun _ => True) [(h0, .inr (12, [.ref h1, .int 0, a2, .ref h6, a4, .ref h5, a6, .ref h7, a8])), (h1, .inl (cT, 1500, .inl f1)), (h6, .inr (6, [b0, b1, b2, b3, b4, b5, b6, b7, b8])), (h5, .inr (4, [c0, c1, c2, c3, .ref j1, c5, c6, c7, c8, c9, c10, c11, .ref j2, .ref j3])), (j1, .inl (cB, 4, .inl g1)), (j2, .inl (cC, 4, .inl g2)), (j3, .inl (cD, 4, .inl g3)), (h7, .inr (9, [e0, e1, .ref h8, e3, e4, e5, e6, e7, e8, e9, e10, e11, e12, e13, e14, e15, e16, e17, e18, e19])), (h8, .inr (3, [d0, d1, d2, d3, d4, d5, d6, d7, d8, .int 0])), (ho, .inl (cO, 1, .inr (.inl fo)))] ∧ xz_F U ∧ xz_Z (va_A [(h0, .inr (12, [.ref h1, .int 0, a2, .ref h6, a4, .ref h5, a6, .ref h7, a8])), (h1, .inl (cT, 1500, .inl f1)), (h6, .inr (6, [b0, b1, b2, b3, b4, b5, b6, b7, b8])), (h5, .inr (4, [c0, c1, c2, c3, .ref j1, c5, c6, c7, c8, c9, c10, c11, .ref j2, .ref j3])), (j1, .inl (cB, 4, .inl g1)), (j2, .inl (cC, 4, .inl g2)), (j3, .inl (cD, 4, .inl g3)), (h7, .inr (9, [e0, e1, .ref h8, e3, e4, e5, e6, e7, e8, e9, e10, e11, e12, e13, e14, e15, e16, e17, e18, e19])), (h8, .inr (3, [d0, d1, d2, d3, d4, d5, d6, d7, d8, .int 0])), (ho, .inl (cO, 1, .inr (.inl fo)))] sz) U U.heap)) (va_Qi (fun r (_ : Unit) => r = 0) (ar_L_job dC dI (va_A [(h0, .inr (12, [.ref h1, .int 0, a2, .ref h6, a4, .ref h5, a6, .ref h7, a8])), (h1, .inl (cT, 1500, .inl f1)), (h6, .inr (6, [b0, b1, b2, b3, b4, b5, b6, b7, b8])), (h5, .inr (4, [c0, c1, c2, c3, .ref j1, c5, c6, c7, c8, c9, c10, c11, .ref j2, .ref j3])), (j1, .inl (cB, 4, .inl g1)), (j2, .inl (cC, 4, .inl g2)), (j3, .inl (cD, 4, .inl g3)), (h7, .inr (9, [e0, e1, .ref h8, e3, e4, e5, e6, e7, e8, e9, e10, e11, e12, e13, e14, e15, e16, e17, e18, e19])), (h8, .inr (3, [d0, d1, d2, d3, d4, d5, d6, d7, d8, .int 0])), (ho, .inl (cO, 1, .inr (.inl fo)))] sz) h0 h1 h6 h5 j1 j2 j3 h7 h8 ho cT cB cC cD cO f1 g1 g2 g3 fo a2 a4 a6 a8 b0 b1 b2 b3 b4 b5 b6 b7 b8 c0 c1 c2 c3 c5 c6 c7 c8 c9 c10 c11 e0 e1 e3 e4 e5 e6 e7 e8 e9 e10 e11 e12 e13 e14 e15 e16 e17 e18 e19 d0 d1 d2 d3 d4 d5 d6 d7 d8) (va_A [(h0, .inr (12, [.ref h1, .int 0, a2, .ref h6, a4, .ref h5, a6, .ref h7, a8])), (h1, .inl (cT, 1500, .inl f1)), (h6, .inr (6, [b0, b1, b2, b3, b4, b5, b6, b7, b8])), (h5, .inr (4, [c0, c1, c2, c3, .ref j1, c5, c6, c7, c8, c9, c10, c11, .ref j2, .ref j3])), (j1, .inl (cB, 4, .inl g1)), (j2, .inl (cC, 4, .inl g2)), (j3, .inl (cD, 4, .inl g3)), (h7, .inr (9, [e0, e1, .ref h8, e3, e4, e5, e6, e7, e8, e9, e10, e11, e12, e13, e14, e15, e16, e17, e18, e19])), (h8, .inr (3, [d0, d1, d2, d3, d4, d5, d6, d7, d8, .int 0])), (ho, .inl (cO, 1, .inr (.inl fo)))] sz)) 1 6 (va_A [(h0, .inr (12, [.ref h1, .int 0, a2, .ref h6, a4, .ref h5, a6, .ref h7, a8])), (h1, .inl (cT, 1500, .inl f1)), (h6, .inr (6, [b0, b1, b2, b3, b4, b5, b6, b7, b8])), (h5, .inr (4, [c0, c1, c2, c3, .ref j1, c5, c6, c7, c8, c9, c10, c11, .ref j2, .ref j3])), (j1, .inl (cB, 4, .inl g1)), (j2, .inl (cC, 4, .inl g2)), (j3, .inl (cD, 4, .inl g3)), (h7, .inr (9, [e0, e1, .ref h8, e3, e4, e5, e6, e7, e8, e9, e10, e11, e12, e13, e14, e15, e16, e17, e18, e19])), (h8, .inr (3, [d0, d1, d2, d3, d4, d5, d6, d7, d8, .int 0])), (ho, .inl (cO, 1, .inr (.inl fo)))] sz) := by
  refine va_MetW (cc := cL_job) (maxL := 3) (ret := (some .int)) (hh := [(0, 8, 11, 21)]) (by decide) rfl ?_
  intro p e s m args below meth c s₁ B hml hv
  obtain ⟨rfl, hsz, hP, hK, hD0, hF9, hZ9⟩ := hv
  have hx := B.exec
  have hb := B.bytes
  have hr := B.returns
  have hts := atoms_spec (ws := wv_L_job) B.pre
  have hown : s.vm.findClass RL = some m.cls := findClass_of_methodNamed B.named
  have hlocks := B.notSynchronized
  subst hsz
  have hD := hD0.self (sz := s.heap.size)
  generalize hAe : va_A [(h0, .inr (12, [.ref h1, .int 0, a2, .ref h6, a4, .ref h5, a6, .ref h7, a8])), (h1, .inl (cT, 1500, .inl f1)), (h6, .inr (6, [b0, b1, b2, b3, b4, b5, b6, b7, b8])), (h5, .inr (4, [c0, c1, c2, c3, .ref j1, c5, c6, c7, c8, c9, c10, c11, .ref j2, .ref j3])), (j1, .inl (cB, 4, .inl g1)), (j2, .inl (cC, 4, .inl g2)), (j3, .inl (cD, 4, .inl g3)), (h7, .inr (9, [e0, e1, .ref h8, e3, e4, e5, e6, e7, e8, e9, e10, e11, e12, e13, e14, e15, e16, e17, e18, e19])), (h8, .inr (3, [d0, d1, d2, d3, d4, d5, d6, d7, d8, .int 0])), (ho, .inl (cO, 1, .inr (.inl fo)))] s.heap.size = A at hD hZ9 ⊢
  have hA : ∀ q : Nat, s.heap.size ≤ q → A q := fun q h => by rw [← hAe]; exact Or.inr h
  have hS : va_S A s.heap s.heap [] := va_S.rf
  have hP : va_P (dC, dI) vwCl [(h0, .inr (12, [.ref h1, .int 0, a2, .ref h6, a4, .ref h5, a6, .ref h7, a8])), (h1, .inl (cT, 1500, .inl f1)), (h6, .inr (6, [b0, b1, b2, b3, b4, b5, b6, b7, b8])), (h5, .inr (4, [c0, c1, c2, c3, .ref j1, c5, c6, c7, c8, c9, c10, c11, .ref j2, .ref j3])), (j1, .inl (cB, 4, .inl g1)), (j2, .inl (cC, 4, .inl g2)), (j3, .inl (cD, 4, .inl g3)), (h7, .inr (9, [e0, e1, .ref h8, e3, e4, e5, e6, e7, e8, e9, e10, e11, e12, e13, e14, e15, e16, e17, e18, e19])), (h8, .inr (3, [d0, d1, d2, d3, d4, d5, d6, d7, d8, .int 0])), (ho, .inl (cO, 1, .inr (.inl fo)))] s.heap := hP
  have hl := lv_entry ([.ref h0, .ref ho]) (n := 3) (Nat.le_of_ble_eq_true rfl)
  rw [lg_entry_eq]
  generalize (lg_sl ([.ref h0, .ref ho]) ++ List.replicate (3 - (lg_sl ([.ref h0, .ref ho])).length) Slot.unset).toArray = ls at hl ⊢
  have hl : lv_has ls 3 [(0, .ref h0), (1, .ref ho)] := hl
  have htab : c.exceptionTable.toList = [⟨0, 8, 11, 21⟩] := vx_table (x := yL_job) B (hts _ List.mem_cons_self)
  refine lv_aload_n hx hb dL_job_0 rfl (lv_at hl 1 rfl) ?_
  refine lv_iconst (v := 0) hx hb dL_job_1 (by decide) ?_
  refine lv_aload_n hx hb dL_job_2 rfl (lv_at hl 0 rfl) ?_
  have hPc := hP.sub (ws' := [(h0, .inr (12, [.ref h1, .int 0, a2, .ref h6, a4, .ref h5, a6, .ref h7, a8])), (h1, .inl (cT, 1500, .inl f1)), (h6, .inr (6, [b0, b1, b2, b3, b4, b5, b6, b7, b8])), (h5, .inr (4, [c0, c1, c2, c3, .ref j1, c5, c6, c7, c8, c9, c10, c11, .ref j2, .ref j3])), (j1, .inl (cB, 4, .inl g1)), (j2, .inl (cC, 4, .inl g2)), (j3, .inl (cD, 4, .inl g3)), (h7, .inr (9, [e0, e1, .ref h8, e3, e4, e5, e6, e7, e8, e9, e10, e11, e12, e13, e14, e15, e16, e17, e18, e19])), (h8, .inr (3, [d0, d1, d2, d3, d4, d5, d6, d7, d8, .int 0]))]) [0, 1, 2, 3, 4, 5, 6, 7, 8] rfl
  have hDc := hD.sub (ws' := [(h0, .inr (12, [.ref h1, .int 0, a2, .ref h6, a4, .ref h5, a6, .ref h7, a8])), (h1, .inl (cT, 1500, .inl f1)), (h6, .inr (6, [b0, b1, b2, b3, b4, b5, b6, b7, b8])), (h5, .inr (4, [c0, c1, c2, c3, .ref j1, c5, c6, c7, c8, c9, c10, c11, .ref j2, .ref j3])), (j1, .inl (cB, 4, .inl g1)), (j2, .inl (cC, 4, .inl g2)), (j3, .inl (cD, 4, .inl g3)), (h7, .inr (9, [e0, e1, .ref h8, e3, e4, e5, e6, e7, e8, e9, e10, e11, e12, e13, e14, e15, e16, e17, e18, e19])), (h8, .inr (3, [d0, d1, d2, d3, d4, d5, d6, d7, d8, .int 0]))]) [0, 1, 2, 3, 4, 5, 6, 7, 8] (by decide) rfl
  have hKc := hK.sub (tys' := [(cT, .byte), (cB, .int), (cC, .int), (cD, .boolean)]) [0, 1, 2, 3] rfl
  have hFc := va_free (wc := [(h0, .inr (12, [.ref h1, .int 0, a2, .ref h6, a4, .ref h5, a6, .ref h7, a8])), (h1, .inl (cT, 1500, .inl f1)), (h6, .inr (6, [b0, b1, b2, b3, b4, b5, b6, b7, b8])), (h5, .inr (4, [c0, c1, c2, c3, .ref j1, c5, c6, c7, c8, c9, c10, c11, .ref j2, .ref j3])), (j1, .inl (cB, 4, .inl g1)), (j2, .inl (cC, 4, .inl g2)), (j3, .inl (cD, 4, .inl g3)), (h7, .inr (9, [e0, e1, .ref h8, e3, e4, e5, e6, e7, e8, e9, e10, e11, e12, e13, e14, e15, e16, e17, e18, e19])), (h8, .inr (3, [d0, d1, d2, d3, d4, d5, d6, d7, d8, .int 0]))]) hD hS hA [0, 1, 2, 3, 4, 5, 6, 7, 8] rfl
  have h_1 : 1 ≤ 1 := by decide
  have h_2 : 6 ≤ 6 := by decide
  refine va_calli (va_runV (As := []) (rest := [.int 0, .ref ho]) ⟨hx, hb, hml, hown, hts⟩ (r_X12_job l hl0 dC dI h0 h1 h6 h5 j1 j2 j3 h7 h8 cT cB cC cD f1 g1 g2 g3 a2 a4 a6 a8 b0 b1 b2 b3 b4 b5 b6 b7 b8 c0 c1 c2 c3 c5 c6 c7 c8 c9 c10 c11 e0 e1 e3 e4 e5 e6 e7 e8 e9 e10 e11 e12 e13 e14 e15 e16 e17 e18 e19 d0 d1 d2 d3 d4 d5 d6 d7 d8 _) (cwV 0 hts wV_L_job_X12_job_17 rfl rfl rfl (by decide +kernel) ⟨Nat.le_of_ble_eq_true rfl, Nat.le_of_ble_eq_true rfl⟩) ⟨fun a U g mk q => by obtain ⟨q0, q1, qP, qK, qD, qf0, qf1⟩ := q; exact ⟨q0, q1, qP, va_K.moved (u := U) (U := U.calling g mk a) (Vm.Alike.refl U.vm) qK, qD, xz_F.same rfl qf0, xz_Z.same (Vm.Alike.refl _) rfl qf1⟩, va_recv hKc hPc (ci := 12) (q0 := 0) rfl rfl, fun U hU hW => ⟨rfl, by rw [hU], by rw [hU]; exact hPc, va_K.moved hW.alike hKc, hDc.weaken (fun _ _ _ _ => trivial), xz_F.warm hW hF9, (hZ9.to hS hFc hW.alike hU)⟩⟩ rfl rfl hl.1 rfl (lv_room (Nat.le_of_ble_eq_true rfl)) dL_job_3 ⟨h_1, h_2⟩) hS (fun q _ h => hFc q h) hFc (fun y4 u3 t H1 locs ht hvm hw hB hz1 hk1 hS => ?_)
  obtain ⟨hP1, hK1, hD1⟩ := hB
  rw [ht] at hP1
  have hK1 := va_K.moved hvm.symm hK1
  obtain ⟨hP, hD⟩ := va_join (wr := [(ho, .inl (cO, 1, .inr (.inl fo)))]) (w1 := [(h0, .inr (12, [.ref h1, .int 0, .int 3, .ref h6, a4, .ref h5, a6, .ref h7, a8])), (h1, .inl (cT, 1500, .inl f1)), (h6, .inr (6, [.ref h1, .int 0, .int 0, .int 0, b4, .int 0, .int 3, .ref h5, b8])), (h5, .inr (4, [c0, .int 0, .int 0, c3, .ref j1, c5, c6, .int 0, c8, c9, c10, c11, .ref j2, .ref j3])), (j1, .inl (cB, 4, .inl (upd (upd (upd (upd g1 0 (-1)) 1 (-1)) 2 (-1)) 3 (-1)))), (j2, .inl (cC, 4, .inl (upd (upd (upd (upd g2 0 0) 1 0) 2 0) 3 0))), (j3, .inl (cD, 4, .inl (upd (upd (upd (upd g3 0 (vp_nar .boolean 0)) 1 (vp_nar .boolean 0)) 2 (vp_nar .boolean 0)) 3 (vp_nar .boolean 0)))), (h7, .inr (9, [e0, e1, .ref h8, e3, e4, e5, e6, e7, e8, e9, e10, e11, e12, e13, e14, e15, e16, e17, e18, e19])), (h8, .inr (3, [d0, d1, d2, d3, d4, d5, d6, d7, d8, .int 0]))]) hP hD [0, 1, 2, 3, 4, 5, 6, 7, 8] [9] rfl rfl (by decide) (by decide) hk1 hFc hP1 hD1
  have hK := (hK.sub (tys' := [(cO, .long)]) [4] rfl).app hK1
  generalize H1 = H at hP hS ⊢
  have hP : va_P (dC, dI) vwCl [(ho, .inl (cO, 1, .inr (.inl fo))), (h0, .inr (12, [.ref h1, .int 0, .int 3, .ref h6, a4, .ref h5, a6, .ref h7, a8])), (h1, .inl (cT, 1500, .inl f1)), (h6, .inr (6, [.ref h1, .int 0, .int 0, .int 0, b4, .int 0, .int 3, .ref h5, b8])), (h5, .inr (4, [c0, .int 0, .int 0, c3, .ref j1, c5, c6, .int 0, c8, c9, c10, c11, .ref j2, .ref j3])), (j1, .inl (cB, 4, .inl (upd (upd (upd (upd g1 0 (-1)) 1 (-1)) 2 (-1)) 3 (-1)))), (j2, .inl (cC, 4, .inl (upd (upd (upd (upd g2 0 0) 1 0) 2 0) 3 0))), (j3, .inl (cD, 4, .inl (upd (upd (upd (upd g3 0 (vp_nar .boolean 0)) 1 (vp_nar .boolean 0)) 2 (vp_nar .boolean 0)) 3 (vp_nar .boolean 0)))), (h7, .inr (9, [e0, e1, .ref h8, e3, e4, e5, e6, e7, e8, e9, e10, e11, e12, e13, e14, e15, e16, e17, e18, e19])), (h8, .inr (3, [d0, d1, d2, d3, d4, d5, d6, d7, d8, .int 0]))] H := hP
  have hD : va_D A [(ho, .inl (cO, 1, .inr (.inl fo))), (h0, .inr (12, [.ref h1, .int 0, .int 3, .ref h6, a4, .ref h5, a6, .ref h7, a8])), (h1, .inl (cT, 1500, .inl f1)), (h6, .inr (6, [.ref h1, .int 0, .int 0, .int 0, b4, .int 0, .int 3, .ref h5, b8])), (h5, .inr (4, [c0, .int 0, .int 0, c3, .ref j1, c5, c6, .int 0, c8, c9, c10, c11, .ref j2, .ref j3])), (j1, .inl (cB, 4, .inl (upd (upd (upd (upd g1 0 (-1)) 1 (-1)) 2 (-1)) 3 (-1)))), (j2, .inl (cC, 4, .inl (upd (upd (upd (upd g2 0 0) 1 0) 2 0) 3 0))), (j3, .inl (cD, 4, .inl (upd (upd (upd (upd g3 0 (vp_nar .boolean 0)) 1 (vp_nar .boolean 0)) 2 (vp_nar .boolean 0)) 3 (vp_nar .boolean 0)))), (h7, .inr (9, [e0, e1, .ref h8, e3, e4, e5, e6, e7, e8, e9, e10, e11, e12, e13, e14, e15, e16, e17, e18, e19])), (h8, .inr (3, [d0, d1, d2, d3, d4, d5, d6, d7, d8, .int 0]))] := hD
  have hK : va_K (dC, dI) vwCl [(cO, .long), (cT, .byte), (cD, .boolean), (cB, .int), (cC, .int)] s := hK
  refine W.widen (k := 1) (n := 6) (by decide) (by decide) ?_
  have hw : y4 = (-1) := hw
  subst hw
  refine lv_i2l (v := (-1)) hx hb dL_job_6 (by decide) ?_
  refine va_last hx hb hK hP hD hS 0 0 rfl rfl (by unfold vp_in; decide) dL_job_7 (fun H locs hP hD hS => ?_)
  have hP : va_P (dC, dI) vwCl [(ho, .inl (cO, 1, .inr (.inl (vp_updL fo 0 (-1))))), (h0, .inr (12, [.ref h1, .int 0, .int 3, .ref h6, a4, .ref h5, a6, .ref h7, a8])), (h1, .inl (cT, 1500, .inl f1)), (h6, .inr (6, [.ref h1, .int 0, .int 0, .int 0, b4, .int 0, .int 3, .ref h5, b8])), (h5, .inr (4, [c0, .int 0, .int 0, c3, .ref j1, c5, c6, .int 0, c8, c9, c10, c11, .ref j2, .ref j3])), (j1, .inl (cB, 4, .inl (upd (upd (upd (upd g1 0 (-1)) 1 (-1)) 2 (-1)) 3 (-1)))), (j2, .inl (cC, 4, .inl (upd (upd (upd (upd g2 0 0) 1 0) 2 0) 3 0))), (j3, .inl (cD, 4, .inl (upd (upd (upd (upd g3 0 (vp_nar .boolean 0)) 1 (vp_nar .boolean 0)) 2 (vp_nar .boolean 0)) 3 (vp_nar .boolean 0)))), (h7, .inr (9, [e0, e1, .ref h8, e3, e4, e5, e6, e7, e8, e9, e10, e11, e12, e13, e14, e15, e16, e17, e18, e19])), (h8, .inr (3, [d0, d1, d2, d3, d4, d5, d6, d7, d8, .int 0]))] H := hP
  have hD : va_D A [(ho, .inl (cO, 1, .inr (.inl (vp_updL fo 0 (-1))))), (h0, .inr (12, [.ref h1, .int 0, .int 3, .ref h6, a4, .ref h5, a6, .ref h7, a8])), (h1, .inl (cT, 1500, .inl f1)), (h6, .inr (6, [.ref h1, .int 0, .int 0, .int 0, b4, .int 0, .int 3, .ref h5, b8])), (h5, .inr (4, [c0, .int 0, .int 0, c3, .ref j1, c5, c6, .int 0, c8, c9, c10, c11, .ref j2, .ref j3])), (j1, .inl (cB, 4, .inl (upd (upd (upd (upd g1 0 (-1)) 1 (-1)) 2 (-1)) 3 (-1)))), (j2, .inl (cC, 4, .inl (upd (upd (upd (upd g2 0 0) 1 0) 2 0) 3 0))), (j3, .inl (cD, 4, .inl (upd (upd (upd (upd g3 0 (vp_nar .boolean 0)) 1 (vp_nar .boolean 0)) 2 (vp_nar .boolean 0)) 3 (vp_nar .boolean 0)))), (h7, .inr (9, [e0, e1, .ref h8, e3, e4, e5, e6, e7, e8, e9, e10, e11, e12, e13, e14, e15, e16, e17, e18, e19])), (h8, .inr (3, [d0, d1, d2, d3, d4, d5, d6, d7, d8, .int 0]))] := hD
  refine lv_goto (tgt := 14) hx hb dL_job_8 (by decide) ?_
  refine lv_iconst (v := 0) hx hb dL_job_14 (by decide) ?_
  have hP9 := hP.sub (ws' := [(h0, .inr (12, [.ref h1, .int 0, .int 3, .ref h6, a4, .ref h5, a6, .ref h7, a8])), (h1, .inl (cT, 1500, .inl f1)), (h6, .inr (6, [.ref h1, .int 0, .int 0, .int 0, b4, .int 0, .int 3, .ref h5, b8])), (h5, .inr (4, [c0, .int 0, .int 0, c3, .ref j1, c5, c6, .int 0, c8, c9, c10, c11, .ref j2, .ref j3])), (j1, .inl (cB, 4, .inl (upd (upd (upd (upd g1 0 (-1)) 1 (-1)) 2 (-1)) 3 (-1)))), (j2, .inl (cC, 4, .inl (upd (upd (upd (upd g2 0 0) 1 0) 2 0) 3 0))), (j3, .inl (cD, 4, .inl (upd (upd (upd (upd g3 0 (vp_nar .boolean 0)) 1 (vp_nar .boolean 0)) 2 (vp_nar .boolean 0)) 3 (vp_nar .boolean 0)))), (h7, .inr (9, [e0, e1, .ref h8, e3, e4, e5, e6, e7, e8, e9, e10, e11, e12, e13, e14, e15, e16, e17, e18, e19])), (h8, .inr (3, [d0, d1, d2, d3, d4, d5, d6, d7, d8, .int 0])), (ho, .inl (cO, 1, .inr (.inl (vp_updL fo 0 (-1)))))]) [1, 2, 3, 4, 5, 6, 7, 8, 9, 0] rfl
  have hD9 := hD.sub (ws' := [(h0, .inr (12, [.ref h1, .int 0, .int 3, .ref h6, a4, .ref h5, a6, .ref h7, a8])), (h1, .inl (cT, 1500, .inl f1)), (h6, .inr (6, [.ref h1, .int 0, .int 0, .int 0, b4, .int 0, .int 3, .ref h5, b8])), (h5, .inr (4, [c0, .int 0, .int 0, c3, .ref j1, c5, c6, .int 0, c8, c9, c10, c11, .ref j2, .ref j3])), (j1, .inl (cB, 4, .inl (upd (upd (upd (upd g1 0 (-1)) 1 (-1)) 2 (-1)) 3 (-1)))), (j2, .inl (cC, 4, .inl (upd (upd (upd (upd g2 0 0) 1 0) 2 0) 3 0))), (j3, .inl (cD, 4, .inl (upd (upd (upd (upd g3 0 (vp_nar .boolean 0)) 1 (vp_nar .boolean 0)) 2 (vp_nar .boolean 0)) 3 (vp_nar .boolean 0)))), (h7, .inr (9, [e0, e1, .ref h8, e3, e4, e5, e6, e7, e8, e9, e10, e11, e12, e13, e14, e15, e16, e17, e18, e19])), (h8, .inr (3, [d0, d1, d2, d3, d4, d5, d6, d7, d8, .int 0])), (ho, .inl (cO, 1, .inr (.inl (vp_updL fo 0 (-1)))))]) [1, 2, 3, 4, 5, 6, 7, 8, 9, 0] (by decide) rfl
  have hK9 := hK.sub (tys' := [(cO, .long), (cT, .byte), (cD, .boolean), (cB, .int), (cC, .int)]) [0, 1, 2, 3, 4] rfl
  refine W.widen (k := 1) (n := 6) (by decide) (by decide) ?_
  exact W.iret (v := 0) hx hb hr (fun t ht hW => ⟨⟨0, (), rfl, rfl, by rw [ht]; exact hP9, va_K.moved hW.alike hK9, hD9⟩, hS.F ht⟩) hS.2.2 dL_job_15


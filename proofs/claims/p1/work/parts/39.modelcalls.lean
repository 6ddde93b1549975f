theorem vy_m1 (x : Int64) : x < 0 ∨ (-1) < x := by
  by_cases h : x < 0
  · exact Or.inl h
  · refine Or.inr ?_
    have h2 := Int64.le_iff_toInt_le.mp (Int64.not_lt.mp h)
    rw [Int64.lt_iff_toInt_lt]
    have e0 : (0 : Int64).toInt = 0 := by decide
    have e1 : (-1 : Int64).toInt = -1 := by decide
    omega
abbrev ar_X16_within_1 (dC : Nat → ClassId) (dI : Nat → Nat → Nat) (A : Nat → Prop) (g1 g2 g3 : Int64) (_ : Unit) (t : State) : Prop := va_P (dC, dI) vwCl [] t.heap ∧ va_K (dC, dI) vwCl [] t ∧ va_D A []
theorem dX16_within_1_0 : decode cX16_within 0 = .ok (.lload_n 0, 1) := by decide +kernel
theorem dX16_within_1_1 : decode cX16_within 1 = .ok (.lload_n 2, 1) := by decide +kernel
theorem dX16_within_1_2 : decode cX16_within 2 = .ok (.lcmp, 1) := by decide +kernel
theorem dX16_within_1_3 : decode cX16_within 3 = .ok (.ifCond .lt 14, 3) := by decide +kernel
theorem dX16_within_1_6 : decode cX16_within 6 = .ok (.lload_n 0, 1) := by decide +kernel
theorem dX16_within_1_7 : decode cX16_within 7 = .ok (.lload 4, 2) := by decide +kernel
theorem dX16_within_1_9 : decode cX16_within 9 = .ok (.lcmp, 1) := by decide +kernel
theorem dX16_within_1_10 : decode cX16_within 10 = .ok (.ifCond .gt 7, 3) := by decide +kernel
theorem dX16_within_1_13 : decode cX16_within 13 = .ok (.iconst 1, 1) := by decide +kernel
theorem dX16_within_1_14 : decode cX16_within 14 = .ok (.goto 4, 3) := by decide +kernel
theorem dX16_within_1_18 : decode cX16_within 18 = .ok (.ireturn, 1) := by decide +kernel
def ww_X16_within_1 : List Cond := []
def wv_X16_within_1 : List Cond := .code yX16_within cX16_within 6 (some .boolean) :: (ww_X16_within_1 ++ [])
theorem wm_X16_within_1 {w : Cond} (i : Nat) (h : ww_X16_within_1[i]? = some w) : w ∈ wv_X16_within_1 := List.mem_cons_of_mem _ (List.mem_append_left _ (List.mem_of_getElem? h))
set_option maxRecDepth 100000 in
theorem gw_X16_within_1 : wv_X16_within_1.all goodWord = true := by decide +kernel
set_option maxHeartbeats 4000000 in
set_option maxRecDepth 100000 in
/-- within, inside -/
theorem r_X16_within_1 (l : Launch) (dC : Nat → ClassId) (dI : Nat → Nat → Nat) (g1 g2 g3 : Int64) (sz : Nat) : Met l yX16_within wv_X16_within_1 ({ frames := 0, cells := 0, slots := 0, locals := 0 }) (va_Pc [.long g1, .long g2, .long g3] (fun U => U.heap.size = sz ∧ va_P (dC, dI) vwCl [] U.heap ∧ va_K (dC, dI) vwCl [] U ∧ va_D (fun _ => True) [] ∧ (g2 ≤ g1 ∧ g1 ≤ g3))) (va_Qi (fun r (_ : Unit) => r = 1) (ar_X16_within_1 dC dI (va_A [] sz) g1 g2 g3) (va_A [] sz)) 0 0 (va_A [] sz) := by
  refine Met.ofW (cc := cX16_within) (maxL := 6) (ret := (some .boolean)) (by decide) rfl ?_
  intro p e s m args below meth c s₁ B hml hv
  obtain ⟨rfl, hsz, hP, hK, hD0, hpre⟩ := hv
  have hx := B.exec
  have hb := B.bytes
  have hr := B.returns
  have hts := atoms_spec (ws := wv_X16_within_1) B.pre
  have hown : s.vm.findClass RX16 = some m.cls := findClass_of_methodNamed B.named
  have hlocks := B.notSynchronized
  subst hsz
  have hD := hD0.self (sz := s.heap.size)
  generalize hAe : va_A [] s.heap.size = A at hD ⊢
  have hA : ∀ q : Nat, s.heap.size ≤ q → A q := fun q h => by rw [← hAe]; exact Or.inr h
  have hS : va_S A s.heap s.heap [] := va_S.rf
  have hP : va_P (dC, dI) vwCl [] s.heap := hP
  have hl := lv_entry ([.long g1, .long g2, .long g3]) (n := 6) (Nat.le_of_ble_eq_true rfl)
  rw [lg_entry_eq]
  generalize (lg_sl ([.long g1, .long g2, .long g3]) ++ List.replicate (6 - (lg_sl ([.long g1, .long g2, .long g3])).length) Slot.unset).toArray = ls at hl ⊢
  have hl : lv_has ls 6 [(0, .long g1), (2, .long g2), (4, .long g3)] := hl
  refine lv_lload_n hx hb dX16_within_1_0 rfl (lv_at hl 0 rfl) ?_
  refine lv_lload_n hx hb dX16_within_1_1 rfl (lv_at hl 1 rfl) ?_
  refine W.lcmp hx hb dX16_within_1_2 ?_
  refine lv_if_lt (tgt := 17) hx hb dX16_within_1_3 (by decide) (fun h9 => absurd h9 (fun h => absurd ((lg_cmp_lt _ _).mp h) (Int64.not_lt.mpr hpre.1))) (fun _ => ?_)
  refine lv_lload_n hx hb dX16_within_1_6 rfl (lv_at hl 0 rfl) ?_
  refine lv_lload hx hb dX16_within_1_7 (lv_at hl 2 rfl) ?_
  refine W.lcmp hx hb dX16_within_1_9 ?_
  refine lv_if_gt (tgt := 17) hx hb dX16_within_1_10 (by decide) (fun h9 => absurd h9 (fun h => absurd ((lg_cmp_gt _ _).mp h) (Int64.not_lt.mpr hpre.2))) (fun _ => ?_)
  refine lv_iconst (v := 1) hx hb dX16_within_1_13 (by decide) ?_
  refine lv_goto (tgt := 18) hx hb dX16_within_1_14 (by decide) ?_
  have hP9 := hP.sub (ws' := []) [] rfl
  have hD9 := hD.sub (ws' := []) [] (by decide) rfl
  have hK9 := hK.sub (tys' := []) [] rfl
  refine W.widen (k := 0) (n := 0) (by decide) (by decide) ?_
  exact W.zret (v := 1) hx hb hr rfl (fun t ht hW => ⟨⟨1, (), rfl, rfl, by rw [ht]; exact hP9, va_K.moved hW.alike hK9, hD9⟩, hS.F ht⟩) hS.2.2 dX16_within_1_18

abbrev ar_X16_within_0 (dC : Nat → ClassId) (dI : Nat → Nat → Nat) (A : Nat → Prop) (g1 g2 g3 : Int64) (_ : Unit) (t : State) : Prop := va_P (dC, dI) vwCl [] t.heap ∧ va_K (dC, dI) vwCl [] t ∧ va_D A []
theorem dX16_within_0_0 : decode cX16_within 0 = .ok (.lload_n 0, 1) := by decide +kernel
theorem dX16_within_0_1 : decode cX16_within 1 = .ok (.lload_n 2, 1) := by decide +kernel
theorem dX16_within_0_2 : decode cX16_within 2 = .ok (.lcmp, 1) := by decide +kernel
theorem dX16_within_0_3 : decode cX16_within 3 = .ok (.ifCond .lt 14, 3) := by decide +kernel
theorem dX16_within_0_6 : decode cX16_within 6 = .ok (.lload_n 0, 1) := by decide +kernel
theorem dX16_within_0_7 : decode cX16_within 7 = .ok (.lload 4, 2) := by decide +kernel
theorem dX16_within_0_9 : decode cX16_within 9 = .ok (.lcmp, 1) := by decide +kernel
theorem dX16_within_0_10 : decode cX16_within 10 = .ok (.ifCond .gt 7, 3) := by decide +kernel
theorem dX16_within_0_17 : decode cX16_within 17 = .ok (.iconst 0, 1) := by decide +kernel
theorem dX16_within_0_18 : decode cX16_within 18 = .ok (.ireturn, 1) := by decide +kernel
def ww_X16_within_0 : List Cond := []
def wv_X16_within_0 : List Cond := .code yX16_within cX16_within 6 (some .boolean) :: (ww_X16_within_0 ++ [])
theorem wm_X16_within_0 {w : Cond} (i : Nat) (h : ww_X16_within_0[i]? = some w) : w ∈ wv_X16_within_0 := List.mem_cons_of_mem _ (List.mem_append_left _ (List.mem_of_getElem? h))
set_option maxRecDepth 100000 in
theorem gw_X16_within_0 : wv_X16_within_0.all goodWord = true := by decide +kernel
set_option maxHeartbeats 4000000 in
set_option maxRecDepth 100000 in
/-- within, outside -/
theorem r_X16_within_0 (l : Launch) (dC : Nat → ClassId) (dI : Nat → Nat → Nat) (g1 g2 g3 : Int64) (sz : Nat) : Met l yX16_within wv_X16_within_0 ({ frames := 0, cells := 0, slots := 0, locals := 0 }) (va_Pc [.long g1, .long g2, .long g3] (fun U => U.heap.size = sz ∧ va_P (dC, dI) vwCl [] U.heap ∧ va_K (dC, dI) vwCl [] U ∧ va_D (fun _ => True) [] ∧ (g1 < g2 ∨ g3 < g1))) (va_Qi (fun r (_ : Unit) => r = 0) (ar_X16_within_0 dC dI (va_A [] sz) g1 g2 g3) (va_A [] sz)) 0 0 (va_A [] sz) := by
  refine Met.ofW (cc := cX16_within) (maxL := 6) (ret := (some .boolean)) (by decide) rfl ?_
  intro p e s m args below meth c s₁ B hml hv
  obtain ⟨rfl, hsz, hP, hK, hD0, hpre⟩ := hv
  have hx := B.exec
  have hb := B.bytes
  have hr := B.returns
  have hts := atoms_spec (ws := wv_X16_within_0) B.pre
  have hown : s.vm.findClass RX16 = some m.cls := findClass_of_methodNamed B.named
  have hlocks := B.notSynchronized
  subst hsz
  have hD := hD0.self (sz := s.heap.size)
  generalize hAe : va_A [] s.heap.size = A at hD ⊢
  have hA : ∀ q : Nat, s.heap.size ≤ q → A q := fun q h => by rw [← hAe]; exact Or.inr h
  have hS : va_S A s.heap s.heap [] := va_S.rf
  have hP : va_P (dC, dI) vwCl [] s.heap := hP
  have hl := lv_entry ([.long g1, .long g2, .long g3]) (n := 6) (Nat.le_of_ble_eq_true rfl)
  rw [lg_entry_eq]
  generalize (lg_sl ([.long g1, .long g2, .long g3]) ++ List.replicate (6 - (lg_sl ([.long g1, .long g2, .long g3])).length) Slot.unset).toArray = ls at hl ⊢
  have hl : lv_has ls 6 [(0, .long g1), (2, .long g2), (4, .long g3)] := hl
  refine lv_lload_n hx hb dX16_within_0_0 rfl (lv_at hl 0 rfl) ?_
  refine lv_lload_n hx hb dX16_within_0_1 rfl (lv_at hl 1 rfl) ?_
  refine W.lcmp hx hb dX16_within_0_2 ?_
  refine lv_if_lt (tgt := 17) hx hb dX16_within_0_3 (by decide) (fun hc => ?_) (fun hc => ?_)
  · refine lv_iconst (v := 0) hx hb dX16_within_0_17 (by decide) ?_
    have hP9 := hP.sub (ws' := []) [] rfl
    have hD9 := hD.sub (ws' := []) [] (by decide) rfl
    have hK9 := hK.sub (tys' := []) [] rfl
    refine W.widen (k := 0) (n := 0) (by decide) (by decide) ?_
    exact W.zret (v := 0) hx hb hr rfl (fun t ht hW => ⟨⟨0, (), rfl, rfl, by rw [ht]; exact hP9, va_K.moved hW.alike hK9, hD9⟩, hS.F ht⟩) hS.2.2 dX16_within_0_18
  · refine lv_lload_n hx hb dX16_within_0_6 rfl (lv_at hl 0 rfl) ?_
    refine lv_lload hx hb dX16_within_0_7 (lv_at hl 2 rfl) ?_
    refine W.lcmp hx hb dX16_within_0_9 ?_
    refine lv_if_gt (tgt := 17) hx hb dX16_within_0_10 (by decide) (fun _ => ?_) (fun h9 => absurd ((lg_cmp_gt _ _).mpr (by rcases hpre with h | h; exact absurd ((lg_cmp_lt _ _).mpr h) hc; exact h)) h9)
    refine lv_iconst (v := 0) hx hb dX16_within_0_17 (by decide) ?_
    have hP9 := hP.sub (ws' := []) [] rfl
    have hD9 := hD.sub (ws' := []) [] (by decide) rfl
    have hK9 := hK.sub (tys' := []) [] rfl
    refine W.widen (k := 0) (n := 0) (by decide) (by decide) ?_
    exact W.zret (v := 0) hx hb hr rfl (fun t ht hW => ⟨⟨0, (), rfl, rfl, by rw [ht]; exact hP9, va_K.moved hW.alike hK9, hD9⟩, hS.F ht⟩) hS.2.2 dX16_within_0_18

abbrev ar_X16_hasSource (dC : Nat → ClassId) (dI : Nat → Nat → Nat) (A : Nat → Prop) (h0 : Nat) (k1 : Int32) (m0 m1 m2 m5 m6 m7 m8 m9 m10 m11 m12 m13 m14 m15 m16 m18 m19 m20 m21 m22 m23 m24 m25 m26 m28 m29 m33 m34 m35 m37 m38 m39 m40 m41 m42 m43 m44 m45 m46 m47 m48 m49 m51 m52 m53 m54 m55 m56 m57 m58 m59 m60 m61 m62 m63 m64 m65 m66 m67 m68 m69 m70 m71 m72 m73 m74 m75 m76 m77 m78 m79 m80 m81 m82 m83 m84 m85 m86 m87 m88 m89 m90 m91 m94 m95 m96 m97 m98 m99 m100 m101 m102 m103 m104 m105 m106 m107 m108 m109 m113 m114 m115 m116 m117 m118 m119 m120 m121 m122 : Value) (_ : Unit) (t : State) : Prop := va_P (dC, dI) vwCl [(h0, .inr (16, [m0, m1, m2, .int 0, .int 0, m5, m6, m7, m8, m9, m10, m11, m12, m13, m14, m15, m16, .null, m18, m19, m20, m21, m22, m23, m24, m25, m26, .int 0, m28, m29, .int 0, .int 0, .int 0, m33, m34, m35, .int 0, m37, m38, m39, m40, m41, m42, m43, m44, m45, m46, m47, m48, m49, .int 0, m51, m52, m53, m54, m55, m56, m57, m58, m59, m60, m61, m62, m63, m64, m65, m66, m67, m68, m69, m70, m71, m72, m73, m74, m75, m76, m77, m78, m79, m80, m81, m82, m83, m84, m85, m86, m87, m88, m89, m90, m91, .int 0, .int 0, m94, m95, m96, m97, m98, m99, m100, m101, m102, m103, m104, m105, m106, m107, m108, m109, .long 0, .long 0, .int 0, m113, m114, m115, m116, m117, m118, m119, m120, m121, m122]))] t.heap ∧ va_K (dC, dI) vwCl [] t ∧ va_D A [(h0, .inr (16, [m0, m1, m2, .int 0, .int 0, m5, m6, m7, m8, m9, m10, m11, m12, m13, m14, m15, m16, .null, m18, m19, m20, m21, m22, m23, m24, m25, m26, .int 0, m28, m29, .int 0, .int 0, .int 0, m33, m34, m35, .int 0, m37, m38, m39, m40, m41, m42, m43, m44, m45, m46, m47, m48, m49, .int 0, m51, m52, m53, m54, m55, m56, m57, m58, m59, m60, m61, m62, m63, m64, m65, m66, m67, m68, m69, m70, m71, m72, m73, m74, m75, m76, m77, m78, m79, m80, m81, m82, m83, m84, m85, m86, m87, m88, m89, m90, m91, .int 0, .int 0, m94, m95, m96, m97, m98, m99, m100, m101, m102, m103, m104, m105, m106, m107, m108, m109, .long 0, .long 0, .int 0, m113, m114, m115, m116, m117, m118, m119, m120, m121, m122]))]
theorem dX16_hasSource_0 : decode cX16_hasSource 0 = .ok (.aload_n 0, 1) := by decide +kernel
theorem dX16_hasSource_1 : decode cX16_hasSource 1 = .ok (.getfield 356, 3) := by decide +kernel
theorem dX16_hasSource_4 : decode cX16_hasSource 4 = .ok (.ifnull 20, 3) := by decide +kernel
theorem dX16_hasSource_24 : decode cX16_hasSource 24 = .ok (.iconst 0, 1) := by decide +kernel
theorem dX16_hasSource_25 : decode cX16_hasSource 25 = .ok (.ireturn, 1) := by decide +kernel
def ww_X16_hasSource : List Cond := [.fieldLink RX16 356 "StreamHouseModel" "job" "LStreamHouseModel$Job;"]
def wv_X16_hasSource : List Cond := .code yX16_hasSource cX16_hasSource 2 (some .boolean) :: (ww_X16_hasSource ++ (u_ws RX16 TX16 123 ++ []))
theorem wm_X16_hasSource {w : Cond} (i : Nat) (h : ww_X16_hasSource[i]? = some w) : w ∈ wv_X16_hasSource := List.mem_cons_of_mem _ (List.mem_append_left _ (List.mem_of_getElem? h))
set_option maxRecDepth 100000 in
theorem gw_X16_hasSource : wv_X16_hasSource.all goodWord = true := by decide +kernel
theorem wh_X16_hasSource_X16 : ∀ w ∈ u_ws RX16 TX16 123, w ∈ wv_X16_hasSource := fun w h => List.mem_cons_of_mem _ (List.mem_append_right _ (List.mem_append_left _ h))
set_option maxHeartbeats 4000000 in
set_option maxRecDepth 100000 in
/-- hasSource(k) of the fresh reference -/
theorem r_X16_hasSource (l : Launch) (dC : Nat → ClassId) (dI : Nat → Nat → Nat) (h0 : Nat) (k1 : Int32) (m0 m1 m2 m5 m6 m7 m8 m9 m10 m11 m12 m13 m14 m15 m16 m18 m19 m20 m21 m22 m23 m24 m25 m26 m28 m29 m33 m34 m35 m37 m38 m39 m40 m41 m42 m43 m44 m45 m46 m47 m48 m49 m51 m52 m53 m54 m55 m56 m57 m58 m59 m60 m61 m62 m63 m64 m65 m66 m67 m68 m69 m70 m71 m72 m73 m74 m75 m76 m77 m78 m79 m80 m81 m82 m83 m84 m85 m86 m87 m88 m89 m90 m91 m94 m95 m96 m97 m98 m99 m100 m101 m102 m103 m104 m105 m106 m107 m108 m109 m113 m114 m115 m116 m117 m118 m119 m120 m121 m122 : Value) (sz : Nat) : Met l yX16_hasSource wv_X16_hasSource ({ frames := 0, cells := 0, slots := 0, locals := 0 }) (va_Pc [.ref h0, .int k1] (fun U => U.heap.size = sz ∧ va_P (dC, dI) vwCl [(h0, .inr (16, [m0, m1, m2, .int 0, .int 0, m5, m6, m7, m8, m9, m10, m11, m12, m13, m14, m15, m16, .null, m18, m19, m20, m21, m22, m23, m24, m25, m26, .int 0, m28, m29, .int 0, .int 0, .int 0, m33, m34, m35, .int 0, m37, m38, m39, m40, m41, m42, m43, m44, m45, m46, m47, m48, m49, .int 0, m51, m52, m53, m54, m55, m56, m57, m58, m59, m60, m61, m62, m63, m64, m65, m66, m67, m68, m69, m70, m71, m72, m73, m74, m75, m76, m77, m78, m79, m80, m81, m82, m83, m84, m85, m86, m87, m88, m89, m90, m91, .int 0, .int 0, m94, m95, m96, m97, m98, m99, m100, m101, m102, m103, m104, m105, m106, m107, m108, m109, .long 0, .long 0, .int 0, m113, m114, m115, m116, m117, m118, m119, m120, m121, m122]))] U.heap ∧ va_K (dC, dI) vwCl [] U ∧ va_D (fun _ => True) [(h0, .inr (16, [m0, m1, m2, .int 0, .int 0, m5, m6, m7, m8, m9, m10, m11, m12, m13, m14, m15, m16, .null, m18, m19, m20, m21, m22, m23, m24, m25, m26, .int 0, m28, m29, .int 0, .int 0, .int 0, m33, m34, m35, .int 0, m37, m38, m39, m40, m41, m42, m43, m44, m45, m46, m47, m48, m49, .int 0, m51, m52, m53, m54, m55, m56, m57, m58, m59, m60, m61, m62, m63, m64, m65, m66, m67, m68, m69, m70, m71, m72, m73, m74, m75, m76, m77, m78, m79, m80, m81, m82, m83, m84, m85, m86, m87, m88, m89, m90, m91, .int 0, .int 0, m94, m95, m96, m97, m98, m99, m100, m101, m102, m103, m104, m105, m106, m107, m108, m109, .long 0, .long 0, .int 0, m113, m114, m115, m116, m117, m118, m119, m120, m121, m122]))])) (va_Qi (fun r (_ : Unit) => r = 0) (ar_X16_hasSource dC dI (va_A [(h0, .inr (16, [m0, m1, m2, .int 0, .int 0, m5, m6, m7, m8, m9, m10, m11, m12, m13, m14, m15, m16, .null, m18, m19, m20, m21, m22, m23, m24, m25, m26, .int 0, m28, m29, .int 0, .int 0, .int 0, m33, m34, m35, .int 0, m37, m38, m39, m40, m41, m42, m43, m44, m45, m46, m47, m48, m49, .int 0, m51, m52, m53, m54, m55, m56, m57, m58, m59, m60, m61, m62, m63, m64, m65, m66, m67, m68, m69, m70, m71, m72, m73, m74, m75, m76, m77, m78, m79, m80, m81, m82, m83, m84, m85, m86, m87, m88, m89, m90, m91, .int 0, .int 0, m94, m95, m96, m97, m98, m99, m100, m101, m102, m103, m104, m105, m106, m107, m108, m109, .long 0, .long 0, .int 0, m113, m114, m115, m116, m117, m118, m119, m120, m121, m122]))] sz) h0 k1 m0 m1 m2 m5 m6 m7 m8 m9 m10 m11 m12 m13 m14 m15 m16 m18 m19 m20 m21 m22 m23 m24 m25 m26 m28 m29 m33 m34 m35 m37 m38 m39 m40 m41 m42 m43 m44 m45 m46 m47 m48 m49 m51 m52 m53 m54 m55 m56 m57 m58 m59 m60 m61 m62 m63 m64 m65 m66 m67 m68 m69 m70 m71 m72 m73 m74 m75 m76 m77 m78 m79 m80 m81 m82 m83 m84 m85 m86 m87 m88 m89 m90 m91 m94 m95 m96 m97 m98 m99 m100 m101 m102 m103 m104 m105 m106 m107 m108 m109 m113 m114 m115 m116 m117 m118 m119 m120 m121 m122) (va_A [(h0, .inr (16, [m0, m1, m2, .int 0, .int 0, m5, m6, m7, m8, m9, m10, m11, m12, m13, m14, m15, m16, .null, m18, m19, m20, m21, m22, m23, m24, m25, m26, .int 0, m28, m29, .int 0, .int 0, .int 0, m33, m34, m35, .int 0, m37, m38, m39, m40, m41, m42, m43, m44, m45, m46, m47, m48, m49, .int 0, m51, m52, m53, m54, m55, m56, m57, m58, m59, m60, m61, m62, m63, m64, m65, m66, m67, m68, m69, m70, m71, m72, m73, m74, m75, m76, m77, m78, m79, m80, m81, m82, m83, m84, m85, m86, m87, m88, m89, m90, m91, .int 0, .int 0, m94, m95, m96, m97, m98, m99, m100, m101, m102, m103, m104, m105, m106, m107, m108, m109, .long 0, .long 0, .int 0, m113, m114, m115, m116, m117, m118, m119, m120, m121, m122]))] sz)) 0 0 (va_A [(h0, .inr (16, [m0, m1, m2, .int 0, .int 0, m5, m6, m7, m8, m9, m10, m11, m12, m13, m14, m15, m16, .null, m18, m19, m20, m21, m22, m23, m24, m25, m26, .int 0, m28, m29, .int 0, .int 0, .int 0, m33, m34, m35, .int 0, m37, m38, m39, m40, m41, m42, m43, m44, m45, m46, m47, m48, m49, .int 0, m51, m52, m53, m54, m55, m56, m57, m58, m59, m60, m61, m62, m63, m64, m65, m66, m67, m68, m69, m70, m71, m72, m73, m74, m75, m76, m77, m78, m79, m80, m81, m82, m83, m84, m85, m86, m87, m88, m89, m90, m91, .int 0, .int 0, m94, m95, m96, m97, m98, m99, m100, m101, m102, m103, m104, m105, m106, m107, m108, m109, .long 0, .long 0, .int 0, m113, m114, m115, m116, m117, m118, m119, m120, m121, m122]))] sz) := by
  refine Met.ofW (cc := cX16_hasSource) (maxL := 2) (ret := (some .boolean)) (by decide) rfl ?_
  intro p e s m args below meth c s₁ B hml hv
  obtain ⟨rfl, hsz, hP, hK, hD0⟩ := hv
  have hx := B.exec
  have hb := B.bytes
  have hr := B.returns
  have hts := atoms_spec (ws := wv_X16_hasSource) B.pre
  have hown : s.vm.findClass RX16 = some m.cls := findClass_of_methodNamed B.named
  have hlocks := B.notSynchronized
  subst hsz
  have hD := hD0.self (sz := s.heap.size)
  generalize hAe : va_A [(h0, .inr (16, [m0, m1, m2, .int 0, .int 0, m5, m6, m7, m8, m9, m10, m11, m12, m13, m14, m15, m16, .null, m18, m19, m20, m21, m22, m23, m24, m25, m26, .int 0, m28, m29, .int 0, .int 0, .int 0, m33, m34, m35, .int 0, m37, m38, m39, m40, m41, m42, m43, m44, m45, m46, m47, m48, m49, .int 0, m51, m52, m53, m54, m55, m56, m57, m58, m59, m60, m61, m62, m63, m64, m65, m66, m67, m68, m69, m70, m71, m72, m73, m74, m75, m76, m77, m78, m79, m80, m81, m82, m83, m84, m85, m86, m87, m88, m89, m90, m91, .int 0, .int 0, m94, m95, m96, m97, m98, m99, m100, m101, m102, m103, m104, m105, m106, m107, m108, m109, .long 0, .long 0, .int 0, m113, m114, m115, m116, m117, m118, m119, m120, m121, m122]))] s.heap.size = A at hD ⊢
  have hA : ∀ q : Nat, s.heap.size ≤ q → A q := fun q h => by rw [← hAe]; exact Or.inr h
  have hS : va_S A s.heap s.heap [] := va_S.rf
  have hP : va_P (dC, dI) vwCl [(h0, .inr (16, [m0, m1, m2, .int 0, .int 0, m5, m6, m7, m8, m9, m10, m11, m12, m13, m14, m15, m16, .null, m18, m19, m20, m21, m22, m23, m24, m25, m26, .int 0, m28, m29, .int 0, .int 0, .int 0, m33, m34, m35, .int 0, m37, m38, m39, m40, m41, m42, m43, m44, m45, m46, m47, m48, m49, .int 0, m51, m52, m53, m54, m55, m56, m57, m58, m59, m60, m61, m62, m63, m64, m65, m66, m67, m68, m69, m70, m71, m72, m73, m74, m75, m76, m77, m78, m79, m80, m81, m82, m83, m84, m85, m86, m87, m88, m89, m90, m91, .int 0, .int 0, m94, m95, m96, m97, m98, m99, m100, m101, m102, m103, m104, m105, m106, m107, m108, m109, .long 0, .long 0, .int 0, m113, m114, m115, m116, m117, m118, m119, m120, m121, m122]))] s.heap := hP
  have hl := lv_entry ([.ref h0, .int k1]) (n := 2) (Nat.le_of_ble_eq_true rfl)
  rw [lg_entry_eq]
  generalize (lg_sl ([.ref h0, .int k1]) ++ List.replicate (2 - (lg_sl ([.ref h0, .int k1])).length) Slot.unset).toArray = ls at hl ⊢
  have hl : lv_has ls 2 [(0, .ref h0), (1, .int k1)] := hl
  refine lv_aload_n hx hb dX16_hasSource_0 rfl (lv_at hl 0 rfl) ?_
  refine va_get (D := (dC, dI)) (ci := 16) (v := .null) (C := RX16) (T := TX16) (N := 123) hx hb hts wh_X16_hasSource_X16 hown hK hP 0 rfl rfl 17 (by decide) (hts (.fieldLink RX16 356 "StreamHouseModel" "job" "LStreamHouseModel$Job;") (wm_X16_hasSource 0 rfl)) (fun _ h9 => h9) rfl dX16_hasSource_1 ?_
  refine lv_ifnullN (tgt := 24) hx hb dX16_hasSource_4 (by decide) ?_
  refine lv_iconst (v := 0) hx hb dX16_hasSource_24 (by decide) ?_
  have hP9 := hP.sub (ws' := [(h0, .inr (16, [m0, m1, m2, .int 0, .int 0, m5, m6, m7, m8, m9, m10, m11, m12, m13, m14, m15, m16, .null, m18, m19, m20, m21, m22, m23, m24, m25, m26, .int 0, m28, m29, .int 0, .int 0, .int 0, m33, m34, m35, .int 0, m37, m38, m39, m40, m41, m42, m43, m44, m45, m46, m47, m48, m49, .int 0, m51, m52, m53, m54, m55, m56, m57, m58, m59, m60, m61, m62, m63, m64, m65, m66, m67, m68, m69, m70, m71, m72, m73, m74, m75, m76, m77, m78, m79, m80, m81, m82, m83, m84, m85, m86, m87, m88, m89, m90, m91, .int 0, .int 0, m94, m95, m96, m97, m98, m99, m100, m101, m102, m103, m104, m105, m106, m107, m108, m109, .long 0, .long 0, .int 0, m113, m114, m115, m116, m117, m118, m119, m120, m121, m122]))]) [0] rfl
  have hD9 := hD.sub (ws' := [(h0, .inr (16, [m0, m1, m2, .int 0, .int 0, m5, m6, m7, m8, m9, m10, m11, m12, m13, m14, m15, m16, .null, m18, m19, m20, m21, m22, m23, m24, m25, m26, .int 0, m28, m29, .int 0, .int 0, .int 0, m33, m34, m35, .int 0, m37, m38, m39, m40, m41, m42, m43, m44, m45, m46, m47, m48, m49, .int 0, m51, m52, m53, m54, m55, m56, m57, m58, m59, m60, m61, m62, m63, m64, m65, m66, m67, m68, m69, m70, m71, m72, m73, m74, m75, m76, m77, m78, m79, m80, m81, m82, m83, m84, m85, m86, m87, m88, m89, m90, m91, .int 0, .int 0, m94, m95, m96, m97, m98, m99, m100, m101, m102, m103, m104, m105, m106, m107, m108, m109, .long 0, .long 0, .int 0, m113, m114, m115, m116, m117, m118, m119, m120, m121, m122]))]) [0] (by decide) rfl
  have hK9 := hK.sub (tys' := []) [] rfl
  refine W.widen (k := 0) (n := 0) (by decide) (by decide) ?_
  exact W.zret (v := 0) hx hb hr rfl (fun t ht hW => ⟨⟨0, (), rfl, rfl, by rw [ht]; exact hP9, va_K.moved hW.alike hK9, hD9⟩, hS.F ht⟩) hS.2.2 dX16_hasSource_25

abbrev ar_X16_task (dC : Nat → ClassId) (dI : Nat → Nat → Nat) (A : Nat → Prop) (h0 : Nat) (k1 k2 : Int32) (m0 m1 m2 m5 m6 m7 m8 m9 m10 m11 m12 m13 m14 m15 m16 m18 m19 m20 m21 m22 m23 m24 m25 m26 m28 m29 m33 m34 m35 m37 m38 m39 m40 m41 m42 m43 m44 m45 m46 m47 m48 m49 m51 m52 m53 m54 m55 m56 m57 m58 m59 m60 m61 m62 m63 m64 m65 m66 m67 m68 m69 m70 m71 m72 m73 m74 m75 m76 m77 m78 m79 m80 m81 m82 m83 m84 m85 m86 m87 m88 m89 m90 m91 m94 m95 m96 m97 m98 m99 m100 m101 m102 m103 m104 m105 m106 m107 m108 m109 m113 m114 m115 m116 m117 m118 m119 m120 m121 m122 : Value) (_ : Unit) (t : State) : Prop := va_P (dC, dI) vwCl [(h0, .inr (16, [.int 1, m1, m2, .int 0, .int 0, m5, m6, m7, m8, m9, m10, m11, m12, m13, m14, m15, m16, .null, m18, m19, m20, m21, m22, m23, m24, m25, m26, .int 0, m28, m29, .int 0, .int 0, .int 0, m33, m34, m35, .int 0, m37, m38, m39, m40, m41, m42, m43, m44, m45, m46, m47, m48, m49, .int 0, m51, m52, m53, m54, m55, m56, m57, m58, m59, m60, m61, m62, m63, m64, m65, m66, m67, m68, m69, m70, m71, m72, m73, m74, m75, m76, m77, m78, m79, m80, m81, m82, m83, m84, m85, m86, m87, m88, m89, m90, m91, .int 0, .int 0, m94, m95, m96, m97, m98, m99, m100, m101, m102, m103, m104, m105, m106, m107, m108, m109, .long 0, .long 0, .int 0, m113, m114, m115, m116, m117, m118, m119, m120, m121, m122]))] t.heap ∧ va_K (dC, dI) vwCl [] t ∧ va_D A [(h0, .inr (16, [.int 1, m1, m2, .int 0, .int 0, m5, m6, m7, m8, m9, m10, m11, m12, m13, m14, m15, m16, .null, m18, m19, m20, m21, m22, m23, m24, m25, m26, .int 0, m28, m29, .int 0, .int 0, .int 0, m33, m34, m35, .int 0, m37, m38, m39, m40, m41, m42, m43, m44, m45, m46, m47, m48, m49, .int 0, m51, m52, m53, m54, m55, m56, m57, m58, m59, m60, m61, m62, m63, m64, m65, m66, m67, m68, m69, m70, m71, m72, m73, m74, m75, m76, m77, m78, m79, m80, m81, m82, m83, m84, m85, m86, m87, m88, m89, m90, m91, .int 0, .int 0, m94, m95, m96, m97, m98, m99, m100, m101, m102, m103, m104, m105, m106, m107, m108, m109, .long 0, .long 0, .int 0, m113, m114, m115, m116, m117, m118, m119, m120, m121, m122]))]
theorem dX16_task_0 : decode cX16_task 0 = .ok (.aload_n 0, 1) := by decide +kernel
theorem dX16_task_1 : decode cX16_task 1 = .ok (.iload_n 1, 1) := by decide +kernel
theorem dX16_task_2 : decode cX16_task 2 = .ok (.i2l, 1) := by decide +kernel
theorem dX16_task_3 : decode cX16_task 3 = .ok (.lconst 0, 1) := by decide +kernel
theorem dX16_task_4 : decode cX16_task 4 = .ok (.aload_n 0, 1) := by decide +kernel
theorem dX16_task_5 : decode cX16_task 5 = .ok (.getfield 399, 3) := by decide +kernel
theorem dX16_task_8 : decode cX16_task 8 = .ok (.iconst 1, 1) := by decide +kernel
theorem dX16_task_9 : decode cX16_task 9 = .ok (.isub, 1) := by decide +kernel
theorem dX16_task_10 : decode cX16_task 10 = .ok (.i2l, 1) := by decide +kernel
theorem dX16_task_11 : decode cX16_task 11 = .ok (.invokestatic 45, 3) := by decide +kernel
theorem dX16_task_14 : decode cX16_task 14 = .ok (.ifCond .ne 7, 3) := by decide +kernel
theorem dX16_task_17 : decode cX16_task 17 = .ok (.iconst 1, 1) := by decide +kernel
theorem dX16_task_18 : decode cX16_task 18 = .ok (.goto 38, 3) := by decide +kernel
theorem dX16_task_56 : decode cX16_task 56 = .ok (.putfield 1, 3) := by decide +kernel
theorem dX16_task_59 : decode cX16_task 59 = .ok (.aload_n 0, 1) := by decide +kernel
theorem dX16_task_60 : decode cX16_task 60 = .ok (.getfield 1, 3) := by decide +kernel
theorem dX16_task_63 : decode cX16_task 63 = .ok (.ifCond .le 5, 3) := by decide +kernel
theorem dX16_task_66 : decode cX16_task 66 = .ok (.lconst 0, 1) := by decide +kernel
theorem dX16_task_67 : decode cX16_task 67 = .ok (.lreturn, 1) := by decide +kernel
def ww_X16_task : List Cond := [.fieldLink RX16 399 "StreamHouseModel" "tasks" "I", .initialized RX16, .methodLink RX16 45 yX16_within, .static yX16_within, .fieldLink RX16 1 "StreamHouseModel" "code" "I"]
def wv_X16_task : List Cond := .code yX16_task cX16_task 5 (some .long) :: (ww_X16_task ++ (u_ws RX16 TX16 123 ++ (wv_X16_within_0 ++ [])))
theorem wm_X16_task {w : Cond} (i : Nat) (h : ww_X16_task[i]? = some w) : w ∈ wv_X16_task := List.mem_cons_of_mem _ (List.mem_append_left _ (List.mem_of_getElem? h))
set_option maxRecDepth 100000 in
theorem gw_X16_task : wv_X16_task.all goodWord = true := by decide +kernel
theorem wh_X16_task_X16 : ∀ w ∈ u_ws RX16 TX16 123, w ∈ wv_X16_task := fun w h => List.mem_cons_of_mem _ (List.mem_append_right _ (List.mem_append_left _ h))
theorem wg_X16_task_X16_within_0 : GoodIn wv_X16_task wv_X16_within_0 := goodIn_sub (fun w h => List.mem_cons_of_mem _ (List.mem_append_right _ (List.mem_append_right _ (List.mem_append_left _ h)))) gw_X16_within_0
theorem wt_X16_task_X16_within_0 : GoodIn wv_X16_task (va_wsS RX16 45 yX16_within wv_X16_within_0) := goodIn_app (goodIn_sub (fun w h => by simp only [List.mem_cons, List.not_mem_nil, or_false] at h; rcases h with rfl | rfl | rfl <;> first | exact wm_X16_task 2 rfl | exact wm_X16_task 3 rfl | exact wm_X16_task 1 rfl) (by decide +kernel)) wg_X16_task_X16_within_0
set_option maxHeartbeats 4000000 in
set_option maxRecDepth 100000 in
/-- task(..) of the fresh reference -/
theorem r_X16_task (l : Launch) (dC : Nat → ClassId) (dI : Nat → Nat → Nat) (h0 : Nat) (k1 k2 : Int32) (m0 m1 m2 m5 m6 m7 m8 m9 m10 m11 m12 m13 m14 m15 m16 m18 m19 m20 m21 m22 m23 m24 m25 m26 m28 m29 m33 m34 m35 m37 m38 m39 m40 m41 m42 m43 m44 m45 m46 m47 m48 m49 m51 m52 m53 m54 m55 m56 m57 m58 m59 m60 m61 m62 m63 m64 m65 m66 m67 m68 m69 m70 m71 m72 m73 m74 m75 m76 m77 m78 m79 m80 m81 m82 m83 m84 m85 m86 m87 m88 m89 m90 m91 m94 m95 m96 m97 m98 m99 m100 m101 m102 m103 m104 m105 m106 m107 m108 m109 m113 m114 m115 m116 m117 m118 m119 m120 m121 m122 : Value) (sz : Nat) : Met l yX16_task wv_X16_task ({ frames := 1, cells := 0, slots := 0, locals := 25 }) (va_Pc [.ref h0, .int k1, .int k2] (fun U => U.heap.size = sz ∧ va_P (dC, dI) vwCl [(h0, .inr (16, [m0, m1, m2, .int 0, .int 0, m5, m6, m7, m8, m9, m10, m11, m12, m13, m14, m15, m16, .null, m18, m19, m20, m21, m22, m23, m24, m25, m26, .int 0, m28, m29, .int 0, .int 0, .int 0, m33, m34, m35, .int 0, m37, m38, m39, m40, m41, m42, m43, m44, m45, m46, m47, m48, m49, .int 0, m51, m52, m53, m54, m55, m56, m57, m58, m59, m60, m61, m62, m63, m64, m65, m66, m67, m68, m69, m70, m71, m72, m73, m74, m75, m76, m77, m78, m79, m80, m81, m82, m83, m84, m85, m86, m87, m88, m89, m90, m91, .int 0, .int 0, m94, m95, m96, m97, m98, m99, m100, m101, m102, m103, m104, m105, m106, m107, m108, m109, .long 0, .long 0, .int 0, m113, m114, m115, m116, m117, m118, m119, m120, m121, m122]))] U.heap ∧ va_K (dC, dI) vwCl [] U ∧ va_D (fun _ => True) [(h0, .inr (16, [m0, m1, m2, .int 0, .int 0, m5, m6, m7, m8, m9, m10, m11, m12, m13, m14, m15, m16, .null, m18, m19, m20, m21, m22, m23, m24, m25, m26, .int 0, m28, m29, .int 0, .int 0, .int 0, m33, m34, m35, .int 0, m37, m38, m39, m40, m41, m42, m43, m44, m45, m46, m47, m48, m49, .int 0, m51, m52, m53, m54, m55, m56, m57, m58, m59, m60, m61, m62, m63, m64, m65, m66, m67, m68, m69, m70, m71, m72, m73, m74, m75, m76, m77, m78, m79, m80, m81, m82, m83, m84, m85, m86, m87, m88, m89, m90, m91, .int 0, .int 0, m94, m95, m96, m97, m98, m99, m100, m101, m102, m103, m104, m105, m106, m107, m108, m109, .long 0, .long 0, .int 0, m113, m114, m115, m116, m117, m118, m119, m120, m121, m122]))])) (va_Ql (fun r (_ : Unit) => r = 0) (ar_X16_task dC dI (va_A [(h0, .inr (16, [m0, m1, m2, .int 0, .int 0, m5, m6, m7, m8, m9, m10, m11, m12, m13, m14, m15, m16, .null, m18, m19, m20, m21, m22, m23, m24, m25, m26, .int 0, m28, m29, .int 0, .int 0, .int 0, m33, m34, m35, .int 0, m37, m38, m39, m40, m41, m42, m43, m44, m45, m46, m47, m48, m49, .int 0, m51, m52, m53, m54, m55, m56, m57, m58, m59, m60, m61, m62, m63, m64, m65, m66, m67, m68, m69, m70, m71, m72, m73, m74, m75, m76, m77, m78, m79, m80, m81, m82, m83, m84, m85, m86, m87, m88, m89, m90, m91, .int 0, .int 0, m94, m95, m96, m97, m98, m99, m100, m101, m102, m103, m104, m105, m106, m107, m108, m109, .long 0, .long 0, .int 0, m113, m114, m115, m116, m117, m118, m119, m120, m121, m122]))] sz) h0 k1 k2 m0 m1 m2 m5 m6 m7 m8 m9 m10 m11 m12 m13 m14 m15 m16 m18 m19 m20 m21 m22 m23 m24 m25 m26 m28 m29 m33 m34 m35 m37 m38 m39 m40 m41 m42 m43 m44 m45 m46 m47 m48 m49 m51 m52 m53 m54 m55 m56 m57 m58 m59 m60 m61 m62 m63 m64 m65 m66 m67 m68 m69 m70 m71 m72 m73 m74 m75 m76 m77 m78 m79 m80 m81 m82 m83 m84 m85 m86 m87 m88 m89 m90 m91 m94 m95 m96 m97 m98 m99 m100 m101 m102 m103 m104 m105 m106 m107 m108 m109 m113 m114 m115 m116 m117 m118 m119 m120 m121 m122) (va_A [(h0, .inr (16, [m0, m1, m2, .int 0, .int 0, m5, m6, m7, m8, m9, m10, m11, m12, m13, m14, m15, m16, .null, m18, m19, m20, m21, m22, m23, m24, m25, m26, .int 0, m28, m29, .int 0, .int 0, .int 0, m33, m34, m35, .int 0, m37, m38, m39, m40, m41, m42, m43, m44, m45, m46, m47, m48, m49, .int 0, m51, m52, m53, m54, m55, m56, m57, m58, m59, m60, m61, m62, m63, m64, m65, m66, m67, m68, m69, m70, m71, m72, m73, m74, m75, m76, m77, m78, m79, m80, m81, m82, m83, m84, m85, m86, m87, m88, m89, m90, m91, .int 0, .int 0, m94, m95, m96, m97, m98, m99, m100, m101, m102, m103, m104, m105, m106, m107, m108, m109, .long 0, .long 0, .int 0, m113, m114, m115, m116, m117, m118, m119, m120, m121, m122]))] sz)) 0 0 (va_A [(h0, .inr (16, [m0, m1, m2, .int 0, .int 0, m5, m6, m7, m8, m9, m10, m11, m12, m13, m14, m15, m16, .null, m18, m19, m20, m21, m22, m23, m24, m25, m26, .int 0, m28, m29, .int 0, .int 0, .int 0, m33, m34, m35, .int 0, m37, m38, m39, m40, m41, m42, m43, m44, m45, m46, m47, m48, m49, .int 0, m51, m52, m53, m54, m55, m56, m57, m58, m59, m60, m61, m62, m63, m64, m65, m66, m67, m68, m69, m70, m71, m72, m73, m74, m75, m76, m77, m78, m79, m80, m81, m82, m83, m84, m85, m86, m87, m88, m89, m90, m91, .int 0, .int 0, m94, m95, m96, m97, m98, m99, m100, m101, m102, m103, m104, m105, m106, m107, m108, m109, .long 0, .long 0, .int 0, m113, m114, m115, m116, m117, m118, m119, m120, m121, m122]))] sz) := by
  refine Met.ofW (cc := cX16_task) (maxL := 5) (ret := (some .long)) (by decide) rfl ?_
  intro p e s m args below meth c s₁ B hml hv
  obtain ⟨rfl, hsz, hP, hK, hD0⟩ := hv
  have hx := B.exec
  have hb := B.bytes
  have hr := B.returns
  have hts := atoms_spec (ws := wv_X16_task) B.pre
  have hown : s.vm.findClass RX16 = some m.cls := findClass_of_methodNamed B.named
  have hlocks := B.notSynchronized
  subst hsz
  have hD := hD0.self (sz := s.heap.size)
  generalize hAe : va_A [(h0, .inr (16, [m0, m1, m2, .int 0, .int 0, m5, m6, m7, m8, m9, m10, m11, m12, m13, m14, m15, m16, .null, m18, m19, m20, m21, m22, m23, m24, m25, m26, .int 0, m28, m29, .int 0, .int 0, .int 0, m33, m34, m35, .int 0, m37, m38, m39, m40, m41, m42, m43, m44, m45, m46, m47, m48, m49, .int 0, m51, m52, m53, m54, m55, m56, m57, m58, m59, m60, m61, m62, m63, m64, m65, m66, m67, m68, m69, m70, m71, m72, m73, m74, m75, m76, m77, m78, m79, m80, m81, m82, m83, m84, m85, m86, m87, m88, m89, m90, m91, .int 0, .int 0, m94, m95, m96, m97, m98, m99, m100, m101, m102, m103, m104, m105, m106, m107, m108, m109, .long 0, .long 0, .int 0, m113, m114, m115, m116, m117, m118, m119, m120, m121, m122]))] s.heap.size = A at hD ⊢
  have hA : ∀ q : Nat, s.heap.size ≤ q → A q := fun q h => by rw [← hAe]; exact Or.inr h
  have hS : va_S A s.heap s.heap [] := va_S.rf
  have hP : va_P (dC, dI) vwCl [(h0, .inr (16, [m0, m1, m2, .int 0, .int 0, m5, m6, m7, m8, m9, m10, m11, m12, m13, m14, m15, m16, .null, m18, m19, m20, m21, m22, m23, m24, m25, m26, .int 0, m28, m29, .int 0, .int 0, .int 0, m33, m34, m35, .int 0, m37, m38, m39, m40, m41, m42, m43, m44, m45, m46, m47, m48, m49, .int 0, m51, m52, m53, m54, m55, m56, m57, m58, m59, m60, m61, m62, m63, m64, m65, m66, m67, m68, m69, m70, m71, m72, m73, m74, m75, m76, m77, m78, m79, m80, m81, m82, m83, m84, m85, m86, m87, m88, m89, m90, m91, .int 0, .int 0, m94, m95, m96, m97, m98, m99, m100, m101, m102, m103, m104, m105, m106, m107, m108, m109, .long 0, .long 0, .int 0, m113, m114, m115, m116, m117, m118, m119, m120, m121, m122]))] s.heap := hP
  have hl := lv_entry ([.ref h0, .int k1, .int k2]) (n := 5) (Nat.le_of_ble_eq_true rfl)
  rw [lg_entry_eq]
  generalize (lg_sl ([.ref h0, .int k1, .int k2]) ++ List.replicate (5 - (lg_sl ([.ref h0, .int k1, .int k2])).length) Slot.unset).toArray = ls at hl ⊢
  have hl : lv_has ls 5 [(0, .ref h0), (1, .int k1), (2, .int k2)] := hl
  refine lv_aload_n hx hb dX16_task_0 rfl (lv_at hl 0 rfl) ?_
  refine lv_iload_n hx hb dX16_task_1 rfl (lv_at hl 1 rfl) ?_
  refine lv_i2l (v := k1.toInt64) hx hb dX16_task_2 rfl ?_
  refine lv_lconst (v := 0) hx hb dX16_task_3 (by decide) ?_
  refine lv_aload_n hx hb dX16_task_4 rfl (lv_at hl 0 rfl) ?_
  refine va_get (D := (dC, dI)) (ci := 16) (v := .int 0) (C := RX16) (T := TX16) (N := 123) hx hb hts wh_X16_task_X16 hown hK hP 0 rfl rfl 36 (by decide) (hts (.fieldLink RX16 399 "StreamHouseModel" "tasks" "I") (wm_X16_task 0 rfl)) (fun _ h9 => h9) rfl dX16_task_5 ?_
  refine lv_iconst (v := 1) hx hb dX16_task_8 (by decide) ?_
  refine lv_isub hx hb dX16_task_9 ?_
  refine W.eq (g2 := F0 m 10 ls [.int ((-1)), .long 0, .long (k1.toInt64), .ref h0]) rfl ?_
  refine lv_i2l (v := (-1)) hx hb dX16_task_10 (by decide) ?_
  have hPc := hP.sub (ws' := []) [] rfl
  have hDc := hD.sub (ws' := []) [] (by decide) rfl
  have hKc := hK.sub (tys' := []) [] rfl
  have hFc := va_free (wc := []) hD hS hA [] rfl
  have h_1 : 0 ≤ 0 := by decide
  have h_2 : 0 ≤ 0 := by decide
  refine va_calli (va_runS (As := [.long (k1.toInt64), .long 0, .long ((-1))]) (rest := [.ref h0]) ⟨hx, hb, hml, hown, hts⟩ (r_X16_within_0 l dC dI (k1.toInt64) 0 (-1) _) (va_cwS 3 hts wt_X16_task_X16_within_0 rfl rfl rfl (by decide +kernel) ⟨Nat.le_of_ble_eq_true rfl, Nat.le_of_ble_eq_true rfl⟩) ⟨fun a U g mk q => by obtain ⟨q0, q1, qP, qK, qD, qp⟩ := q; exact ⟨q0, q1, qP, va_K.moved (u := U) (U := U.calling g mk a) (Vm.Alike.refl U.vm) qK, qD, qp⟩, fun U hU hW => ⟨rfl, by rw [hU], by rw [hU]; exact hPc, va_K.moved hW.alike hKc, hDc.weaken (fun _ _ _ _ => trivial), (vy_m1 _)⟩⟩ rfl rfl hl.1 rfl (lv_room (Nat.le_of_ble_eq_true rfl)) dX16_task_11 ⟨h_1, h_2⟩) hS (fun q _ h => hFc q h) hFc (fun y4 u3 t H1 locs ht hvm hw hB hz1 hk1 hS => ?_)
  obtain ⟨hP1, hK1, hD1⟩ := hB
  rw [ht] at hP1
  have hK1 := va_K.moved hvm.symm hK1
  obtain ⟨hP, hD⟩ := va_join (wr := [(h0, .inr (16, [m0, m1, m2, .int 0, .int 0, m5, m6, m7, m8, m9, m10, m11, m12, m13, m14, m15, m16, .null, m18, m19, m20, m21, m22, m23, m24, m25, m26, .int 0, m28, m29, .int 0, .int 0, .int 0, m33, m34, m35, .int 0, m37, m38, m39, m40, m41, m42, m43, m44, m45, m46, m47, m48, m49, .int 0, m51, m52, m53, m54, m55, m56, m57, m58, m59, m60, m61, m62, m63, m64, m65, m66, m67, m68, m69, m70, m71, m72, m73, m74, m75, m76, m77, m78, m79, m80, m81, m82, m83, m84, m85, m86, m87, m88, m89, m90, m91, .int 0, .int 0, m94, m95, m96, m97, m98, m99, m100, m101, m102, m103, m104, m105, m106, m107, m108, m109, .long 0, .long 0, .int 0, m113, m114, m115, m116, m117, m118, m119, m120, m121, m122]))]) (w1 := []) hP hD [] [0] rfl rfl (by decide) (by decide) hk1 hFc hP1 hD1
  have hK := (hK.sub (tys' := []) [] rfl).app hK1
  generalize H1 = H at hP hS ⊢
  have hP : va_P (dC, dI) vwCl [(h0, .inr (16, [m0, m1, m2, .int 0, .int 0, m5, m6, m7, m8, m9, m10, m11, m12, m13, m14, m15, m16, .null, m18, m19, m20, m21, m22, m23, m24, m25, m26, .int 0, m28, m29, .int 0, .int 0, .int 0, m33, m34, m35, .int 0, m37, m38, m39, m40, m41, m42, m43, m44, m45, m46, m47, m48, m49, .int 0, m51, m52, m53, m54, m55, m56, m57, m58, m59, m60, m61, m62, m63, m64, m65, m66, m67, m68, m69, m70, m71, m72, m73, m74, m75, m76, m77, m78, m79, m80, m81, m82, m83, m84, m85, m86, m87, m88, m89, m90, m91, .int 0, .int 0, m94, m95, m96, m97, m98, m99, m100, m101, m102, m103, m104, m105, m106, m107, m108, m109, .long 0, .long 0, .int 0, m113, m114, m115, m116, m117, m118, m119, m120, m121, m122]))] H := hP
  have hD : va_D A [(h0, .inr (16, [m0, m1, m2, .int 0, .int 0, m5, m6, m7, m8, m9, m10, m11, m12, m13, m14, m15, m16, .null, m18, m19, m20, m21, m22, m23, m24, m25, m26, .int 0, m28, m29, .int 0, .int 0, .int 0, m33, m34, m35, .int 0, m37, m38, m39, m40, m41, m42, m43, m44, m45, m46, m47, m48, m49, .int 0, m51, m52, m53, m54, m55, m56, m57, m58, m59, m60, m61, m62, m63, m64, m65, m66, m67, m68, m69, m70, m71, m72, m73, m74, m75, m76, m77, m78, m79, m80, m81, m82, m83, m84, m85, m86, m87, m88, m89, m90, m91, .int 0, .int 0, m94, m95, m96, m97, m98, m99, m100, m101, m102, m103, m104, m105, m106, m107, m108, m109, .long 0, .long 0, .int 0, m113, m114, m115, m116, m117, m118, m119, m120, m121, m122]))] := hD
  have hK : va_K (dC, dI) vwCl [] s := hK
  refine W.widen (k := 0) (n := 0) (by decide) (by decide) ?_
  have hw : y4 = 0 := hw
  subst hw
  refine lv_if_ne (tgt := 21) hx hb dX16_task_14 (by decide) (fun h9 => absurd (by decide) h9) (fun _ => ?_)
  refine lv_iconst (v := 1) hx hb dX16_task_17 (by decide) ?_
  refine lv_goto (tgt := 56) hx hb dX16_task_18 (by decide) ?_
  refine va_put (D := (dC, dI)) (ci := 16) (v := .int 1) (ty := .int) (C := RX16) (T := TX16) (N := 123) hx hb hts wh_X16_task_X16 tyX16 tyX16_ok nmX16 hown hK hP hD hS 0 rfl rfl 0 (by decide) (hts (.fieldLink RX16 1 "StreamHouseModel" "code" "I") (wm_X16_task 4 rfl)) (fun _ h9 => h9) rfl (by decide +kernel) rfl rfl (Nat.le_of_ble_eq_true rfl) dX16_task_56 (fun H locs hP hD hS => ?_)
  have hP : va_P (dC, dI) vwCl [(h0, .inr (16, [.int 1, m1, m2, .int 0, .int 0, m5, m6, m7, m8, m9, m10, m11, m12, m13, m14, m15, m16, .null, m18, m19, m20, m21, m22, m23, m24, m25, m26, .int 0, m28, m29, .int 0, .int 0, .int 0, m33, m34, m35, .int 0, m37, m38, m39, m40, m41, m42, m43, m44, m45, m46, m47, m48, m49, .int 0, m51, m52, m53, m54, m55, m56, m57, m58, m59, m60, m61, m62, m63, m64, m65, m66, m67, m68, m69, m70, m71, m72, m73, m74, m75, m76, m77, m78, m79, m80, m81, m82, m83, m84, m85, m86, m87, m88, m89, m90, m91, .int 0, .int 0, m94, m95, m96, m97, m98, m99, m100, m101, m102, m103, m104, m105, m106, m107, m108, m109, .long 0, .long 0, .int 0, m113, m114, m115, m116, m117, m118, m119, m120, m121, m122]))] H := hP
  have hD : va_D A [(h0, .inr (16, [.int 1, m1, m2, .int 0, .int 0, m5, m6, m7, m8, m9, m10, m11, m12, m13, m14, m15, m16, .null, m18, m19, m20, m21, m22, m23, m24, m25, m26, .int 0, m28, m29, .int 0, .int 0, .int 0, m33, m34, m35, .int 0, m37, m38, m39, m40, m41, m42, m43, m44, m45, m46, m47, m48, m49, .int 0, m51, m52, m53, m54, m55, m56, m57, m58, m59, m60, m61, m62, m63, m64, m65, m66, m67, m68, m69, m70, m71, m72, m73, m74, m75, m76, m77, m78, m79, m80, m81, m82, m83, m84, m85, m86, m87, m88, m89, m90, m91, .int 0, .int 0, m94, m95, m96, m97, m98, m99, m100, m101, m102, m103, m104, m105, m106, m107, m108, m109, .long 0, .long 0, .int 0, m113, m114, m115, m116, m117, m118, m119, m120, m121, m122]))] := hD
  refine lv_aload_n hx hb dX16_task_59 rfl (lv_at hl 0 rfl) ?_
  refine va_get (D := (dC, dI)) (ci := 16) (v := .int 1) (C := RX16) (T := TX16) (N := 123) hx hb hts wh_X16_task_X16 hown hK hP 0 rfl rfl 0 (by decide) (hts (.fieldLink RX16 1 "StreamHouseModel" "code" "I") (wm_X16_task 4 rfl)) (fun _ h9 => h9) rfl dX16_task_60 ?_
  refine lv_if_le (tgt := 68) hx hb dX16_task_63 (by decide) (fun h9 => absurd h9 (by decide)) (fun _ => ?_)
  refine lv_lconst (v := 0) hx hb dX16_task_66 (by decide) ?_
  have hP9 := hP.sub (ws' := [(h0, .inr (16, [.int 1, m1, m2, .int 0, .int 0, m5, m6, m7, m8, m9, m10, m11, m12, m13, m14, m15, m16, .null, m18, m19, m20, m21, m22, m23, m24, m25, m26, .int 0, m28, m29, .int 0, .int 0, .int 0, m33, m34, m35, .int 0, m37, m38, m39, m40, m41, m42, m43, m44, m45, m46, m47, m48, m49, .int 0, m51, m52, m53, m54, m55, m56, m57, m58, m59, m60, m61, m62, m63, m64, m65, m66, m67, m68, m69, m70, m71, m72, m73, m74, m75, m76, m77, m78, m79, m80, m81, m82, m83, m84, m85, m86, m87, m88, m89, m90, m91, .int 0, .int 0, m94, m95, m96, m97, m98, m99, m100, m101, m102, m103, m104, m105, m106, m107, m108, m109, .long 0, .long 0, .int 0, m113, m114, m115, m116, m117, m118, m119, m120, m121, m122]))]) [0] rfl
  have hD9 := hD.sub (ws' := [(h0, .inr (16, [.int 1, m1, m2, .int 0, .int 0, m5, m6, m7, m8, m9, m10, m11, m12, m13, m14, m15, m16, .null, m18, m19, m20, m21, m22, m23, m24, m25, m26, .int 0, m28, m29, .int 0, .int 0, .int 0, m33, m34, m35, .int 0, m37, m38, m39, m40, m41, m42, m43, m44, m45, m46, m47, m48, m49, .int 0, m51, m52, m53, m54, m55, m56, m57, m58, m59, m60, m61, m62, m63, m64, m65, m66, m67, m68, m69, m70, m71, m72, m73, m74, m75, m76, m77, m78, m79, m80, m81, m82, m83, m84, m85, m86, m87, m88, m89, m90, m91, .int 0, .int 0, m94, m95, m96, m97, m98, m99, m100, m101, m102, m103, m104, m105, m106, m107, m108, m109, .long 0, .long 0, .int 0, m113, m114, m115, m116, m117, m118, m119, m120, m121, m122]))]) [0] (by decide) rfl
  have hK9 := hK.sub (tys' := []) [] rfl
  refine W.widen (k := 0) (n := 0) (by decide) (by decide) ?_
  exact W.lret (v := 0) hx hb hr (fun t ht hW => ⟨⟨0, (), rfl, rfl, by rw [ht]; exact hP9, va_K.moved hW.alike hK9, hD9⟩, hS.F ht⟩) hS.2.2 dX16_task_67

abbrev ar_X16_channel_ (dC : Nat → ClassId) (dI : Nat → Nat → Nat) (A : Nat → Prop) (h0 : Nat) (k1 k2 : Int32) (m0 m1 m2 m5 m6 m7 m8 m9 m10 m11 m12 m13 m14 m15 m16 m18 m19 m20 m21 m22 m23 m24 m25 m26 m28 m29 m33 m34 m35 m37 m38 m39 m40 m41 m42 m43 m44 m45 m46 m47 m48 m49 m51 m52 m53 m54 m55 m56 m57 m58 m59 m60 m61 m62 m63 m64 m65 m66 m67 m68 m69 m70 m71 m72 m73 m74 m75 m76 m77 m78 m79 m80 m81 m82 m83 m84 m85 m86 m87 m88 m89 m90 m91 m94 m95 m96 m97 m98 m99 m100 m101 m102 m103 m104 m105 m106 m107 m108 m109 m113 m114 m115 m116 m117 m118 m119 m120 m121 m122 : Value) (_ : Unit) (t : State) : Prop := va_P (dC, dI) vwCl [(h0, .inr (16, [.int 1, m1, m2, .int 0, .int 0, m5, m6, m7, m8, m9, m10, m11, m12, m13, m14, m15, m16, .null, m18, m19, m20, m21, m22, m23, m24, m25, m26, .int 0, m28, m29, .int 0, .int 0, .int 0, m33, m34, m35, .int 0, m37, m38, m39, m40, m41, m42, m43, m44, m45, m46, m47, m48, m49, .int 0, m51, m52, m53, m54, m55, m56, m57, m58, m59, m60, m61, m62, m63, m64, m65, m66, m67, m68, m69, m70, m71, m72, m73, m74, m75, m76, m77, m78, m79, m80, m81, m82, m83, m84, m85, m86, m87, m88, m89, m90, m91, .int 0, .int 0, m94, m95, m96, m97, m98, m99, m100, m101, m102, m103, m104, m105, m106, m107, m108, m109, .long 0, .long 0, .int 0, m113, m114, m115, m116, m117, m118, m119, m120, m121, m122]))] t.heap ∧ va_K (dC, dI) vwCl [] t ∧ va_D A [(h0, .inr (16, [.int 1, m1, m2, .int 0, .int 0, m5, m6, m7, m8, m9, m10, m11, m12, m13, m14, m15, m16, .null, m18, m19, m20, m21, m22, m23, m24, m25, m26, .int 0, m28, m29, .int 0, .int 0, .int 0, m33, m34, m35, .int 0, m37, m38, m39, m40, m41, m42, m43, m44, m45, m46, m47, m48, m49, .int 0, m51, m52, m53, m54, m55, m56, m57, m58, m59, m60, m61, m62, m63, m64, m65, m66, m67, m68, m69, m70, m71, m72, m73, m74, m75, m76, m77, m78, m79, m80, m81, m82, m83, m84, m85, m86, m87, m88, m89, m90, m91, .int 0, .int 0, m94, m95, m96, m97, m98, m99, m100, m101, m102, m103, m104, m105, m106, m107, m108, m109, .long 0, .long 0, .int 0, m113, m114, m115, m116, m117, m118, m119, m120, m121, m122]))]
theorem dX16_channel__0 : decode cX16_channel_ 0 = .ok (.aload_n 0, 1) := by decide +kernel
theorem dX16_channel__1 : decode cX16_channel_ 1 = .ok (.iload_n 1, 1) := by decide +kernel
theorem dX16_channel__2 : decode cX16_channel_ 2 = .ok (.i2l, 1) := by decide +kernel
theorem dX16_channel__3 : decode cX16_channel_ 3 = .ok (.lconst 0, 1) := by decide +kernel
theorem dX16_channel__4 : decode cX16_channel_ 4 = .ok (.aload_n 0, 1) := by decide +kernel
theorem dX16_channel__5 : decode cX16_channel_ 5 = .ok (.getfield 371, 3) := by decide +kernel
theorem dX16_channel__8 : decode cX16_channel_ 8 = .ok (.iconst 1, 1) := by decide +kernel
theorem dX16_channel__9 : decode cX16_channel_ 9 = .ok (.isub, 1) := by decide +kernel
theorem dX16_channel__10 : decode cX16_channel_ 10 = .ok (.i2l, 1) := by decide +kernel
theorem dX16_channel__11 : decode cX16_channel_ 11 = .ok (.invokestatic 45, 3) := by decide +kernel
theorem dX16_channel__14 : decode cX16_channel_ 14 = .ok (.ifCond .ne 7, 3) := by decide +kernel
theorem dX16_channel__17 : decode cX16_channel_ 17 = .ok (.iconst 1, 1) := by decide +kernel
theorem dX16_channel__18 : decode cX16_channel_ 18 = .ok (.goto 38, 3) := by decide +kernel
theorem dX16_channel__56 : decode cX16_channel_ 56 = .ok (.putfield 1, 3) := by decide +kernel
theorem dX16_channel__59 : decode cX16_channel_ 59 = .ok (.aload_n 0, 1) := by decide +kernel
theorem dX16_channel__60 : decode cX16_channel_ 60 = .ok (.getfield 1, 3) := by decide +kernel
theorem dX16_channel__63 : decode cX16_channel_ 63 = .ok (.ifCond .le 5, 3) := by decide +kernel
theorem dX16_channel__66 : decode cX16_channel_ 66 = .ok (.lconst 0, 1) := by decide +kernel
theorem dX16_channel__67 : decode cX16_channel_ 67 = .ok (.lreturn, 1) := by decide +kernel
def ww_X16_channel_ : List Cond := [.fieldLink RX16 371 "StreamHouseModel" "channels" "I", .initialized RX16, .methodLink RX16 45 yX16_within, .static yX16_within, .fieldLink RX16 1 "StreamHouseModel" "code" "I"]
def wv_X16_channel_ : List Cond := .code yX16_channel_ cX16_channel_ 3 (some .long) :: (ww_X16_channel_ ++ (u_ws RX16 TX16 123 ++ (wv_X16_within_0 ++ [])))
theorem wm_X16_channel_ {w : Cond} (i : Nat) (h : ww_X16_channel_[i]? = some w) : w ∈ wv_X16_channel_ := List.mem_cons_of_mem _ (List.mem_append_left _ (List.mem_of_getElem? h))
set_option maxRecDepth 100000 in
theorem gw_X16_channel_ : wv_X16_channel_.all goodWord = true := by decide +kernel
theorem wh_X16_channel__X16 : ∀ w ∈ u_ws RX16 TX16 123, w ∈ wv_X16_channel_ := fun w h => List.mem_cons_of_mem _ (List.mem_append_right _ (List.mem_append_left _ h))
theorem wg_X16_channel__X16_within_0 : GoodIn wv_X16_channel_ wv_X16_within_0 := goodIn_sub (fun w h => List.mem_cons_of_mem _ (List.mem_append_right _ (List.mem_append_right _ (List.mem_append_left _ h)))) gw_X16_within_0
theorem wt_X16_channel__X16_within_0 : GoodIn wv_X16_channel_ (va_wsS RX16 45 yX16_within wv_X16_within_0) := goodIn_app (goodIn_sub (fun w h => by simp only [List.mem_cons, List.not_mem_nil, or_false] at h; rcases h with rfl | rfl | rfl <;> first | exact wm_X16_channel_ 2 rfl | exact wm_X16_channel_ 3 rfl | exact wm_X16_channel_ 1 rfl) (by decide +kernel)) wg_X16_channel__X16_within_0
set_option maxHeartbeats 4000000 in
set_option maxRecDepth 100000 in
/-- channel(..) of the fresh reference -/
theorem r_X16_channel_ (l : Launch) (dC : Nat → ClassId) (dI : Nat → Nat → Nat) (h0 : Nat) (k1 k2 : Int32) (m0 m1 m2 m5 m6 m7 m8 m9 m10 m11 m12 m13 m14 m15 m16 m18 m19 m20 m21 m22 m23 m24 m25 m26 m28 m29 m33 m34 m35 m37 m38 m39 m40 m41 m42 m43 m44 m45 m46 m47 m48 m49 m51 m52 m53 m54 m55 m56 m57 m58 m59 m60 m61 m62 m63 m64 m65 m66 m67 m68 m69 m70 m71 m72 m73 m74 m75 m76 m77 m78 m79 m80 m81 m82 m83 m84 m85 m86 m87 m88 m89 m90 m91 m94 m95 m96 m97 m98 m99 m100 m101 m102 m103 m104 m105 m106 m107 m108 m109 m113 m114 m115 m116 m117 m118 m119 m120 m121 m122 : Value) (sz : Nat) : Met l yX16_channel_ wv_X16_channel_ ({ frames := 1, cells := 0, slots := 0, locals := 25 }) (va_Pc [.ref h0, .int k1, .int k2] (fun U => U.heap.size = sz ∧ va_P (dC, dI) vwCl [(h0, .inr (16, [m0, m1, m2, .int 0, .int 0, m5, m6, m7, m8, m9, m10, m11, m12, m13, m14, m15, m16, .null, m18, m19, m20, m21, m22, m23, m24, m25, m26, .int 0, m28, m29, .int 0, .int 0, .int 0, m33, m34, m35, .int 0, m37, m38, m39, m40, m41, m42, m43, m44, m45, m46, m47, m48, m49, .int 0, m51, m52, m53, m54, m55, m56, m57, m58, m59, m60, m61, m62, m63, m64, m65, m66, m67, m68, m69, m70, m71, m72, m73, m74, m75, m76, m77, m78, m79, m80, m81, m82, m83, m84, m85, m86, m87, m88, m89, m90, m91, .int 0, .int 0, m94, m95, m96, m97, m98, m99, m100, m101, m102, m103, m104, m105, m106, m107, m108, m109, .long 0, .long 0, .int 0, m113, m114, m115, m116, m117, m118, m119, m120, m121, m122]))] U.heap ∧ va_K (dC, dI) vwCl [] U ∧ va_D (fun _ => True) [(h0, .inr (16, [m0, m1, m2, .int 0, .int 0, m5, m6, m7, m8, m9, m10, m11, m12, m13, m14, m15, m16, .null, m18, m19, m20, m21, m22, m23, m24, m25, m26, .int 0, m28, m29, .int 0, .int 0, .int 0, m33, m34, m35, .int 0, m37, m38, m39, m40, m41, m42, m43, m44, m45, m46, m47, m48, m49, .int 0, m51, m52, m53, m54, m55, m56, m57, m58, m59, m60, m61, m62, m63, m64, m65, m66, m67, m68, m69, m70, m71, m72, m73, m74, m75, m76, m77, m78, m79, m80, m81, m82, m83, m84, m85, m86, m87, m88, m89, m90, m91, .int 0, .int 0, m94, m95, m96, m97, m98, m99, m100, m101, m102, m103, m104, m105, m106, m107, m108, m109, .long 0, .long 0, .int 0, m113, m114, m115, m116, m117, m118, m119, m120, m121, m122]))])) (va_Ql (fun r (_ : Unit) => r = 0) (ar_X16_channel_ dC dI (va_A [(h0, .inr (16, [m0, m1, m2, .int 0, .int 0, m5, m6, m7, m8, m9, m10, m11, m12, m13, m14, m15, m16, .null, m18, m19, m20, m21, m22, m23, m24, m25, m26, .int 0, m28, m29, .int 0, .int 0, .int 0, m33, m34, m35, .int 0, m37, m38, m39, m40, m41, m42, m43, m44, m45, m46, m47, m48, m49, .int 0, m51, m52, m53, m54, m55, m56, m57, m58, m59, m60, m61, m62, m63, m64, m65, m66, m67, m68, m69, m70, m71, m72, m73, m74, m75, m76, m77, m78, m79, m80, m81, m82, m83, m84, m85, m86, m87, m88, m89, m90, m91, .int 0, .int 0, m94, m95, m96, m97, m98, m99, m100, m101, m102, m103, m104, m105, m106, m107, m108, m109, .long 0, .long 0, .int 0, m113, m114, m115, m116, m117, m118, m119, m120, m121, m122]))] sz) h0 k1 k2 m0 m1 m2 m5 m6 m7 m8 m9 m10 m11 m12 m13 m14 m15 m16 m18 m19 m20 m21 m22 m23 m24 m25 m26 m28 m29 m33 m34 m35 m37 m38 m39 m40 m41 m42 m43 m44 m45 m46 m47 m48 m49 m51 m52 m53 m54 m55 m56 m57 m58 m59 m60 m61 m62 m63 m64 m65 m66 m67 m68 m69 m70 m71 m72 m73 m74 m75 m76 m77 m78 m79 m80 m81 m82 m83 m84 m85 m86 m87 m88 m89 m90 m91 m94 m95 m96 m97 m98 m99 m100 m101 m102 m103 m104 m105 m106 m107 m108 m109 m113 m114 m115 m116 m117 m118 m119 m120 m121 m122) (va_A [(h0, .inr (16, [m0, m1, m2, .int 0, .int 0, m5, m6, m7, m8, m9, m10, m11, m12, m13, m14, m15, m16, .null, m18, m19, m20, m21, m22, m23, m24, m25, m26, .int 0, m28, m29, .int 0, .int 0, .int 0, m33, m34, m35, .int 0, m37, m38, m39, m40, m41, m42, m43, m44, m45, m46, m47, m48, m49, .int 0, m51, m52, m53, m54, m55, m56, m57, m58, m59, m60, m61, m62, m63, m64, m65, m66, m67, m68, m69, m70, m71, m72, m73, m74, m75, m76, m77, m78, m79, m80, m81, m82, m83, m84, m85, m86, m87, m88, m89, m90, m91, .int 0, .int 0, m94, m95, m96, m97, m98, m99, m100, m101, m102, m103, m104, m105, m106, m107, m108, m109, .long 0, .long 0, .int 0, m113, m114, m115, m116, m117, m118, m119, m120, m121, m122]))] sz)) 0 0 (va_A [(h0, .inr (16, [m0, m1, m2, .int 0, .int 0, m5, m6, m7, m8, m9, m10, m11, m12, m13, m14, m15, m16, .null, m18, m19, m20, m21, m22, m23, m24, m25, m26, .int 0, m28, m29, .int 0, .int 0, .int 0, m33, m34, m35, .int 0, m37, m38, m39, m40, m41, m42, m43, m44, m45, m46, m47, m48, m49, .int 0, m51, m52, m53, m54, m55, m56, m57, m58, m59, m60, m61, m62, m63, m64, m65, m66, m67, m68, m69, m70, m71, m72, m73, m74, m75, m76, m77, m78, m79, m80, m81, m82, m83, m84, m85, m86, m87, m88, m89, m90, m91, .int 0, .int 0, m94, m95, m96, m97, m98, m99, m100, m101, m102, m103, m104, m105, m106, m107, m108, m109, .long 0, .long 0, .int 0, m113, m114, m115, m116, m117, m118, m119, m120, m121, m122]))] sz) := by
  refine Met.ofW (cc := cX16_channel_) (maxL := 3) (ret := (some .long)) (by decide) rfl ?_
  intro p e s m args below meth c s₁ B hml hv
  obtain ⟨rfl, hsz, hP, hK, hD0⟩ := hv
  have hx := B.exec
  have hb := B.bytes
  have hr := B.returns
  have hts := atoms_spec (ws := wv_X16_channel_) B.pre
  have hown : s.vm.findClass RX16 = some m.cls := findClass_of_methodNamed B.named
  have hlocks := B.notSynchronized
  subst hsz
  have hD := hD0.self (sz := s.heap.size)
  generalize hAe : va_A [(h0, .inr (16, [m0, m1, m2, .int 0, .int 0, m5, m6, m7, m8, m9, m10, m11, m12, m13, m14, m15, m16, .null, m18, m19, m20, m21, m22, m23, m24, m25, m26, .int 0, m28, m29, .int 0, .int 0, .int 0, m33, m34, m35, .int 0, m37, m38, m39, m40, m41, m42, m43, m44, m45, m46, m47, m48, m49, .int 0, m51, m52, m53, m54, m55, m56, m57, m58, m59, m60, m61, m62, m63, m64, m65, m66, m67, m68, m69, m70, m71, m72, m73, m74, m75, m76, m77, m78, m79, m80, m81, m82, m83, m84, m85, m86, m87, m88, m89, m90, m91, .int 0, .int 0, m94, m95, m96, m97, m98, m99, m100, m101, m102, m103, m104, m105, m106, m107, m108, m109, .long 0, .long 0, .int 0, m113, m114, m115, m116, m117, m118, m119, m120, m121, m122]))] s.heap.size = A at hD ⊢
  have hA : ∀ q : Nat, s.heap.size ≤ q → A q := fun q h => by rw [← hAe]; exact Or.inr h
  have hS : va_S A s.heap s.heap [] := va_S.rf
  have hP : va_P (dC, dI) vwCl [(h0, .inr (16, [m0, m1, m2, .int 0, .int 0, m5, m6, m7, m8, m9, m10, m11, m12, m13, m14, m15, m16, .null, m18, m19, m20, m21, m22, m23, m24, m25, m26, .int 0, m28, m29, .int 0, .int 0, .int 0, m33, m34, m35, .int 0, m37, m38, m39, m40, m41, m42, m43, m44, m45, m46, m47, m48, m49, .int 0, m51, m52, m53, m54, m55, m56, m57, m58, m59, m60, m61, m62, m63, m64, m65, m66, m67, m68, m69, m70, m71, m72, m73, m74, m75, m76, m77, m78, m79, m80, m81, m82, m83, m84, m85, m86, m87, m88, m89, m90, m91, .int 0, .int 0, m94, m95, m96, m97, m98, m99, m100, m101, m102, m103, m104, m105, m106, m107, m108, m109, .long 0, .long 0, .int 0, m113, m114, m115, m116, m117, m118, m119, m120, m121, m122]))] s.heap := hP
  have hl := lv_entry ([.ref h0, .int k1, .int k2]) (n := 3) (Nat.le_of_ble_eq_true rfl)
  rw [lg_entry_eq]
  generalize (lg_sl ([.ref h0, .int k1, .int k2]) ++ List.replicate (3 - (lg_sl ([.ref h0, .int k1, .int k2])).length) Slot.unset).toArray = ls at hl ⊢
  have hl : lv_has ls 3 [(0, .ref h0), (1, .int k1), (2, .int k2)] := hl
  refine lv_aload_n hx hb dX16_channel__0 rfl (lv_at hl 0 rfl) ?_
  refine lv_iload_n hx hb dX16_channel__1 rfl (lv_at hl 1 rfl) ?_
  refine lv_i2l (v := k1.toInt64) hx hb dX16_channel__2 rfl ?_
  refine lv_lconst (v := 0) hx hb dX16_channel__3 (by decide) ?_
  refine lv_aload_n hx hb dX16_channel__4 rfl (lv_at hl 0 rfl) ?_
  refine va_get (D := (dC, dI)) (ci := 16) (v := .int 0) (C := RX16) (T := TX16) (N := 123) hx hb hts wh_X16_channel__X16 hown hK hP 0 rfl rfl 50 (by decide) (hts (.fieldLink RX16 371 "StreamHouseModel" "channels" "I") (wm_X16_channel_ 0 rfl)) (fun _ h9 => h9) rfl dX16_channel__5 ?_
  refine lv_iconst (v := 1) hx hb dX16_channel__8 (by decide) ?_
  refine lv_isub hx hb dX16_channel__9 ?_
  refine W.eq (g2 := F0 m 10 ls [.int ((-1)), .long 0, .long (k1.toInt64), .ref h0]) rfl ?_
  refine lv_i2l (v := (-1)) hx hb dX16_channel__10 (by decide) ?_
  have hPc := hP.sub (ws' := []) [] rfl
  have hDc := hD.sub (ws' := []) [] (by decide) rfl
  have hKc := hK.sub (tys' := []) [] rfl
  have hFc := va_free (wc := []) hD hS hA [] rfl
  have h_1 : 0 ≤ 0 := by decide
  have h_2 : 0 ≤ 0 := by decide
  refine va_calli (va_runS (As := [.long (k1.toInt64), .long 0, .long ((-1))]) (rest := [.ref h0]) ⟨hx, hb, hml, hown, hts⟩ (r_X16_within_0 l dC dI (k1.toInt64) 0 (-1) _) (va_cwS 3 hts wt_X16_channel__X16_within_0 rfl rfl rfl (by decide +kernel) ⟨Nat.le_of_ble_eq_true rfl, Nat.le_of_ble_eq_true rfl⟩) ⟨fun a U g mk q => by obtain ⟨q0, q1, qP, qK, qD, qp⟩ := q; exact ⟨q0, q1, qP, va_K.moved (u := U) (U := U.calling g mk a) (Vm.Alike.refl U.vm) qK, qD, qp⟩, fun U hU hW => ⟨rfl, by rw [hU], by rw [hU]; exact hPc, va_K.moved hW.alike hKc, hDc.weaken (fun _ _ _ _ => trivial), (vy_m1 _)⟩⟩ rfl rfl hl.1 rfl (lv_room (Nat.le_of_ble_eq_true rfl)) dX16_channel__11 ⟨h_1, h_2⟩) hS (fun q _ h => hFc q h) hFc (fun y4 u3 t H1 locs ht hvm hw hB hz1 hk1 hS => ?_)
  obtain ⟨hP1, hK1, hD1⟩ := hB
  rw [ht] at hP1
  have hK1 := va_K.moved hvm.symm hK1
  obtain ⟨hP, hD⟩ := va_join (wr := [(h0, .inr (16, [m0, m1, m2, .int 0, .int 0, m5, m6, m7, m8, m9, m10, m11, m12, m13, m14, m15, m16, .null, m18, m19, m20, m21, m22, m23, m24, m25, m26, .int 0, m28, m29, .int 0, .int 0, .int 0, m33, m34, m35, .int 0, m37, m38, m39, m40, m41, m42, m43, m44, m45, m46, m47, m48, m49, .int 0, m51, m52, m53, m54, m55, m56, m57, m58, m59, m60, m61, m62, m63, m64, m65, m66, m67, m68, m69, m70, m71, m72, m73, m74, m75, m76, m77, m78, m79, m80, m81, m82, m83, m84, m85, m86, m87, m88, m89, m90, m91, .int 0, .int 0, m94, m95, m96, m97, m98, m99, m100, m101, m102, m103, m104, m105, m106, m107, m108, m109, .long 0, .long 0, .int 0, m113, m114, m115, m116, m117, m118, m119, m120, m121, m122]))]) (w1 := []) hP hD [] [0] rfl rfl (by decide) (by decide) hk1 hFc hP1 hD1
  have hK := (hK.sub (tys' := []) [] rfl).app hK1
  generalize H1 = H at hP hS ⊢
  have hP : va_P (dC, dI) vwCl [(h0, .inr (16, [m0, m1, m2, .int 0, .int 0, m5, m6, m7, m8, m9, m10, m11, m12, m13, m14, m15, m16, .null, m18, m19, m20, m21, m22, m23, m24, m25, m26, .int 0, m28, m29, .int 0, .int 0, .int 0, m33, m34, m35, .int 0, m37, m38, m39, m40, m41, m42, m43, m44, m45, m46, m47, m48, m49, .int 0, m51, m52, m53, m54, m55, m56, m57, m58, m59, m60, m61, m62, m63, m64, m65, m66, m67, m68, m69, m70, m71, m72, m73, m74, m75, m76, m77, m78, m79, m80, m81, m82, m83, m84, m85, m86, m87, m88, m89, m90, m91, .int 0, .int 0, m94, m95, m96, m97, m98, m99, m100, m101, m102, m103, m104, m105, m106, m107, m108, m109, .long 0, .long 0, .int 0, m113, m114, m115, m116, m117, m118, m119, m120, m121, m122]))] H := hP
  have hD : va_D A [(h0, .inr (16, [m0, m1, m2, .int 0, .int 0, m5, m6, m7, m8, m9, m10, m11, m12, m13, m14, m15, m16, .null, m18, m19, m20, m21, m22, m23, m24, m25, m26, .int 0, m28, m29, .int 0, .int 0, .int 0, m33, m34, m35, .int 0, m37, m38, m39, m40, m41, m42, m43, m44, m45, m46, m47, m48, m49, .int 0, m51, m52, m53, m54, m55, m56, m57, m58, m59, m60, m61, m62, m63, m64, m65, m66, m67, m68, m69, m70, m71, m72, m73, m74, m75, m76, m77, m78, m79, m80, m81, m82, m83, m84, m85, m86, m87, m88, m89, m90, m91, .int 0, .int 0, m94, m95, m96, m97, m98, m99, m100, m101, m102, m103, m104, m105, m106, m107, m108, m109, .long 0, .long 0, .int 0, m113, m114, m115, m116, m117, m118, m119, m120, m121, m122]))] := hD
  have hK : va_K (dC, dI) vwCl [] s := hK
  refine W.widen (k := 0) (n := 0) (by decide) (by decide) ?_
  have hw : y4 = 0 := hw
  subst hw
  refine lv_if_ne (tgt := 21) hx hb dX16_channel__14 (by decide) (fun h9 => absurd (by decide) h9) (fun _ => ?_)
  refine lv_iconst (v := 1) hx hb dX16_channel__17 (by decide) ?_
  refine lv_goto (tgt := 56) hx hb dX16_channel__18 (by decide) ?_
  refine va_put (D := (dC, dI)) (ci := 16) (v := .int 1) (ty := .int) (C := RX16) (T := TX16) (N := 123) hx hb hts wh_X16_channel__X16 tyX16 tyX16_ok nmX16 hown hK hP hD hS 0 rfl rfl 0 (by decide) (hts (.fieldLink RX16 1 "StreamHouseModel" "code" "I") (wm_X16_channel_ 4 rfl)) (fun _ h9 => h9) rfl (by decide +kernel) rfl rfl (Nat.le_of_ble_eq_true rfl) dX16_channel__56 (fun H locs hP hD hS => ?_)
  have hP : va_P (dC, dI) vwCl [(h0, .inr (16, [.int 1, m1, m2, .int 0, .int 0, m5, m6, m7, m8, m9, m10, m11, m12, m13, m14, m15, m16, .null, m18, m19, m20, m21, m22, m23, m24, m25, m26, .int 0, m28, m29, .int 0, .int 0, .int 0, m33, m34, m35, .int 0, m37, m38, m39, m40, m41, m42, m43, m44, m45, m46, m47, m48, m49, .int 0, m51, m52, m53, m54, m55, m56, m57, m58, m59, m60, m61, m62, m63, m64, m65, m66, m67, m68, m69, m70, m71, m72, m73, m74, m75, m76, m77, m78, m79, m80, m81, m82, m83, m84, m85, m86, m87, m88, m89, m90, m91, .int 0, .int 0, m94, m95, m96, m97, m98, m99, m100, m101, m102, m103, m104, m105, m106, m107, m108, m109, .long 0, .long 0, .int 0, m113, m114, m115, m116, m117, m118, m119, m120, m121, m122]))] H := hP
  have hD : va_D A [(h0, .inr (16, [.int 1, m1, m2, .int 0, .int 0, m5, m6, m7, m8, m9, m10, m11, m12, m13, m14, m15, m16, .null, m18, m19, m20, m21, m22, m23, m24, m25, m26, .int 0, m28, m29, .int 0, .int 0, .int 0, m33, m34, m35, .int 0, m37, m38, m39, m40, m41, m42, m43, m44, m45, m46, m47, m48, m49, .int 0, m51, m52, m53, m54, m55, m56, m57, m58, m59, m60, m61, m62, m63, m64, m65, m66, m67, m68, m69, m70, m71, m72, m73, m74, m75, m76, m77, m78, m79, m80, m81, m82, m83, m84, m85, m86, m87, m88, m89, m90, m91, .int 0, .int 0, m94, m95, m96, m97, m98, m99, m100, m101, m102, m103, m104, m105, m106, m107, m108, m109, .long 0, .long 0, .int 0, m113, m114, m115, m116, m117, m118, m119, m120, m121, m122]))] := hD
  refine lv_aload_n hx hb dX16_channel__59 rfl (lv_at hl 0 rfl) ?_
  refine va_get (D := (dC, dI)) (ci := 16) (v := .int 1) (C := RX16) (T := TX16) (N := 123) hx hb hts wh_X16_channel__X16 hown hK hP 0 rfl rfl 0 (by decide) (hts (.fieldLink RX16 1 "StreamHouseModel" "code" "I") (wm_X16_channel_ 4 rfl)) (fun _ h9 => h9) rfl dX16_channel__60 ?_
  refine lv_if_le (tgt := 68) hx hb dX16_channel__63 (by decide) (fun h9 => absurd h9 (by decide)) (fun _ => ?_)
  refine lv_lconst (v := 0) hx hb dX16_channel__66 (by decide) ?_
  have hP9 := hP.sub (ws' := [(h0, .inr (16, [.int 1, m1, m2, .int 0, .int 0, m5, m6, m7, m8, m9, m10, m11, m12, m13, m14, m15, m16, .null, m18, m19, m20, m21, m22, m23, m24, m25, m26, .int 0, m28, m29, .int 0, .int 0, .int 0, m33, m34, m35, .int 0, m37, m38, m39, m40, m41, m42, m43, m44, m45, m46, m47, m48, m49, .int 0, m51, m52, m53, m54, m55, m56, m57, m58, m59, m60, m61, m62, m63, m64, m65, m66, m67, m68, m69, m70, m71, m72, m73, m74, m75, m76, m77, m78, m79, m80, m81, m82, m83, m84, m85, m86, m87, m88, m89, m90, m91, .int 0, .int 0, m94, m95, m96, m97, m98, m99, m100, m101, m102, m103, m104, m105, m106, m107, m108, m109, .long 0, .long 0, .int 0, m113, m114, m115, m116, m117, m118, m119, m120, m121, m122]))]) [0] rfl
  have hD9 := hD.sub (ws' := [(h0, .inr (16, [.int 1, m1, m2, .int 0, .int 0, m5, m6, m7, m8, m9, m10, m11, m12, m13, m14, m15, m16, .null, m18, m19, m20, m21, m22, m23, m24, m25, m26, .int 0, m28, m29, .int 0, .int 0, .int 0, m33, m34, m35, .int 0, m37, m38, m39, m40, m41, m42, m43, m44, m45, m46, m47, m48, m49, .int 0, m51, m52, m53, m54, m55, m56, m57, m58, m59, m60, m61, m62, m63, m64, m65, m66, m67, m68, m69, m70, m71, m72, m73, m74, m75, m76, m77, m78, m79, m80, m81, m82, m83, m84, m85, m86, m87, m88, m89, m90, m91, .int 0, .int 0, m94, m95, m96, m97, m98, m99, m100, m101, m102, m103, m104, m105, m106, m107, m108, m109, .long 0, .long 0, .int 0, m113, m114, m115, m116, m117, m118, m119, m120, m121, m122]))]) [0] (by decide) rfl
  have hK9 := hK.sub (tys' := []) [] rfl
  refine W.widen (k := 0) (n := 0) (by decide) (by decide) ?_
  exact W.lret (v := 0) hx hb hr (fun t ht hW => ⟨⟨0, (), rfl, rfl, by rw [ht]; exact hP9, va_K.moved hW.alike hK9, hD9⟩, hS.F ht⟩) hS.2.2 dX16_channel__67

abbrev ar_X16_close_X (dC : Nat → ClassId) (dI : Nat → Nat → Nat) (A : Nat → Prop) (h0 : Nat) (k1 : Int32) (m0 m1 m2 m5 m6 m7 m8 m9 m10 m11 m12 m13 m14 m15 m16 m18 m19 m20 m21 m22 m23 m24 m25 m26 m28 m29 m33 m34 m35 m37 m38 m39 m40 m41 m42 m43 m44 m45 m46 m47 m48 m49 m51 m52 m53 m54 m55 m56 m57 m58 m59 m60 m61 m62 m63 m64 m65 m66 m67 m68 m69 m70 m71 m72 m73 m74 m75 m76 m77 m78 m79 m80 m81 m82 m83 m84 m85 m86 m87 m88 m89 m90 m91 m94 m95 m96 m97 m98 m99 m100 m101 m102 m103 m104 m105 m106 m107 m108 m109 m113 m114 m115 m116 m117 m118 m119 m120 m121 m122 : Value) (_ : Unit) (t : State) : Prop := va_P (dC, dI) vwCl [(h0, .inr (16, [.int 1, m1, m2, .int 0, .int 0, m5, m6, m7, m8, m9, m10, m11, m12, m13, m14, m15, m16, .null, m18, m19, m20, m21, m22, m23, m24, m25, m26, .int 0, m28, m29, .int 0, .int 0, .int 0, m33, m34, m35, .int 0, m37, m38, m39, m40, m41, m42, m43, m44, m45, m46, m47, m48, m49, .int 0, m51, m52, m53, m54, m55, m56, m57, m58, m59, m60, m61, m62, m63, m64, m65, m66, m67, m68, m69, m70, m71, m72, m73, m74, m75, m76, m77, m78, m79, m80, m81, m82, m83, m84, m85, m86, m87, m88, m89, m90, m91, .int 0, .int 0, m94, m95, m96, m97, m98, m99, m100, m101, m102, m103, m104, m105, m106, m107, m108, m109, .long 0, .long 0, .int 0, m113, m114, m115, m116, m117, m118, m119, m120, m121, m122]))] t.heap ∧ va_K (dC, dI) vwCl [] t ∧ va_D A [(h0, .inr (16, [.int 1, m1, m2, .int 0, .int 0, m5, m6, m7, m8, m9, m10, m11, m12, m13, m14, m15, m16, .null, m18, m19, m20, m21, m22, m23, m24, m25, m26, .int 0, m28, m29, .int 0, .int 0, .int 0, m33, m34, m35, .int 0, m37, m38, m39, m40, m41, m42, m43, m44, m45, m46, m47, m48, m49, .int 0, m51, m52, m53, m54, m55, m56, m57, m58, m59, m60, m61, m62, m63, m64, m65, m66, m67, m68, m69, m70, m71, m72, m73, m74, m75, m76, m77, m78, m79, m80, m81, m82, m83, m84, m85, m86, m87, m88, m89, m90, m91, .int 0, .int 0, m94, m95, m96, m97, m98, m99, m100, m101, m102, m103, m104, m105, m106, m107, m108, m109, .long 0, .long 0, .int 0, m113, m114, m115, m116, m117, m118, m119, m120, m121, m122]))]
theorem dX16_close_X_0 : decode cX16_close 0 = .ok (.aload_n 0, 1) := by decide +kernel
theorem dX16_close_X_1 : decode cX16_close 1 = .ok (.iload_n 1, 1) := by decide +kernel
theorem dX16_close_X_2 : decode cX16_close 2 = .ok (.i2l, 1) := by decide +kernel
theorem dX16_close_X_3 : decode cX16_close 3 = .ok (.lconst 0, 1) := by decide +kernel
theorem dX16_close_X_4 : decode cX16_close 4 = .ok (.ldc2_w 186, 3) := by decide +kernel
theorem dX16_close_X_7 : decode cX16_close 7 = .ok (.invokestatic 45, 3) := by decide +kernel
theorem dX16_close_X_10 : decode cX16_close 10 = .ok (.ifCond .ne 7, 3) := by decide +kernel
theorem dX16_close_X_13 : decode cX16_close 13 = .ok (.iconst 1, 1) := by decide +kernel
theorem dX16_close_X_14 : decode cX16_close 14 = .ok (.goto 16, 3) := by decide +kernel
theorem dX16_close_X_30 : decode cX16_close 30 = .ok (.putfield 1, 3) := by decide +kernel
theorem dX16_close_X_33 : decode cX16_close 33 = .ok (.aload_n 0, 1) := by decide +kernel
theorem dX16_close_X_34 : decode cX16_close 34 = .ok (.getfield 1, 3) := by decide +kernel
theorem dX16_close_X_37 : decode cX16_close 37 = .ok (.ifCond .le 5, 3) := by decide +kernel
theorem dX16_close_X_40 : decode cX16_close 40 = .ok (.iconst 0, 1) := by decide +kernel
theorem dX16_close_X_41 : decode cX16_close 41 = .ok (.ireturn, 1) := by decide +kernel
def ww_X16_close_X : List Cond := [.constantLong RX16 186 3, .initialized RX16, .methodLink RX16 45 yX16_within, .static yX16_within, .fieldLink RX16 1 "StreamHouseModel" "code" "I"]
def wv_X16_close_X : List Cond := .code yX16_close cX16_close 3 (some .boolean) :: (ww_X16_close_X ++ (wv_X16_within_0 ++ (u_ws RX16 TX16 123 ++ [])))
theorem wm_X16_close_X {w : Cond} (i : Nat) (h : ww_X16_close_X[i]? = some w) : w ∈ wv_X16_close_X := List.mem_cons_of_mem _ (List.mem_append_left _ (List.mem_of_getElem? h))
set_option maxRecDepth 100000 in
theorem gw_X16_close_X : wv_X16_close_X.all goodWord = true := by decide +kernel
theorem wg_X16_close_X_X16_within_0 : GoodIn wv_X16_close_X wv_X16_within_0 := goodIn_sub (fun w h => List.mem_cons_of_mem _ (List.mem_append_right _ (List.mem_append_left _ h))) gw_X16_within_0
theorem wt_X16_close_X_X16_within_0 : GoodIn wv_X16_close_X (va_wsS RX16 45 yX16_within wv_X16_within_0) := goodIn_app (goodIn_sub (fun w h => by simp only [List.mem_cons, List.not_mem_nil, or_false] at h; rcases h with rfl | rfl | rfl <;> first | exact wm_X16_close_X 2 rfl | exact wm_X16_close_X 3 rfl | exact wm_X16_close_X 1 rfl) (by decide +kernel)) wg_X16_close_X_X16_within_0
theorem wh_X16_close_X_X16 : ∀ w ∈ u_ws RX16 TX16 123, w ∈ wv_X16_close_X := fun w h => List.mem_cons_of_mem _ (List.mem_append_right _ (List.mem_append_right _ (List.mem_append_left _ h)))
set_option maxHeartbeats 4000000 in
set_option maxRecDepth 100000 in
/-- close(k) of no source -/
theorem r_X16_close_X (l : Launch) (dC : Nat → ClassId) (dI : Nat → Nat → Nat) (h0 : Nat) (k1 : Int32) (m0 m1 m2 m5 m6 m7 m8 m9 m10 m11 m12 m13 m14 m15 m16 m18 m19 m20 m21 m22 m23 m24 m25 m26 m28 m29 m33 m34 m35 m37 m38 m39 m40 m41 m42 m43 m44 m45 m46 m47 m48 m49 m51 m52 m53 m54 m55 m56 m57 m58 m59 m60 m61 m62 m63 m64 m65 m66 m67 m68 m69 m70 m71 m72 m73 m74 m75 m76 m77 m78 m79 m80 m81 m82 m83 m84 m85 m86 m87 m88 m89 m90 m91 m94 m95 m96 m97 m98 m99 m100 m101 m102 m103 m104 m105 m106 m107 m108 m109 m113 m114 m115 m116 m117 m118 m119 m120 m121 m122 : Value) (sz : Nat) : Met l yX16_close wv_X16_close_X ({ frames := 1, cells := 0, slots := 0, locals := 25 }) (va_Pc [.ref h0, .int k1] (fun U => U.heap.size = sz ∧ va_P (dC, dI) vwCl [(h0, .inr (16, [m0, m1, m2, .int 0, .int 0, m5, m6, m7, m8, m9, m10, m11, m12, m13, m14, m15, m16, .null, m18, m19, m20, m21, m22, m23, m24, m25, m26, .int 0, m28, m29, .int 0, .int 0, .int 0, m33, m34, m35, .int 0, m37, m38, m39, m40, m41, m42, m43, m44, m45, m46, m47, m48, m49, .int 0, m51, m52, m53, m54, m55, m56, m57, m58, m59, m60, m61, m62, m63, m64, m65, m66, m67, m68, m69, m70, m71, m72, m73, m74, m75, m76, m77, m78, m79, m80, m81, m82, m83, m84, m85, m86, m87, m88, m89, m90, m91, .int 0, .int 0, m94, m95, m96, m97, m98, m99, m100, m101, m102, m103, m104, m105, m106, m107, m108, m109, .long 0, .long 0, .int 0, m113, m114, m115, m116, m117, m118, m119, m120, m121, m122]))] U.heap ∧ va_K (dC, dI) vwCl [] U ∧ va_D (fun _ => True) [(h0, .inr (16, [m0, m1, m2, .int 0, .int 0, m5, m6, m7, m8, m9, m10, m11, m12, m13, m14, m15, m16, .null, m18, m19, m20, m21, m22, m23, m24, m25, m26, .int 0, m28, m29, .int 0, .int 0, .int 0, m33, m34, m35, .int 0, m37, m38, m39, m40, m41, m42, m43, m44, m45, m46, m47, m48, m49, .int 0, m51, m52, m53, m54, m55, m56, m57, m58, m59, m60, m61, m62, m63, m64, m65, m66, m67, m68, m69, m70, m71, m72, m73, m74, m75, m76, m77, m78, m79, m80, m81, m82, m83, m84, m85, m86, m87, m88, m89, m90, m91, .int 0, .int 0, m94, m95, m96, m97, m98, m99, m100, m101, m102, m103, m104, m105, m106, m107, m108, m109, .long 0, .long 0, .int 0, m113, m114, m115, m116, m117, m118, m119, m120, m121, m122]))] ∧ (k1.toInt64 < 0 ∨ 3 < k1.toInt64))) (va_Qi (fun r (_ : Unit) => r = 0) (ar_X16_close_X dC dI (va_A [(h0, .inr (16, [m0, m1, m2, .int 0, .int 0, m5, m6, m7, m8, m9, m10, m11, m12, m13, m14, m15, m16, .null, m18, m19, m20, m21, m22, m23, m24, m25, m26, .int 0, m28, m29, .int 0, .int 0, .int 0, m33, m34, m35, .int 0, m37, m38, m39, m40, m41, m42, m43, m44, m45, m46, m47, m48, m49, .int 0, m51, m52, m53, m54, m55, m56, m57, m58, m59, m60, m61, m62, m63, m64, m65, m66, m67, m68, m69, m70, m71, m72, m73, m74, m75, m76, m77, m78, m79, m80, m81, m82, m83, m84, m85, m86, m87, m88, m89, m90, m91, .int 0, .int 0, m94, m95, m96, m97, m98, m99, m100, m101, m102, m103, m104, m105, m106, m107, m108, m109, .long 0, .long 0, .int 0, m113, m114, m115, m116, m117, m118, m119, m120, m121, m122]))] sz) h0 k1 m0 m1 m2 m5 m6 m7 m8 m9 m10 m11 m12 m13 m14 m15 m16 m18 m19 m20 m21 m22 m23 m24 m25 m26 m28 m29 m33 m34 m35 m37 m38 m39 m40 m41 m42 m43 m44 m45 m46 m47 m48 m49 m51 m52 m53 m54 m55 m56 m57 m58 m59 m60 m61 m62 m63 m64 m65 m66 m67 m68 m69 m70 m71 m72 m73 m74 m75 m76 m77 m78 m79 m80 m81 m82 m83 m84 m85 m86 m87 m88 m89 m90 m91 m94 m95 m96 m97 m98 m99 m100 m101 m102 m103 m104 m105 m106 m107 m108 m109 m113 m114 m115 m116 m117 m118 m119 m120 m121 m122) (va_A [(h0, .inr (16, [m0, m1, m2, .int 0, .int 0, m5, m6, m7, m8, m9, m10, m11, m12, m13, m14, m15, m16, .null, m18, m19, m20, m21, m22, m23, m24, m25, m26, .int 0, m28, m29, .int 0, .int 0, .int 0, m33, m34, m35, .int 0, m37, m38, m39, m40, m41, m42, m43, m44, m45, m46, m47, m48, m49, .int 0, m51, m52, m53, m54, m55, m56, m57, m58, m59, m60, m61, m62, m63, m64, m65, m66, m67, m68, m69, m70, m71, m72, m73, m74, m75, m76, m77, m78, m79, m80, m81, m82, m83, m84, m85, m86, m87, m88, m89, m90, m91, .int 0, .int 0, m94, m95, m96, m97, m98, m99, m100, m101, m102, m103, m104, m105, m106, m107, m108, m109, .long 0, .long 0, .int 0, m113, m114, m115, m116, m117, m118, m119, m120, m121, m122]))] sz)) 0 0 (va_A [(h0, .inr (16, [m0, m1, m2, .int 0, .int 0, m5, m6, m7, m8, m9, m10, m11, m12, m13, m14, m15, m16, .null, m18, m19, m20, m21, m22, m23, m24, m25, m26, .int 0, m28, m29, .int 0, .int 0, .int 0, m33, m34, m35, .int 0, m37, m38, m39, m40, m41, m42, m43, m44, m45, m46, m47, m48, m49, .int 0, m51, m52, m53, m54, m55, m56, m57, m58, m59, m60, m61, m62, m63, m64, m65, m66, m67, m68, m69, m70, m71, m72, m73, m74, m75, m76, m77, m78, m79, m80, m81, m82, m83, m84, m85, m86, m87, m88, m89, m90, m91, .int 0, .int 0, m94, m95, m96, m97, m98, m99, m100, m101, m102, m103, m104, m105, m106, m107, m108, m109, .long 0, .long 0, .int 0, m113, m114, m115, m116, m117, m118, m119, m120, m121, m122]))] sz) := by
  refine Met.ofW (cc := cX16_close) (maxL := 3) (ret := (some .boolean)) (by decide) rfl ?_
  intro p e s m args below meth c s₁ B hml hv
  obtain ⟨rfl, hsz, hP, hK, hD0, hpre⟩ := hv
  have hx := B.exec
  have hb := B.bytes
  have hr := B.returns
  have hts := atoms_spec (ws := wv_X16_close_X) B.pre
  have hown : s.vm.findClass RX16 = some m.cls := findClass_of_methodNamed B.named
  have hlocks := B.notSynchronized
  subst hsz
  have hD := hD0.self (sz := s.heap.size)
  generalize hAe : va_A [(h0, .inr (16, [m0, m1, m2, .int 0, .int 0, m5, m6, m7, m8, m9, m10, m11, m12, m13, m14, m15, m16, .null, m18, m19, m20, m21, m22, m23, m24, m25, m26, .int 0, m28, m29, .int 0, .int 0, .int 0, m33, m34, m35, .int 0, m37, m38, m39, m40, m41, m42, m43, m44, m45, m46, m47, m48, m49, .int 0, m51, m52, m53, m54, m55, m56, m57, m58, m59, m60, m61, m62, m63, m64, m65, m66, m67, m68, m69, m70, m71, m72, m73, m74, m75, m76, m77, m78, m79, m80, m81, m82, m83, m84, m85, m86, m87, m88, m89, m90, m91, .int 0, .int 0, m94, m95, m96, m97, m98, m99, m100, m101, m102, m103, m104, m105, m106, m107, m108, m109, .long 0, .long 0, .int 0, m113, m114, m115, m116, m117, m118, m119, m120, m121, m122]))] s.heap.size = A at hD ⊢
  have hA : ∀ q : Nat, s.heap.size ≤ q → A q := fun q h => by rw [← hAe]; exact Or.inr h
  have hS : va_S A s.heap s.heap [] := va_S.rf
  have hP : va_P (dC, dI) vwCl [(h0, .inr (16, [m0, m1, m2, .int 0, .int 0, m5, m6, m7, m8, m9, m10, m11, m12, m13, m14, m15, m16, .null, m18, m19, m20, m21, m22, m23, m24, m25, m26, .int 0, m28, m29, .int 0, .int 0, .int 0, m33, m34, m35, .int 0, m37, m38, m39, m40, m41, m42, m43, m44, m45, m46, m47, m48, m49, .int 0, m51, m52, m53, m54, m55, m56, m57, m58, m59, m60, m61, m62, m63, m64, m65, m66, m67, m68, m69, m70, m71, m72, m73, m74, m75, m76, m77, m78, m79, m80, m81, m82, m83, m84, m85, m86, m87, m88, m89, m90, m91, .int 0, .int 0, m94, m95, m96, m97, m98, m99, m100, m101, m102, m103, m104, m105, m106, m107, m108, m109, .long 0, .long 0, .int 0, m113, m114, m115, m116, m117, m118, m119, m120, m121, m122]))] s.heap := hP
  have hl := lv_entry ([.ref h0, .int k1]) (n := 3) (Nat.le_of_ble_eq_true rfl)
  rw [lg_entry_eq]
  generalize (lg_sl ([.ref h0, .int k1]) ++ List.replicate (3 - (lg_sl ([.ref h0, .int k1])).length) Slot.unset).toArray = ls at hl ⊢
  have hl : lv_has ls 3 [(0, .ref h0), (1, .int k1)] := hl
  refine lv_aload_n hx hb dX16_close_X_0 rfl (lv_at hl 0 rfl) ?_
  refine lv_iload_n hx hb dX16_close_X_1 rfl (lv_at hl 1 rfl) ?_
  refine lv_i2l (v := k1.toInt64) hx hb dX16_close_X_2 rfl ?_
  refine lv_lconst (v := 0) hx hb dX16_close_X_3 (by decide) ?_
  refine lv_ldc2 hx hb hown (hts (.constantLong RX16 186 3) (wm_X16_close_X 0 rfl)) dX16_close_X_4 ?_
  have hPc := hP.sub (ws' := []) [] rfl
  have hDc := hD.sub (ws' := []) [] (by decide) rfl
  have hKc := hK.sub (tys' := []) [] rfl
  have hFc := va_free (wc := []) hD hS hA [] rfl
  have h_1 : 0 ≤ 0 := by decide
  have h_2 : 0 ≤ 0 := by decide
  refine va_calli (va_runS (As := [.long (k1.toInt64), .long 0, .long 3]) (rest := [.ref h0]) ⟨hx, hb, hml, hown, hts⟩ (r_X16_within_0 l dC dI (k1.toInt64) 0 3 _) (va_cwS 3 hts wt_X16_close_X_X16_within_0 rfl rfl rfl (by decide +kernel) ⟨Nat.le_of_ble_eq_true rfl, Nat.le_of_ble_eq_true rfl⟩) ⟨fun a U g mk q => by obtain ⟨q0, q1, qP, qK, qD, qp⟩ := q; exact ⟨q0, q1, qP, va_K.moved (u := U) (U := U.calling g mk a) (Vm.Alike.refl U.vm) qK, qD, qp⟩, fun U hU hW => ⟨rfl, by rw [hU], by rw [hU]; exact hPc, va_K.moved hW.alike hKc, hDc.weaken (fun _ _ _ _ => trivial), hpre⟩⟩ rfl rfl hl.1 rfl (lv_room (Nat.le_of_ble_eq_true rfl)) dX16_close_X_7 ⟨h_1, h_2⟩) hS (fun q _ h => hFc q h) hFc (fun y4 u3 t H1 locs ht hvm hw hB hz1 hk1 hS => ?_)
  obtain ⟨hP1, hK1, hD1⟩ := hB
  rw [ht] at hP1
  have hK1 := va_K.moved hvm.symm hK1
  obtain ⟨hP, hD⟩ := va_join (wr := [(h0, .inr (16, [m0, m1, m2, .int 0, .int 0, m5, m6, m7, m8, m9, m10, m11, m12, m13, m14, m15, m16, .null, m18, m19, m20, m21, m22, m23, m24, m25, m26, .int 0, m28, m29, .int 0, .int 0, .int 0, m33, m34, m35, .int 0, m37, m38, m39, m40, m41, m42, m43, m44, m45, m46, m47, m48, m49, .int 0, m51, m52, m53, m54, m55, m56, m57, m58, m59, m60, m61, m62, m63, m64, m65, m66, m67, m68, m69, m70, m71, m72, m73, m74, m75, m76, m77, m78, m79, m80, m81, m82, m83, m84, m85, m86, m87, m88, m89, m90, m91, .int 0, .int 0, m94, m95, m96, m97, m98, m99, m100, m101, m102, m103, m104, m105, m106, m107, m108, m109, .long 0, .long 0, .int 0, m113, m114, m115, m116, m117, m118, m119, m120, m121, m122]))]) (w1 := []) hP hD [] [0] rfl rfl (by decide) (by decide) hk1 hFc hP1 hD1
  have hK := (hK.sub (tys' := []) [] rfl).app hK1
  generalize H1 = H at hP hS ⊢
  have hP : va_P (dC, dI) vwCl [(h0, .inr (16, [m0, m1, m2, .int 0, .int 0, m5, m6, m7, m8, m9, m10, m11, m12, m13, m14, m15, m16, .null, m18, m19, m20, m21, m22, m23, m24, m25, m26, .int 0, m28, m29, .int 0, .int 0, .int 0, m33, m34, m35, .int 0, m37, m38, m39, m40, m41, m42, m43, m44, m45, m46, m47, m48, m49, .int 0, m51, m52, m53, m54, m55, m56, m57, m58, m59, m60, m61, m62, m63, m64, m65, m66, m67, m68, m69, m70, m71, m72, m73, m74, m75, m76, m77, m78, m79, m80, m81, m82, m83, m84, m85, m86, m87, m88, m89, m90, m91, .int 0, .int 0, m94, m95, m96, m97, m98, m99, m100, m101, m102, m103, m104, m105, m106, m107, m108, m109, .long 0, .long 0, .int 0, m113, m114, m115, m116, m117, m118, m119, m120, m121, m122]))] H := hP
  have hD : va_D A [(h0, .inr (16, [m0, m1, m2, .int 0, .int 0, m5, m6, m7, m8, m9, m10, m11, m12, m13, m14, m15, m16, .null, m18, m19, m20, m21, m22, m23, m24, m25, m26, .int 0, m28, m29, .int 0, .int 0, .int 0, m33, m34, m35, .int 0, m37, m38, m39, m40, m41, m42, m43, m44, m45, m46, m47, m48, m49, .int 0, m51, m52, m53, m54, m55, m56, m57, m58, m59, m60, m61, m62, m63, m64, m65, m66, m67, m68, m69, m70, m71, m72, m73, m74, m75, m76, m77, m78, m79, m80, m81, m82, m83, m84, m85, m86, m87, m88, m89, m90, m91, .int 0, .int 0, m94, m95, m96, m97, m98, m99, m100, m101, m102, m103, m104, m105, m106, m107, m108, m109, .long 0, .long 0, .int 0, m113, m114, m115, m116, m117, m118, m119, m120, m121, m122]))] := hD
  have hK : va_K (dC, dI) vwCl [] s := hK
  refine W.widen (k := 0) (n := 0) (by decide) (by decide) ?_
  have hw : y4 = 0 := hw
  subst hw
  refine lv_if_ne (tgt := 17) hx hb dX16_close_X_10 (by decide) (fun h9 => absurd (by decide) h9) (fun _ => ?_)
  refine lv_iconst (v := 1) hx hb dX16_close_X_13 (by decide) ?_
  refine lv_goto (tgt := 30) hx hb dX16_close_X_14 (by decide) ?_
  refine va_put (D := (dC, dI)) (ci := 16) (v := .int 1) (ty := .int) (C := RX16) (T := TX16) (N := 123) hx hb hts wh_X16_close_X_X16 tyX16 tyX16_ok nmX16 hown hK hP hD hS 0 rfl rfl 0 (by decide) (hts (.fieldLink RX16 1 "StreamHouseModel" "code" "I") (wm_X16_close_X 4 rfl)) (fun _ h9 => h9) rfl (by decide +kernel) rfl rfl (Nat.le_of_ble_eq_true rfl) dX16_close_X_30 (fun H locs hP hD hS => ?_)
  have hP : va_P (dC, dI) vwCl [(h0, .inr (16, [.int 1, m1, m2, .int 0, .int 0, m5, m6, m7, m8, m9, m10, m11, m12, m13, m14, m15, m16, .null, m18, m19, m20, m21, m22, m23, m24, m25, m26, .int 0, m28, m29, .int 0, .int 0, .int 0, m33, m34, m35, .int 0, m37, m38, m39, m40, m41, m42, m43, m44, m45, m46, m47, m48, m49, .int 0, m51, m52, m53, m54, m55, m56, m57, m58, m59, m60, m61, m62, m63, m64, m65, m66, m67, m68, m69, m70, m71, m72, m73, m74, m75, m76, m77, m78, m79, m80, m81, m82, m83, m84, m85, m86, m87, m88, m89, m90, m91, .int 0, .int 0, m94, m95, m96, m97, m98, m99, m100, m101, m102, m103, m104, m105, m106, m107, m108, m109, .long 0, .long 0, .int 0, m113, m114, m115, m116, m117, m118, m119, m120, m121, m122]))] H := hP
  have hD : va_D A [(h0, .inr (16, [.int 1, m1, m2, .int 0, .int 0, m5, m6, m7, m8, m9, m10, m11, m12, m13, m14, m15, m16, .null, m18, m19, m20, m21, m22, m23, m24, m25, m26, .int 0, m28, m29, .int 0, .int 0, .int 0, m33, m34, m35, .int 0, m37, m38, m39, m40, m41, m42, m43, m44, m45, m46, m47, m48, m49, .int 0, m51, m52, m53, m54, m55, m56, m57, m58, m59, m60, m61, m62, m63, m64, m65, m66, m67, m68, m69, m70, m71, m72, m73, m74, m75, m76, m77, m78, m79, m80, m81, m82, m83, m84, m85, m86, m87, m88, m89, m90, m91, .int 0, .int 0, m94, m95, m96, m97, m98, m99, m100, m101, m102, m103, m104, m105, m106, m107, m108, m109, .long 0, .long 0, .int 0, m113, m114, m115, m116, m117, m118, m119, m120, m121, m122]))] := hD
  refine lv_aload_n hx hb dX16_close_X_33 rfl (lv_at hl 0 rfl) ?_
  refine va_get (D := (dC, dI)) (ci := 16) (v := .int 1) (C := RX16) (T := TX16) (N := 123) hx hb hts wh_X16_close_X_X16 hown hK hP 0 rfl rfl 0 (by decide) (hts (.fieldLink RX16 1 "StreamHouseModel" "code" "I") (wm_X16_close_X 4 rfl)) (fun _ h9 => h9) rfl dX16_close_X_34 ?_
  refine lv_if_le (tgt := 42) hx hb dX16_close_X_37 (by decide) (fun h9 => absurd h9 (by decide)) (fun _ => ?_)
  refine lv_iconst (v := 0) hx hb dX16_close_X_40 (by decide) ?_
  have hP9 := hP.sub (ws' := [(h0, .inr (16, [.int 1, m1, m2, .int 0, .int 0, m5, m6, m7, m8, m9, m10, m11, m12, m13, m14, m15, m16, .null, m18, m19, m20, m21, m22, m23, m24, m25, m26, .int 0, m28, m29, .int 0, .int 0, .int 0, m33, m34, m35, .int 0, m37, m38, m39, m40, m41, m42, m43, m44, m45, m46, m47, m48, m49, .int 0, m51, m52, m53, m54, m55, m56, m57, m58, m59, m60, m61, m62, m63, m64, m65, m66, m67, m68, m69, m70, m71, m72, m73, m74, m75, m76, m77, m78, m79, m80, m81, m82, m83, m84, m85, m86, m87, m88, m89, m90, m91, .int 0, .int 0, m94, m95, m96, m97, m98, m99, m100, m101, m102, m103, m104, m105, m106, m107, m108, m109, .long 0, .long 0, .int 0, m113, m114, m115, m116, m117, m118, m119, m120, m121, m122]))]) [0] rfl
  have hD9 := hD.sub (ws' := [(h0, .inr (16, [.int 1, m1, m2, .int 0, .int 0, m5, m6, m7, m8, m9, m10, m11, m12, m13, m14, m15, m16, .null, m18, m19, m20, m21, m22, m23, m24, m25, m26, .int 0, m28, m29, .int 0, .int 0, .int 0, m33, m34, m35, .int 0, m37, m38, m39, m40, m41, m42, m43, m44, m45, m46, m47, m48, m49, .int 0, m51, m52, m53, m54, m55, m56, m57, m58, m59, m60, m61, m62, m63, m64, m65, m66, m67, m68, m69, m70, m71, m72, m73, m74, m75, m76, m77, m78, m79, m80, m81, m82, m83, m84, m85, m86, m87, m88, m89, m90, m91, .int 0, .int 0, m94, m95, m96, m97, m98, m99, m100, m101, m102, m103, m104, m105, m106, m107, m108, m109, .long 0, .long 0, .int 0, m113, m114, m115, m116, m117, m118, m119, m120, m121, m122]))]) [0] (by decide) rfl
  have hK9 := hK.sub (tys' := []) [] rfl
  refine W.widen (k := 0) (n := 0) (by decide) (by decide) ?_
  exact W.zret (v := 0) hx hb hr rfl (fun t ht hW => ⟨⟨0, (), rfl, rfl, by rw [ht]; exact hP9, va_K.moved hW.alike hK9, hD9⟩, hS.F ht⟩) hS.2.2 dX16_close_X_41

abbrev ar_X16_close_S (dC : Nat → ClassId) (dI : Nat → Nat → Nat) (A : Nat → Prop) (h0 : Nat) (k1 : Int32) (m0 m1 m2 m5 m6 m7 m8 m9 m10 m11 m12 m13 m14 m15 m16 m18 m19 m20 m21 m22 m23 m24 m25 m26 m28 m29 m33 m34 m35 m37 m38 m39 m40 m41 m42 m43 m44 m45 m46 m47 m48 m49 m51 m52 m53 m54 m55 m56 m57 m58 m59 m60 m61 m62 m63 m64 m65 m66 m67 m68 m69 m70 m71 m72 m73 m74 m75 m76 m77 m78 m79 m80 m81 m82 m83 m84 m85 m86 m87 m88 m89 m90 m91 m94 m95 m96 m97 m98 m99 m100 m101 m102 m103 m104 m105 m106 m107 m108 m109 m113 m114 m115 m116 m117 m118 m119 m120 m121 m122 : Value) (_ : Unit) (t : State) : Prop := va_P (dC, dI) vwCl [(h0, .inr (16, [.int 2, m1, m2, .int 0, .int 0, m5, m6, m7, m8, m9, m10, m11, m12, m13, m14, m15, m16, .null, m18, m19, m20, m21, m22, m23, m24, m25, m26, .int 0, m28, m29, .int 0, .int 0, .int 0, m33, m34, m35, .int 0, m37, m38, m39, m40, m41, m42, m43, m44, m45, m46, m47, m48, m49, .int 0, m51, m52, m53, m54, m55, m56, m57, m58, m59, m60, m61, m62, m63, m64, m65, m66, m67, m68, m69, m70, m71, m72, m73, m74, m75, m76, m77, m78, m79, m80, m81, m82, m83, m84, m85, m86, m87, m88, m89, m90, m91, .int 0, .int 0, m94, m95, m96, m97, m98, m99, m100, m101, m102, m103, m104, m105, m106, m107, m108, m109, .long 0, .long 0, .int 0, m113, m114, m115, m116, m117, m118, m119, m120, m121, m122]))] t.heap ∧ va_K (dC, dI) vwCl [] t ∧ va_D A [(h0, .inr (16, [.int 2, m1, m2, .int 0, .int 0, m5, m6, m7, m8, m9, m10, m11, m12, m13, m14, m15, m16, .null, m18, m19, m20, m21, m22, m23, m24, m25, m26, .int 0, m28, m29, .int 0, .int 0, .int 0, m33, m34, m35, .int 0, m37, m38, m39, m40, m41, m42, m43, m44, m45, m46, m47, m48, m49, .int 0, m51, m52, m53, m54, m55, m56, m57, m58, m59, m60, m61, m62, m63, m64, m65, m66, m67, m68, m69, m70, m71, m72, m73, m74, m75, m76, m77, m78, m79, m80, m81, m82, m83, m84, m85, m86, m87, m88, m89, m90, m91, .int 0, .int 0, m94, m95, m96, m97, m98, m99, m100, m101, m102, m103, m104, m105, m106, m107, m108, m109, .long 0, .long 0, .int 0, m113, m114, m115, m116, m117, m118, m119, m120, m121, m122]))]
theorem dX16_close_S_0 : decode cX16_close 0 = .ok (.aload_n 0, 1) := by decide +kernel
theorem dX16_close_S_1 : decode cX16_close 1 = .ok (.iload_n 1, 1) := by decide +kernel
theorem dX16_close_S_2 : decode cX16_close 2 = .ok (.i2l, 1) := by decide +kernel
theorem dX16_close_S_3 : decode cX16_close 3 = .ok (.lconst 0, 1) := by decide +kernel
theorem dX16_close_S_4 : decode cX16_close 4 = .ok (.ldc2_w 186, 3) := by decide +kernel
theorem dX16_close_S_7 : decode cX16_close 7 = .ok (.invokestatic 45, 3) := by decide +kernel
theorem dX16_close_S_10 : decode cX16_close 10 = .ok (.ifCond .ne 7, 3) := by decide +kernel
theorem dX16_close_S_17 : decode cX16_close 17 = .ok (.aload_n 0, 1) := by decide +kernel
theorem dX16_close_S_18 : decode cX16_close 18 = .ok (.iload_n 1, 1) := by decide +kernel
theorem dX16_close_S_19 : decode cX16_close 19 = .ok (.invokevirtual 984, 3) := by decide +kernel
theorem dX16_close_S_22 : decode cX16_close 22 = .ok (.ifCond .ne 7, 3) := by decide +kernel
theorem dX16_close_S_25 : decode cX16_close 25 = .ok (.iconst 2, 1) := by decide +kernel
theorem dX16_close_S_26 : decode cX16_close 26 = .ok (.goto 4, 3) := by decide +kernel
theorem dX16_close_S_30 : decode cX16_close 30 = .ok (.putfield 1, 3) := by decide +kernel
theorem dX16_close_S_33 : decode cX16_close 33 = .ok (.aload_n 0, 1) := by decide +kernel
theorem dX16_close_S_34 : decode cX16_close 34 = .ok (.getfield 1, 3) := by decide +kernel
theorem dX16_close_S_37 : decode cX16_close 37 = .ok (.ifCond .le 5, 3) := by decide +kernel
theorem dX16_close_S_40 : decode cX16_close 40 = .ok (.iconst 0, 1) := by decide +kernel
theorem dX16_close_S_41 : decode cX16_close 41 = .ok (.ireturn, 1) := by decide +kernel
def ww_X16_close_S : List Cond := [.constantLong RX16 186 3, .initialized RX16, .methodLink RX16 45 yX16_within, .static yX16_within, .methodLink RX16 984 yX16_hasSource, .instanceMethod yX16_hasSource, .selects RX16 yX16_hasSource yX16_hasSource, .fieldLink RX16 1 "StreamHouseModel" "code" "I"]
def wv_X16_close_S : List Cond := .code yX16_close cX16_close 3 (some .boolean) :: (ww_X16_close_S ++ (wv_X16_within_1 ++ (wv_X16_hasSource ++ (u_ws RX16 TX16 123 ++ []))))
theorem wm_X16_close_S {w : Cond} (i : Nat) (h : ww_X16_close_S[i]? = some w) : w ∈ wv_X16_close_S := List.mem_cons_of_mem _ (List.mem_append_left _ (List.mem_of_getElem? h))
set_option maxRecDepth 100000 in
theorem gw_X16_close_S : wv_X16_close_S.all goodWord = true := by decide +kernel
theorem wg_X16_close_S_X16_within_1 : GoodIn wv_X16_close_S wv_X16_within_1 := goodIn_sub (fun w h => List.mem_cons_of_mem _ (List.mem_append_right _ (List.mem_append_left _ h))) gw_X16_within_1
theorem wt_X16_close_S_X16_within_1 : GoodIn wv_X16_close_S (va_wsS RX16 45 yX16_within wv_X16_within_1) := goodIn_app (goodIn_sub (fun w h => by simp only [List.mem_cons, List.not_mem_nil, or_false] at h; rcases h with rfl | rfl | rfl <;> first | exact wm_X16_close_S 2 rfl | exact wm_X16_close_S 3 rfl | exact wm_X16_close_S 1 rfl) (by decide +kernel)) wg_X16_close_S_X16_within_1
theorem wg_X16_close_S_X16_hasSource : GoodIn wv_X16_close_S wv_X16_hasSource := goodIn_sub (fun w h => List.mem_cons_of_mem _ (List.mem_append_right _ (List.mem_append_right _ (List.mem_append_left _ h)))) gw_X16_hasSource
theorem wV_X16_close_S_X16_hasSource_984 : GoodIn wv_X16_close_S (wsV RX16 984 RX16 yX16_hasSource wv_X16_hasSource) := goodIn_app (goodIn_sub (fun w h => by simp only [List.mem_cons, List.not_mem_nil, or_false] at h; rcases h with rfl | rfl | rfl | rfl <;> first | exact wm_X16_close_S 4 rfl | exact wm_X16_close_S 5 rfl | exact wm_X16_close_S 6 rfl | exact wm_X16_close_S 1 rfl) (by decide +kernel)) wg_X16_close_S_X16_hasSource
theorem wh_X16_close_S_X16 : ∀ w ∈ u_ws RX16 TX16 123, w ∈ wv_X16_close_S := fun w h => List.mem_cons_of_mem _ (List.mem_append_right _ (List.mem_append_right _ (List.mem_append_right _ (List.mem_append_left _ h))))
set_option maxHeartbeats 4000000 in
set_option maxRecDepth 100000 in
/-- close(k) without a job -/
theorem r_X16_close_S (l : Launch) (dC : Nat → ClassId) (dI : Nat → Nat → Nat) (h0 : Nat) (k1 : Int32) (m0 m1 m2 m5 m6 m7 m8 m9 m10 m11 m12 m13 m14 m15 m16 m18 m19 m20 m21 m22 m23 m24 m25 m26 m28 m29 m33 m34 m35 m37 m38 m39 m40 m41 m42 m43 m44 m45 m46 m47 m48 m49 m51 m52 m53 m54 m55 m56 m57 m58 m59 m60 m61 m62 m63 m64 m65 m66 m67 m68 m69 m70 m71 m72 m73 m74 m75 m76 m77 m78 m79 m80 m81 m82 m83 m84 m85 m86 m87 m88 m89 m90 m91 m94 m95 m96 m97 m98 m99 m100 m101 m102 m103 m104 m105 m106 m107 m108 m109 m113 m114 m115 m116 m117 m118 m119 m120 m121 m122 : Value) (sz : Nat) : Met l yX16_close wv_X16_close_S ({ frames := 1, cells := 0, slots := 0, locals := 25 }) (va_Pc [.ref h0, .int k1] (fun U => U.heap.size = sz ∧ va_P (dC, dI) vwCl [(h0, .inr (16, [m0, m1, m2, .int 0, .int 0, m5, m6, m7, m8, m9, m10, m11, m12, m13, m14, m15, m16, .null, m18, m19, m20, m21, m22, m23, m24, m25, m26, .int 0, m28, m29, .int 0, .int 0, .int 0, m33, m34, m35, .int 0, m37, m38, m39, m40, m41, m42, m43, m44, m45, m46, m47, m48, m49, .int 0, m51, m52, m53, m54, m55, m56, m57, m58, m59, m60, m61, m62, m63, m64, m65, m66, m67, m68, m69, m70, m71, m72, m73, m74, m75, m76, m77, m78, m79, m80, m81, m82, m83, m84, m85, m86, m87, m88, m89, m90, m91, .int 0, .int 0, m94, m95, m96, m97, m98, m99, m100, m101, m102, m103, m104, m105, m106, m107, m108, m109, .long 0, .long 0, .int 0, m113, m114, m115, m116, m117, m118, m119, m120, m121, m122]))] U.heap ∧ va_K (dC, dI) vwCl [] U ∧ va_D (fun _ => True) [(h0, .inr (16, [m0, m1, m2, .int 0, .int 0, m5, m6, m7, m8, m9, m10, m11, m12, m13, m14, m15, m16, .null, m18, m19, m20, m21, m22, m23, m24, m25, m26, .int 0, m28, m29, .int 0, .int 0, .int 0, m33, m34, m35, .int 0, m37, m38, m39, m40, m41, m42, m43, m44, m45, m46, m47, m48, m49, .int 0, m51, m52, m53, m54, m55, m56, m57, m58, m59, m60, m61, m62, m63, m64, m65, m66, m67, m68, m69, m70, m71, m72, m73, m74, m75, m76, m77, m78, m79, m80, m81, m82, m83, m84, m85, m86, m87, m88, m89, m90, m91, .int 0, .int 0, m94, m95, m96, m97, m98, m99, m100, m101, m102, m103, m104, m105, m106, m107, m108, m109, .long 0, .long 0, .int 0, m113, m114, m115, m116, m117, m118, m119, m120, m121, m122]))] ∧ (0 ≤ k1.toInt64 ∧ k1.toInt64 ≤ 3))) (va_Qi (fun r (_ : Unit) => r = 0) (ar_X16_close_S dC dI (va_A [(h0, .inr (16, [m0, m1, m2, .int 0, .int 0, m5, m6, m7, m8, m9, m10, m11, m12, m13, m14, m15, m16, .null, m18, m19, m20, m21, m22, m23, m24, m25, m26, .int 0, m28, m29, .int 0, .int 0, .int 0, m33, m34, m35, .int 0, m37, m38, m39, m40, m41, m42, m43, m44, m45, m46, m47, m48, m49, .int 0, m51, m52, m53, m54, m55, m56, m57, m58, m59, m60, m61, m62, m63, m64, m65, m66, m67, m68, m69, m70, m71, m72, m73, m74, m75, m76, m77, m78, m79, m80, m81, m82, m83, m84, m85, m86, m87, m88, m89, m90, m91, .int 0, .int 0, m94, m95, m96, m97, m98, m99, m100, m101, m102, m103, m104, m105, m106, m107, m108, m109, .long 0, .long 0, .int 0, m113, m114, m115, m116, m117, m118, m119, m120, m121, m122]))] sz) h0 k1 m0 m1 m2 m5 m6 m7 m8 m9 m10 m11 m12 m13 m14 m15 m16 m18 m19 m20 m21 m22 m23 m24 m25 m26 m28 m29 m33 m34 m35 m37 m38 m39 m40 m41 m42 m43 m44 m45 m46 m47 m48 m49 m51 m52 m53 m54 m55 m56 m57 m58 m59 m60 m61 m62 m63 m64 m65 m66 m67 m68 m69 m70 m71 m72 m73 m74 m75 m76 m77 m78 m79 m80 m81 m82 m83 m84 m85 m86 m87 m88 m89 m90 m91 m94 m95 m96 m97 m98 m99 m100 m101 m102 m103 m104 m105 m106 m107 m108 m109 m113 m114 m115 m116 m117 m118 m119 m120 m121 m122) (va_A [(h0, .inr (16, [m0, m1, m2, .int 0, .int 0, m5, m6, m7, m8, m9, m10, m11, m12, m13, m14, m15, m16, .null, m18, m19, m20, m21, m22, m23, m24, m25, m26, .int 0, m28, m29, .int 0, .int 0, .int 0, m33, m34, m35, .int 0, m37, m38, m39, m40, m41, m42, m43, m44, m45, m46, m47, m48, m49, .int 0, m51, m52, m53, m54, m55, m56, m57, m58, m59, m60, m61, m62, m63, m64, m65, m66, m67, m68, m69, m70, m71, m72, m73, m74, m75, m76, m77, m78, m79, m80, m81, m82, m83, m84, m85, m86, m87, m88, m89, m90, m91, .int 0, .int 0, m94, m95, m96, m97, m98, m99, m100, m101, m102, m103, m104, m105, m106, m107, m108, m109, .long 0, .long 0, .int 0, m113, m114, m115, m116, m117, m118, m119, m120, m121, m122]))] sz)) 0 0 (va_A [(h0, .inr (16, [m0, m1, m2, .int 0, .int 0, m5, m6, m7, m8, m9, m10, m11, m12, m13, m14, m15, m16, .null, m18, m19, m20, m21, m22, m23, m24, m25, m26, .int 0, m28, m29, .int 0, .int 0, .int 0, m33, m34, m35, .int 0, m37, m38, m39, m40, m41, m42, m43, m44, m45, m46, m47, m48, m49, .int 0, m51, m52, m53, m54, m55, m56, m57, m58, m59, m60, m61, m62, m63, m64, m65, m66, m67, m68, m69, m70, m71, m72, m73, m74, m75, m76, m77, m78, m79, m80, m81, m82, m83, m84, m85, m86, m87, m88, m89, m90, m91, .int 0, .int 0, m94, m95, m96, m97, m98, m99, m100, m101, m102, m103, m104, m105, m106, m107, m108, m109, .long 0, .long 0, .int 0, m113, m114, m115, m116, m117, m118, m119, m120, m121, m122]))] sz) := by
  refine Met.ofW (cc := cX16_close) (maxL := 3) (ret := (some .boolean)) (by decide) rfl ?_
  intro p e s m args below meth c s₁ B hml hv
  obtain ⟨rfl, hsz, hP, hK, hD0, hpre⟩ := hv
  have hx := B.exec
  have hb := B.bytes
  have hr := B.returns
  have hts := atoms_spec (ws := wv_X16_close_S) B.pre
  have hown : s.vm.findClass RX16 = some m.cls := findClass_of_methodNamed B.named
  have hlocks := B.notSynchronized
  subst hsz
  have hD := hD0.self (sz := s.heap.size)
  generalize hAe : va_A [(h0, .inr (16, [m0, m1, m2, .int 0, .int 0, m5, m6, m7, m8, m9, m10, m11, m12, m13, m14, m15, m16, .null, m18, m19, m20, m21, m22, m23, m24, m25, m26, .int 0, m28, m29, .int 0, .int 0, .int 0, m33, m34, m35, .int 0, m37, m38, m39, m40, m41, m42, m43, m44, m45, m46, m47, m48, m49, .int 0, m51, m52, m53, m54, m55, m56, m57, m58, m59, m60, m61, m62, m63, m64, m65, m66, m67, m68, m69, m70, m71, m72, m73, m74, m75, m76, m77, m78, m79, m80, m81, m82, m83, m84, m85, m86, m87, m88, m89, m90, m91, .int 0, .int 0, m94, m95, m96, m97, m98, m99, m100, m101, m102, m103, m104, m105, m106, m107, m108, m109, .long 0, .long 0, .int 0, m113, m114, m115, m116, m117, m118, m119, m120, m121, m122]))] s.heap.size = A at hD ⊢
  have hA : ∀ q : Nat, s.heap.size ≤ q → A q := fun q h => by rw [← hAe]; exact Or.inr h
  have hS : va_S A s.heap s.heap [] := va_S.rf
  have hP : va_P (dC, dI) vwCl [(h0, .inr (16, [m0, m1, m2, .int 0, .int 0, m5, m6, m7, m8, m9, m10, m11, m12, m13, m14, m15, m16, .null, m18, m19, m20, m21, m22, m23, m24, m25, m26, .int 0, m28, m29, .int 0, .int 0, .int 0, m33, m34, m35, .int 0, m37, m38, m39, m40, m41, m42, m43, m44, m45, m46, m47, m48, m49, .int 0, m51, m52, m53, m54, m55, m56, m57, m58, m59, m60, m61, m62, m63, m64, m65, m66, m67, m68, m69, m70, m71, m72, m73, m74, m75, m76, m77, m78, m79, m80, m81, m82, m83, m84, m85, m86, m87, m88, m89, m90, m91, .int 0, .int 0, m94, m95, m96, m97, m98, m99, m100, m101, m102, m103, m104, m105, m106, m107, m108, m109, .long 0, .long 0, .int 0, m113, m114, m115, m116, m117, m118, m119, m120, m121, m122]))] s.heap := hP
  have hl := lv_entry ([.ref h0, .int k1]) (n := 3) (Nat.le_of_ble_eq_true rfl)
  rw [lg_entry_eq]
  generalize (lg_sl ([.ref h0, .int k1]) ++ List.replicate (3 - (lg_sl ([.ref h0, .int k1])).length) Slot.unset).toArray = ls at hl ⊢
  have hl : lv_has ls 3 [(0, .ref h0), (1, .int k1)] := hl
  refine lv_aload_n hx hb dX16_close_S_0 rfl (lv_at hl 0 rfl) ?_
  refine lv_iload_n hx hb dX16_close_S_1 rfl (lv_at hl 1 rfl) ?_
  refine lv_i2l (v := k1.toInt64) hx hb dX16_close_S_2 rfl ?_
  refine lv_lconst (v := 0) hx hb dX16_close_S_3 (by decide) ?_
  refine lv_ldc2 hx hb hown (hts (.constantLong RX16 186 3) (wm_X16_close_S 0 rfl)) dX16_close_S_4 ?_
  have hPc := hP.sub (ws' := []) [] rfl
  have hDc := hD.sub (ws' := []) [] (by decide) rfl
  have hKc := hK.sub (tys' := []) [] rfl
  have hFc := va_free (wc := []) hD hS hA [] rfl
  have h_1 : 0 ≤ 0 := by decide
  have h_2 : 0 ≤ 0 := by decide
  refine va_calli (va_runS (As := [.long (k1.toInt64), .long 0, .long 3]) (rest := [.ref h0]) ⟨hx, hb, hml, hown, hts⟩ (r_X16_within_1 l dC dI (k1.toInt64) 0 3 _) (va_cwS 3 hts wt_X16_close_S_X16_within_1 rfl rfl rfl (by decide +kernel) ⟨Nat.le_of_ble_eq_true rfl, Nat.le_of_ble_eq_true rfl⟩) ⟨fun a U g mk q => by obtain ⟨q0, q1, qP, qK, qD, qp⟩ := q; exact ⟨q0, q1, qP, va_K.moved (u := U) (U := U.calling g mk a) (Vm.Alike.refl U.vm) qK, qD, qp⟩, fun U hU hW => ⟨rfl, by rw [hU], by rw [hU]; exact hPc, va_K.moved hW.alike hKc, hDc.weaken (fun _ _ _ _ => trivial), hpre⟩⟩ rfl rfl hl.1 rfl (lv_room (Nat.le_of_ble_eq_true rfl)) dX16_close_S_7 ⟨h_1, h_2⟩) hS (fun q _ h => hFc q h) hFc (fun y4 u3 t H1 locs ht hvm hw hB hz1 hk1 hS => ?_)
  obtain ⟨hP1, hK1, hD1⟩ := hB
  rw [ht] at hP1
  have hK1 := va_K.moved hvm.symm hK1
  obtain ⟨hP, hD⟩ := va_join (wr := [(h0, .inr (16, [m0, m1, m2, .int 0, .int 0, m5, m6, m7, m8, m9, m10, m11, m12, m13, m14, m15, m16, .null, m18, m19, m20, m21, m22, m23, m24, m25, m26, .int 0, m28, m29, .int 0, .int 0, .int 0, m33, m34, m35, .int 0, m37, m38, m39, m40, m41, m42, m43, m44, m45, m46, m47, m48, m49, .int 0, m51, m52, m53, m54, m55, m56, m57, m58, m59, m60, m61, m62, m63, m64, m65, m66, m67, m68, m69, m70, m71, m72, m73, m74, m75, m76, m77, m78, m79, m80, m81, m82, m83, m84, m85, m86, m87, m88, m89, m90, m91, .int 0, .int 0, m94, m95, m96, m97, m98, m99, m100, m101, m102, m103, m104, m105, m106, m107, m108, m109, .long 0, .long 0, .int 0, m113, m114, m115, m116, m117, m118, m119, m120, m121, m122]))]) (w1 := []) hP hD [] [0] rfl rfl (by decide) (by decide) hk1 hFc hP1 hD1
  have hK := (hK.sub (tys' := []) [] rfl).app hK1
  generalize H1 = H at hP hS ⊢
  have hP : va_P (dC, dI) vwCl [(h0, .inr (16, [m0, m1, m2, .int 0, .int 0, m5, m6, m7, m8, m9, m10, m11, m12, m13, m14, m15, m16, .null, m18, m19, m20, m21, m22, m23, m24, m25, m26, .int 0, m28, m29, .int 0, .int 0, .int 0, m33, m34, m35, .int 0, m37, m38, m39, m40, m41, m42, m43, m44, m45, m46, m47, m48, m49, .int 0, m51, m52, m53, m54, m55, m56, m57, m58, m59, m60, m61, m62, m63, m64, m65, m66, m67, m68, m69, m70, m71, m72, m73, m74, m75, m76, m77, m78, m79, m80, m81, m82, m83, m84, m85, m86, m87, m88, m89, m90, m91, .int 0, .int 0, m94, m95, m96, m97, m98, m99, m100, m101, m102, m103, m104, m105, m106, m107, m108, m109, .long 0, .long 0, .int 0, m113, m114, m115, m116, m117, m118, m119, m120, m121, m122]))] H := hP
  have hD : va_D A [(h0, .inr (16, [m0, m1, m2, .int 0, .int 0, m5, m6, m7, m8, m9, m10, m11, m12, m13, m14, m15, m16, .null, m18, m19, m20, m21, m22, m23, m24, m25, m26, .int 0, m28, m29, .int 0, .int 0, .int 0, m33, m34, m35, .int 0, m37, m38, m39, m40, m41, m42, m43, m44, m45, m46, m47, m48, m49, .int 0, m51, m52, m53, m54, m55, m56, m57, m58, m59, m60, m61, m62, m63, m64, m65, m66, m67, m68, m69, m70, m71, m72, m73, m74, m75, m76, m77, m78, m79, m80, m81, m82, m83, m84, m85, m86, m87, m88, m89, m90, m91, .int 0, .int 0, m94, m95, m96, m97, m98, m99, m100, m101, m102, m103, m104, m105, m106, m107, m108, m109, .long 0, .long 0, .int 0, m113, m114, m115, m116, m117, m118, m119, m120, m121, m122]))] := hD
  have hK : va_K (dC, dI) vwCl [] s := hK
  refine W.widen (k := 0) (n := 0) (by decide) (by decide) ?_
  have hw : y4 = 1 := hw
  subst hw
  refine lv_if_ne (tgt := 17) hx hb dX16_close_S_10 (by decide) (fun _ => ?_) (fun h9 => absurd h9 (by decide))
  refine lv_aload_n hx hb dX16_close_S_17 rfl (lv_at hl 0 rfl) ?_
  refine lv_iload_n hx hb dX16_close_S_18 rfl (lv_at hl 1 rfl) ?_
  have hPc := hP.sub (ws' := [(h0, .inr (16, [m0, m1, m2, .int 0, .int 0, m5, m6, m7, m8, m9, m10, m11, m12, m13, m14, m15, m16, .null, m18, m19, m20, m21, m22, m23, m24, m25, m26, .int 0, m28, m29, .int 0, .int 0, .int 0, m33, m34, m35, .int 0, m37, m38, m39, m40, m41, m42, m43, m44, m45, m46, m47, m48, m49, .int 0, m51, m52, m53, m54, m55, m56, m57, m58, m59, m60, m61, m62, m63, m64, m65, m66, m67, m68, m69, m70, m71, m72, m73, m74, m75, m76, m77, m78, m79, m80, m81, m82, m83, m84, m85, m86, m87, m88, m89, m90, m91, .int 0, .int 0, m94, m95, m96, m97, m98, m99, m100, m101, m102, m103, m104, m105, m106, m107, m108, m109, .long 0, .long 0, .int 0, m113, m114, m115, m116, m117, m118, m119, m120, m121, m122]))]) [0] rfl
  have hDc := hD.sub (ws' := [(h0, .inr (16, [m0, m1, m2, .int 0, .int 0, m5, m6, m7, m8, m9, m10, m11, m12, m13, m14, m15, m16, .null, m18, m19, m20, m21, m22, m23, m24, m25, m26, .int 0, m28, m29, .int 0, .int 0, .int 0, m33, m34, m35, .int 0, m37, m38, m39, m40, m41, m42, m43, m44, m45, m46, m47, m48, m49, .int 0, m51, m52, m53, m54, m55, m56, m57, m58, m59, m60, m61, m62, m63, m64, m65, m66, m67, m68, m69, m70, m71, m72, m73, m74, m75, m76, m77, m78, m79, m80, m81, m82, m83, m84, m85, m86, m87, m88, m89, m90, m91, .int 0, .int 0, m94, m95, m96, m97, m98, m99, m100, m101, m102, m103, m104, m105, m106, m107, m108, m109, .long 0, .long 0, .int 0, m113, m114, m115, m116, m117, m118, m119, m120, m121, m122]))]) [0] (by decide) rfl
  have hKc := hK.sub (tys' := []) [] rfl
  have hFc := va_free (wc := [(h0, .inr (16, [m0, m1, m2, .int 0, .int 0, m5, m6, m7, m8, m9, m10, m11, m12, m13, m14, m15, m16, .null, m18, m19, m20, m21, m22, m23, m24, m25, m26, .int 0, m28, m29, .int 0, .int 0, .int 0, m33, m34, m35, .int 0, m37, m38, m39, m40, m41, m42, m43, m44, m45, m46, m47, m48, m49, .int 0, m51, m52, m53, m54, m55, m56, m57, m58, m59, m60, m61, m62, m63, m64, m65, m66, m67, m68, m69, m70, m71, m72, m73, m74, m75, m76, m77, m78, m79, m80, m81, m82, m83, m84, m85, m86, m87, m88, m89, m90, m91, .int 0, .int 0, m94, m95, m96, m97, m98, m99, m100, m101, m102, m103, m104, m105, m106, m107, m108, m109, .long 0, .long 0, .int 0, m113, m114, m115, m116, m117, m118, m119, m120, m121, m122]))]) hD hS hA [0] rfl
  have h_5 : 0 ≤ 0 := by decide
  have h_6 : 0 ≤ 0 := by decide
  refine va_calli (va_runV (As := [.int k1]) (rest := [.ref h0]) ⟨hx, hb, hml, hown, hts⟩ (r_X16_hasSource l dC dI h0 k1 m0 m1 m2 m5 m6 m7 m8 m9 m10 m11 m12 m13 m14 m15 m16 m18 m19 m20 m21 m22 m23 m24 m25 m26 m28 m29 m33 m34 m35 m37 m38 m39 m40 m41 m42 m43 m44 m45 m46 m47 m48 m49 m51 m52 m53 m54 m55 m56 m57 m58 m59 m60 m61 m62 m63 m64 m65 m66 m67 m68 m69 m70 m71 m72 m73 m74 m75 m76 m77 m78 m79 m80 m81 m82 m83 m84 m85 m86 m87 m88 m89 m90 m91 m94 m95 m96 m97 m98 m99 m100 m101 m102 m103 m104 m105 m106 m107 m108 m109 m113 m114 m115 m116 m117 m118 m119 m120 m121 m122 _) (cwV 1 hts wV_X16_close_S_X16_hasSource_984 rfl rfl rfl (by decide +kernel) ⟨Nat.le_of_ble_eq_true rfl, Nat.le_of_ble_eq_true rfl⟩) ⟨fun a U g mk q => by obtain ⟨q0, q1, qP, qK, qD⟩ := q; exact ⟨q0, q1, qP, va_K.moved (u := U) (U := U.calling g mk a) (Vm.Alike.refl U.vm) qK, qD⟩, va_recv hKc hPc (ci := 16) (q0 := 0) rfl rfl, fun U hU hW => ⟨rfl, by rw [hU], by rw [hU]; exact hPc, va_K.moved hW.alike hKc, hDc.weaken (fun _ _ _ _ => trivial)⟩⟩ rfl rfl hl.1 rfl (lv_room (Nat.le_of_ble_eq_true rfl)) dX16_close_S_19 ⟨h_5, h_6⟩) hS (fun q _ h => hFc q h) hFc (fun y8 u7 t H1 locs ht hvm hw hB hz1 hk1 hS => ?_)
  obtain ⟨hP1, hK1, hD1⟩ := hB
  rw [ht] at hP1
  have hK1 := va_K.moved hvm.symm hK1
  obtain ⟨hP, hD⟩ := va_join (wr := []) (w1 := [(h0, .inr (16, [m0, m1, m2, .int 0, .int 0, m5, m6, m7, m8, m9, m10, m11, m12, m13, m14, m15, m16, .null, m18, m19, m20, m21, m22, m23, m24, m25, m26, .int 0, m28, m29, .int 0, .int 0, .int 0, m33, m34, m35, .int 0, m37, m38, m39, m40, m41, m42, m43, m44, m45, m46, m47, m48, m49, .int 0, m51, m52, m53, m54, m55, m56, m57, m58, m59, m60, m61, m62, m63, m64, m65, m66, m67, m68, m69, m70, m71, m72, m73, m74, m75, m76, m77, m78, m79, m80, m81, m82, m83, m84, m85, m86, m87, m88, m89, m90, m91, .int 0, .int 0, m94, m95, m96, m97, m98, m99, m100, m101, m102, m103, m104, m105, m106, m107, m108, m109, .long 0, .long 0, .int 0, m113, m114, m115, m116, m117, m118, m119, m120, m121, m122]))]) hP hD [0] [] rfl rfl (by decide) (by decide) hk1 hFc hP1 hD1
  have hK := (hK.sub (tys' := []) [] rfl).app hK1
  generalize H1 = H at hP hS ⊢
  have hP : va_P (dC, dI) vwCl [(h0, .inr (16, [m0, m1, m2, .int 0, .int 0, m5, m6, m7, m8, m9, m10, m11, m12, m13, m14, m15, m16, .null, m18, m19, m20, m21, m22, m23, m24, m25, m26, .int 0, m28, m29, .int 0, .int 0, .int 0, m33, m34, m35, .int 0, m37, m38, m39, m40, m41, m42, m43, m44, m45, m46, m47, m48, m49, .int 0, m51, m52, m53, m54, m55, m56, m57, m58, m59, m60, m61, m62, m63, m64, m65, m66, m67, m68, m69, m70, m71, m72, m73, m74, m75, m76, m77, m78, m79, m80, m81, m82, m83, m84, m85, m86, m87, m88, m89, m90, m91, .int 0, .int 0, m94, m95, m96, m97, m98, m99, m100, m101, m102, m103, m104, m105, m106, m107, m108, m109, .long 0, .long 0, .int 0, m113, m114, m115, m116, m117, m118, m119, m120, m121, m122]))] H := hP
  have hD : va_D A [(h0, .inr (16, [m0, m1, m2, .int 0, .int 0, m5, m6, m7, m8, m9, m10, m11, m12, m13, m14, m15, m16, .null, m18, m19, m20, m21, m22, m23, m24, m25, m26, .int 0, m28, m29, .int 0, .int 0, .int 0, m33, m34, m35, .int 0, m37, m38, m39, m40, m41, m42, m43, m44, m45, m46, m47, m48, m49, .int 0, m51, m52, m53, m54, m55, m56, m57, m58, m59, m60, m61, m62, m63, m64, m65, m66, m67, m68, m69, m70, m71, m72, m73, m74, m75, m76, m77, m78, m79, m80, m81, m82, m83, m84, m85, m86, m87, m88, m89, m90, m91, .int 0, .int 0, m94, m95, m96, m97, m98, m99, m100, m101, m102, m103, m104, m105, m106, m107, m108, m109, .long 0, .long 0, .int 0, m113, m114, m115, m116, m117, m118, m119, m120, m121, m122]))] := hD
  have hK : va_K (dC, dI) vwCl [] s := hK
  refine W.widen (k := 0) (n := 0) (by decide) (by decide) ?_
  have hw : y8 = 0 := hw
  subst hw
  refine lv_if_ne (tgt := 29) hx hb dX16_close_S_22 (by decide) (fun h9 => absurd (by decide) h9) (fun _ => ?_)
  refine lv_iconst (v := 2) hx hb dX16_close_S_25 (by decide) ?_
  refine lv_goto (tgt := 30) hx hb dX16_close_S_26 (by decide) ?_
  refine va_put (D := (dC, dI)) (ci := 16) (v := .int 2) (ty := .int) (C := RX16) (T := TX16) (N := 123) hx hb hts wh_X16_close_S_X16 tyX16 tyX16_ok nmX16 hown hK hP hD hS 0 rfl rfl 0 (by decide) (hts (.fieldLink RX16 1 "StreamHouseModel" "code" "I") (wm_X16_close_S 7 rfl)) (fun _ h9 => h9) rfl (by decide +kernel) rfl rfl (Nat.le_of_ble_eq_true rfl) dX16_close_S_30 (fun H locs hP hD hS => ?_)
  have hP : va_P (dC, dI) vwCl [(h0, .inr (16, [.int 2, m1, m2, .int 0, .int 0, m5, m6, m7, m8, m9, m10, m11, m12, m13, m14, m15, m16, .null, m18, m19, m20, m21, m22, m23, m24, m25, m26, .int 0, m28, m29, .int 0, .int 0, .int 0, m33, m34, m35, .int 0, m37, m38, m39, m40, m41, m42, m43, m44, m45, m46, m47, m48, m49, .int 0, m51, m52, m53, m54, m55, m56, m57, m58, m59, m60, m61, m62, m63, m64, m65, m66, m67, m68, m69, m70, m71, m72, m73, m74, m75, m76, m77, m78, m79, m80, m81, m82, m83, m84, m85, m86, m87, m88, m89, m90, m91, .int 0, .int 0, m94, m95, m96, m97, m98, m99, m100, m101, m102, m103, m104, m105, m106, m107, m108, m109, .long 0, .long 0, .int 0, m113, m114, m115, m116, m117, m118, m119, m120, m121, m122]))] H := hP
  have hD : va_D A [(h0, .inr (16, [.int 2, m1, m2, .int 0, .int 0, m5, m6, m7, m8, m9, m10, m11, m12, m13, m14, m15, m16, .null, m18, m19, m20, m21, m22, m23, m24, m25, m26, .int 0, m28, m29, .int 0, .int 0, .int 0, m33, m34, m35, .int 0, m37, m38, m39, m40, m41, m42, m43, m44, m45, m46, m47, m48, m49, .int 0, m51, m52, m53, m54, m55, m56, m57, m58, m59, m60, m61, m62, m63, m64, m65, m66, m67, m68, m69, m70, m71, m72, m73, m74, m75, m76, m77, m78, m79, m80, m81, m82, m83, m84, m85, m86, m87, m88, m89, m90, m91, .int 0, .int 0, m94, m95, m96, m97, m98, m99, m100, m101, m102, m103, m104, m105, m106, m107, m108, m109, .long 0, .long 0, .int 0, m113, m114, m115, m116, m117, m118, m119, m120, m121, m122]))] := hD
  refine lv_aload_n hx hb dX16_close_S_33 rfl (lv_at hl 0 rfl) ?_
  refine va_get (D := (dC, dI)) (ci := 16) (v := .int 2) (C := RX16) (T := TX16) (N := 123) hx hb hts wh_X16_close_S_X16 hown hK hP 0 rfl rfl 0 (by decide) (hts (.fieldLink RX16 1 "StreamHouseModel" "code" "I") (wm_X16_close_S 7 rfl)) (fun _ h9 => h9) rfl dX16_close_S_34 ?_
  refine lv_if_le (tgt := 42) hx hb dX16_close_S_37 (by decide) (fun h9 => absurd h9 (by decide)) (fun _ => ?_)
  refine lv_iconst (v := 0) hx hb dX16_close_S_40 (by decide) ?_
  have hP9 := hP.sub (ws' := [(h0, .inr (16, [.int 2, m1, m2, .int 0, .int 0, m5, m6, m7, m8, m9, m10, m11, m12, m13, m14, m15, m16, .null, m18, m19, m20, m21, m22, m23, m24, m25, m26, .int 0, m28, m29, .int 0, .int 0, .int 0, m33, m34, m35, .int 0, m37, m38, m39, m40, m41, m42, m43, m44, m45, m46, m47, m48, m49, .int 0, m51, m52, m53, m54, m55, m56, m57, m58, m59, m60, m61, m62, m63, m64, m65, m66, m67, m68, m69, m70, m71, m72, m73, m74, m75, m76, m77, m78, m79, m80, m81, m82, m83, m84, m85, m86, m87, m88, m89, m90, m91, .int 0, .int 0, m94, m95, m96, m97, m98, m99, m100, m101, m102, m103, m104, m105, m106, m107, m108, m109, .long 0, .long 0, .int 0, m113, m114, m115, m116, m117, m118, m119, m120, m121, m122]))]) [0] rfl
  have hD9 := hD.sub (ws' := [(h0, .inr (16, [.int 2, m1, m2, .int 0, .int 0, m5, m6, m7, m8, m9, m10, m11, m12, m13, m14, m15, m16, .null, m18, m19, m20, m21, m22, m23, m24, m25, m26, .int 0, m28, m29, .int 0, .int 0, .int 0, m33, m34, m35, .int 0, m37, m38, m39, m40, m41, m42, m43, m44, m45, m46, m47, m48, m49, .int 0, m51, m52, m53, m54, m55, m56, m57, m58, m59, m60, m61, m62, m63, m64, m65, m66, m67, m68, m69, m70, m71, m72, m73, m74, m75, m76, m77, m78, m79, m80, m81, m82, m83, m84, m85, m86, m87, m88, m89, m90, m91, .int 0, .int 0, m94, m95, m96, m97, m98, m99, m100, m101, m102, m103, m104, m105, m106, m107, m108, m109, .long 0, .long 0, .int 0, m113, m114, m115, m116, m117, m118, m119, m120, m121, m122]))]) [0] (by decide) rfl
  have hK9 := hK.sub (tys' := []) [] rfl
  refine W.widen (k := 0) (n := 0) (by decide) (by decide) ?_
  exact W.zret (v := 0) hx hb hr rfl (fun t ht hW => ⟨⟨0, (), rfl, rfl, by rw [ht]; exact hP9, va_K.moved hW.alike hK9, hD9⟩, hS.F ht⟩) hS.2.2 dX16_close_S_41

abbrev ar_X16_give_X (dC : Nat → ClassId) (dI : Nat → Nat → Nat) (A : Nat → Prop) (h0 : Nat) (k1 k2 : Int32) (g1 g2 g3 g4 : Int64) (m0 m1 m2 m5 m6 m7 m8 m9 m10 m11 m12 m13 m14 m15 m16 m18 m19 m20 m21 m22 m23 m24 m25 m26 m28 m29 m33 m34 m35 m37 m38 m39 m40 m41 m42 m43 m44 m45 m46 m47 m48 m49 m51 m52 m53 m54 m55 m56 m57 m58 m59 m60 m61 m62 m63 m64 m65 m66 m67 m68 m69 m70 m71 m72 m73 m74 m75 m76 m77 m78 m79 m80 m81 m82 m83 m84 m85 m86 m87 m88 m89 m90 m91 m94 m95 m96 m97 m98 m99 m100 m101 m102 m103 m104 m105 m106 m107 m108 m109 m113 m114 m115 m116 m117 m118 m119 m120 m121 m122 : Value) (_ : Unit) (t : State) : Prop := va_P (dC, dI) vwCl [(h0, .inr (16, [.int 1, m1, m2, .int 0, .int 0, m5, m6, m7, m8, m9, m10, m11, m12, m13, m14, m15, m16, .null, m18, m19, m20, m21, m22, m23, m24, m25, m26, .int 0, m28, m29, .int 0, .int 0, .int 0, m33, m34, m35, .int 0, m37, m38, m39, m40, m41, m42, m43, m44, m45, m46, m47, m48, m49, .int 0, m51, m52, m53, m54, m55, m56, m57, m58, m59, m60, m61, m62, m63, m64, m65, m66, m67, m68, m69, m70, m71, m72, m73, m74, m75, m76, m77, m78, m79, m80, m81, m82, m83, m84, m85, m86, m87, m88, m89, m90, m91, .int 0, .int 0, m94, m95, m96, m97, m98, m99, m100, m101, m102, m103, m104, m105, m106, m107, m108, m109, .long 0, .long 0, .int 0, m113, m114, m115, m116, m117, m118, m119, m120, m121, m122]))] t.heap ∧ va_K (dC, dI) vwCl [] t ∧ va_D A [(h0, .inr (16, [.int 1, m1, m2, .int 0, .int 0, m5, m6, m7, m8, m9, m10, m11, m12, m13, m14, m15, m16, .null, m18, m19, m20, m21, m22, m23, m24, m25, m26, .int 0, m28, m29, .int 0, .int 0, .int 0, m33, m34, m35, .int 0, m37, m38, m39, m40, m41, m42, m43, m44, m45, m46, m47, m48, m49, .int 0, m51, m52, m53, m54, m55, m56, m57, m58, m59, m60, m61, m62, m63, m64, m65, m66, m67, m68, m69, m70, m71, m72, m73, m74, m75, m76, m77, m78, m79, m80, m81, m82, m83, m84, m85, m86, m87, m88, m89, m90, m91, .int 0, .int 0, m94, m95, m96, m97, m98, m99, m100, m101, m102, m103, m104, m105, m106, m107, m108, m109, .long 0, .long 0, .int 0, m113, m114, m115, m116, m117, m118, m119, m120, m121, m122]))]
theorem dX16_give_X_0 : decode cX16_give 0 = .ok (.aload_n 0, 1) := by decide +kernel
theorem dX16_give_X_1 : decode cX16_give 1 = .ok (.iload_n 1, 1) := by decide +kernel
theorem dX16_give_X_2 : decode cX16_give 2 = .ok (.i2l, 1) := by decide +kernel
theorem dX16_give_X_3 : decode cX16_give 3 = .ok (.lconst 0, 1) := by decide +kernel
theorem dX16_give_X_4 : decode cX16_give 4 = .ok (.ldc2_w 186, 3) := by decide +kernel
theorem dX16_give_X_7 : decode cX16_give 7 = .ok (.invokestatic 45, 3) := by decide +kernel
theorem dX16_give_X_10 : decode cX16_give 10 = .ok (.ifCond .ne 7, 3) := by decide +kernel
theorem dX16_give_X_13 : decode cX16_give 13 = .ok (.iconst 1, 1) := by decide +kernel
theorem dX16_give_X_14 : decode cX16_give 14 = .ok (.goto 56, 3) := by decide +kernel
theorem dX16_give_X_70 : decode cX16_give 70 = .ok (.putfield 1, 3) := by decide +kernel
theorem dX16_give_X_73 : decode cX16_give 73 = .ok (.aload_n 0, 1) := by decide +kernel
theorem dX16_give_X_74 : decode cX16_give 74 = .ok (.getfield 1, 3) := by decide +kernel
theorem dX16_give_X_77 : decode cX16_give 77 = .ok (.ifCond .le 5, 3) := by decide +kernel
theorem dX16_give_X_80 : decode cX16_give 80 = .ok (.iconst 0, 1) := by decide +kernel
theorem dX16_give_X_81 : decode cX16_give 81 = .ok (.ireturn, 1) := by decide +kernel
def ww_X16_give_X : List Cond := [.constantLong RX16 186 3, .initialized RX16, .methodLink RX16 45 yX16_within, .static yX16_within, .fieldLink RX16 1 "StreamHouseModel" "code" "I"]
def wv_X16_give_X : List Cond := .code yX16_give cX16_give 12 (some .int) :: (ww_X16_give_X ++ (wv_X16_within_0 ++ (u_ws RX16 TX16 123 ++ [])))
theorem wm_X16_give_X {w : Cond} (i : Nat) (h : ww_X16_give_X[i]? = some w) : w ∈ wv_X16_give_X := List.mem_cons_of_mem _ (List.mem_append_left _ (List.mem_of_getElem? h))
set_option maxRecDepth 100000 in
theorem gw_X16_give_X : wv_X16_give_X.all goodWord = true := by decide +kernel
theorem wg_X16_give_X_X16_within_0 : GoodIn wv_X16_give_X wv_X16_within_0 := goodIn_sub (fun w h => List.mem_cons_of_mem _ (List.mem_append_right _ (List.mem_append_left _ h))) gw_X16_within_0
theorem wt_X16_give_X_X16_within_0 : GoodIn wv_X16_give_X (va_wsS RX16 45 yX16_within wv_X16_within_0) := goodIn_app (goodIn_sub (fun w h => by simp only [List.mem_cons, List.not_mem_nil, or_false] at h; rcases h with rfl | rfl | rfl <;> first | exact wm_X16_give_X 2 rfl | exact wm_X16_give_X 3 rfl | exact wm_X16_give_X 1 rfl) (by decide +kernel)) wg_X16_give_X_X16_within_0
theorem wh_X16_give_X_X16 : ∀ w ∈ u_ws RX16 TX16 123, w ∈ wv_X16_give_X := fun w h => List.mem_cons_of_mem _ (List.mem_append_right _ (List.mem_append_right _ (List.mem_append_left _ h)))
set_option maxHeartbeats 4000000 in
set_option maxRecDepth 100000 in
/-- give(k, ..) of no source -/
theorem r_X16_give_X (l : Launch) (dC : Nat → ClassId) (dI : Nat → Nat → Nat) (h0 : Nat) (k1 k2 : Int32) (g1 g2 g3 g4 : Int64) (m0 m1 m2 m5 m6 m7 m8 m9 m10 m11 m12 m13 m14 m15 m16 m18 m19 m20 m21 m22 m23 m24 m25 m26 m28 m29 m33 m34 m35 m37 m38 m39 m40 m41 m42 m43 m44 m45 m46 m47 m48 m49 m51 m52 m53 m54 m55 m56 m57 m58 m59 m60 m61 m62 m63 m64 m65 m66 m67 m68 m69 m70 m71 m72 m73 m74 m75 m76 m77 m78 m79 m80 m81 m82 m83 m84 m85 m86 m87 m88 m89 m90 m91 m94 m95 m96 m97 m98 m99 m100 m101 m102 m103 m104 m105 m106 m107 m108 m109 m113 m114 m115 m116 m117 m118 m119 m120 m121 m122 : Value) (sz : Nat) : Met l yX16_give wv_X16_give_X ({ frames := 1, cells := 0, slots := 0, locals := 25 }) (va_Pc [.ref h0, .int k1, .int k2, .long g1, .long g2, .long g3, .long g4] (fun U => U.heap.size = sz ∧ va_P (dC, dI) vwCl [(h0, .inr (16, [m0, m1, m2, .int 0, .int 0, m5, m6, m7, m8, m9, m10, m11, m12, m13, m14, m15, m16, .null, m18, m19, m20, m21, m22, m23, m24, m25, m26, .int 0, m28, m29, .int 0, .int 0, .int 0, m33, m34, m35, .int 0, m37, m38, m39, m40, m41, m42, m43, m44, m45, m46, m47, m48, m49, .int 0, m51, m52, m53, m54, m55, m56, m57, m58, m59, m60, m61, m62, m63, m64, m65, m66, m67, m68, m69, m70, m71, m72, m73, m74, m75, m76, m77, m78, m79, m80, m81, m82, m83, m84, m85, m86, m87, m88, m89, m90, m91, .int 0, .int 0, m94, m95, m96, m97, m98, m99, m100, m101, m102, m103, m104, m105, m106, m107, m108, m109, .long 0, .long 0, .int 0, m113, m114, m115, m116, m117, m118, m119, m120, m121, m122]))] U.heap ∧ va_K (dC, dI) vwCl [] U ∧ va_D (fun _ => True) [(h0, .inr (16, [m0, m1, m2, .int 0, .int 0, m5, m6, m7, m8, m9, m10, m11, m12, m13, m14, m15, m16, .null, m18, m19, m20, m21, m22, m23, m24, m25, m26, .int 0, m28, m29, .int 0, .int 0, .int 0, m33, m34, m35, .int 0, m37, m38, m39, m40, m41, m42, m43, m44, m45, m46, m47, m48, m49, .int 0, m51, m52, m53, m54, m55, m56, m57, m58, m59, m60, m61, m62, m63, m64, m65, m66, m67, m68, m69, m70, m71, m72, m73, m74, m75, m76, m77, m78, m79, m80, m81, m82, m83, m84, m85, m86, m87, m88, m89, m90, m91, .int 0, .int 0, m94, m95, m96, m97, m98, m99, m100, m101, m102, m103, m104, m105, m106, m107, m108, m109, .long 0, .long 0, .int 0, m113, m114, m115, m116, m117, m118, m119, m120, m121, m122]))] ∧ (k1.toInt64 < 0 ∨ 3 < k1.toInt64))) (va_Qi (fun r (_ : Unit) => r = 0) (ar_X16_give_X dC dI (va_A [(h0, .inr (16, [m0, m1, m2, .int 0, .int 0, m5, m6, m7, m8, m9, m10, m11, m12, m13, m14, m15, m16, .null, m18, m19, m20, m21, m22, m23, m24, m25, m26, .int 0, m28, m29, .int 0, .int 0, .int 0, m33, m34, m35, .int 0, m37, m38, m39, m40, m41, m42, m43, m44, m45, m46, m47, m48, m49, .int 0, m51, m52, m53, m54, m55, m56, m57, m58, m59, m60, m61, m62, m63, m64, m65, m66, m67, m68, m69, m70, m71, m72, m73, m74, m75, m76, m77, m78, m79, m80, m81, m82, m83, m84, m85, m86, m87, m88, m89, m90, m91, .int 0, .int 0, m94, m95, m96, m97, m98, m99, m100, m101, m102, m103, m104, m105, m106, m107, m108, m109, .long 0, .long 0, .int 0, m113, m114, m115, m116, m117, m118, m119, m120, m121, m122]))] sz) h0 k1 k2 g1 g2 g3 g4 m0 m1 m2 m5 m6 m7 m8 m9 m10 m11 m12 m13 m14 m15 m16 m18 m19 m20 m21 m22 m23 m24 m25 m26 m28 m29 m33 m34 m35 m37 m38 m39 m40 m41 m42 m43 m44 m45 m46 m47 m48 m49 m51 m52 m53 m54 m55 m56 m57 m58 m59 m60 m61 m62 m63 m64 m65 m66 m67 m68 m69 m70 m71 m72 m73 m74 m75 m76 m77 m78 m79 m80 m81 m82 m83 m84 m85 m86 m87 m88 m89 m90 m91 m94 m95 m96 m97 m98 m99 m100 m101 m102 m103 m104 m105 m106 m107 m108 m109 m113 m114 m115 m116 m117 m118 m119 m120 m121 m122) (va_A [(h0, .inr (16, [m0, m1, m2, .int 0, .int 0, m5, m6, m7, m8, m9, m10, m11, m12, m13, m14, m15, m16, .null, m18, m19, m20, m21, m22, m23, m24, m25, m26, .int 0, m28, m29, .int 0, .int 0, .int 0, m33, m34, m35, .int 0, m37, m38, m39, m40, m41, m42, m43, m44, m45, m46, m47, m48, m49, .int 0, m51, m52, m53, m54, m55, m56, m57, m58, m59, m60, m61, m62, m63, m64, m65, m66, m67, m68, m69, m70, m71, m72, m73, m74, m75, m76, m77, m78, m79, m80, m81, m82, m83, m84, m85, m86, m87, m88, m89, m90, m91, .int 0, .int 0, m94, m95, m96, m97, m98, m99, m100, m101, m102, m103, m104, m105, m106, m107, m108, m109, .long 0, .long 0, .int 0, m113, m114, m115, m116, m117, m118, m119, m120, m121, m122]))] sz)) 0 0 (va_A [(h0, .inr (16, [m0, m1, m2, .int 0, .int 0, m5, m6, m7, m8, m9, m10, m11, m12, m13, m14, m15, m16, .null, m18, m19, m20, m21, m22, m23, m24, m25, m26, .int 0, m28, m29, .int 0, .int 0, .int 0, m33, m34, m35, .int 0, m37, m38, m39, m40, m41, m42, m43, m44, m45, m46, m47, m48, m49, .int 0, m51, m52, m53, m54, m55, m56, m57, m58, m59, m60, m61, m62, m63, m64, m65, m66, m67, m68, m69, m70, m71, m72, m73, m74, m75, m76, m77, m78, m79, m80, m81, m82, m83, m84, m85, m86, m87, m88, m89, m90, m91, .int 0, .int 0, m94, m95, m96, m97, m98, m99, m100, m101, m102, m103, m104, m105, m106, m107, m108, m109, .long 0, .long 0, .int 0, m113, m114, m115, m116, m117, m118, m119, m120, m121, m122]))] sz) := by
  refine Met.ofW (cc := cX16_give) (maxL := 12) (ret := (some .int)) (by decide) rfl ?_
  intro p e s m args below meth c s₁ B hml hv
  obtain ⟨rfl, hsz, hP, hK, hD0, hpre⟩ := hv
  have hx := B.exec
  have hb := B.bytes
  have hr := B.returns
  have hts := atoms_spec (ws := wv_X16_give_X) B.pre
  have hown : s.vm.findClass RX16 = some m.cls := findClass_of_methodNamed B.named
  have hlocks := B.notSynchronized
  subst hsz
  have hD := hD0.self (sz := s.heap.size)
  generalize hAe : va_A [(h0, .inr (16, [m0, m1, m2, .int 0, .int 0, m5, m6, m7, m8, m9, m10, m11, m12, m13, m14, m15, m16, .null, m18, m19, m20, m21, m22, m23, m24, m25, m26, .int 0, m28, m29, .int 0, .int 0, .int 0, m33, m34, m35, .int 0, m37, m38, m39, m40, m41, m42, m43, m44, m45, m46, m47, m48, m49, .int 0, m51, m52, m53, m54, m55, m56, m57, m58, m59, m60, m61, m62, m63, m64, m65, m66, m67, m68, m69, m70, m71, m72, m73, m74, m75, m76, m77, m78, m79, m80, m81, m82, m83, m84, m85, m86, m87, m88, m89, m90, m91, .int 0, .int 0, m94, m95, m96, m97, m98, m99, m100, m101, m102, m103, m104, m105, m106, m107, m108, m109, .long 0, .long 0, .int 0, m113, m114, m115, m116, m117, m118, m119, m120, m121, m122]))] s.heap.size = A at hD ⊢
  have hA : ∀ q : Nat, s.heap.size ≤ q → A q := fun q h => by rw [← hAe]; exact Or.inr h
  have hS : va_S A s.heap s.heap [] := va_S.rf
  have hP : va_P (dC, dI) vwCl [(h0, .inr (16, [m0, m1, m2, .int 0, .int 0, m5, m6, m7, m8, m9, m10, m11, m12, m13, m14, m15, m16, .null, m18, m19, m20, m21, m22, m23, m24, m25, m26, .int 0, m28, m29, .int 0, .int 0, .int 0, m33, m34, m35, .int 0, m37, m38, m39, m40, m41, m42, m43, m44, m45, m46, m47, m48, m49, .int 0, m51, m52, m53, m54, m55, m56, m57, m58, m59, m60, m61, m62, m63, m64, m65, m66, m67, m68, m69, m70, m71, m72, m73, m74, m75, m76, m77, m78, m79, m80, m81, m82, m83, m84, m85, m86, m87, m88, m89, m90, m91, .int 0, .int 0, m94, m95, m96, m97, m98, m99, m100, m101, m102, m103, m104, m105, m106, m107, m108, m109, .long 0, .long 0, .int 0, m113, m114, m115, m116, m117, m118, m119, m120, m121, m122]))] s.heap := hP
  have hl := lv_entry ([.ref h0, .int k1, .int k2, .long g1, .long g2, .long g3, .long g4]) (n := 12) (Nat.le_of_ble_eq_true rfl)
  rw [lg_entry_eq]
  generalize (lg_sl ([.ref h0, .int k1, .int k2, .long g1, .long g2, .long g3, .long g4]) ++ List.replicate (12 - (lg_sl ([.ref h0, .int k1, .int k2, .long g1, .long g2, .long g3, .long g4])).length) Slot.unset).toArray = ls at hl ⊢
  have hl : lv_has ls 12 [(0, .ref h0), (1, .int k1), (2, .int k2), (3, .long g1), (5, .long g2), (7, .long g3), (9, .long g4)] := hl
  refine lv_aload_n hx hb dX16_give_X_0 rfl (lv_at hl 0 rfl) ?_
  refine lv_iload_n hx hb dX16_give_X_1 rfl (lv_at hl 1 rfl) ?_
  refine lv_i2l (v := k1.toInt64) hx hb dX16_give_X_2 rfl ?_
  refine lv_lconst (v := 0) hx hb dX16_give_X_3 (by decide) ?_
  refine lv_ldc2 hx hb hown (hts (.constantLong RX16 186 3) (wm_X16_give_X 0 rfl)) dX16_give_X_4 ?_
  have hPc := hP.sub (ws' := []) [] rfl
  have hDc := hD.sub (ws' := []) [] (by decide) rfl
  have hKc := hK.sub (tys' := []) [] rfl
  have hFc := va_free (wc := []) hD hS hA [] rfl
  have h_1 : 0 ≤ 0 := by decide
  have h_2 : 0 ≤ 0 := by decide
  refine va_calli (va_runS (As := [.long (k1.toInt64), .long 0, .long 3]) (rest := [.ref h0]) ⟨hx, hb, hml, hown, hts⟩ (r_X16_within_0 l dC dI (k1.toInt64) 0 3 _) (va_cwS 3 hts wt_X16_give_X_X16_within_0 rfl rfl rfl (by decide +kernel) ⟨Nat.le_of_ble_eq_true rfl, Nat.le_of_ble_eq_true rfl⟩) ⟨fun a U g mk q => by obtain ⟨q0, q1, qP, qK, qD, qp⟩ := q; exact ⟨q0, q1, qP, va_K.moved (u := U) (U := U.calling g mk a) (Vm.Alike.refl U.vm) qK, qD, qp⟩, fun U hU hW => ⟨rfl, by rw [hU], by rw [hU]; exact hPc, va_K.moved hW.alike hKc, hDc.weaken (fun _ _ _ _ => trivial), hpre⟩⟩ rfl rfl hl.1 rfl (lv_room (Nat.le_of_ble_eq_true rfl)) dX16_give_X_7 ⟨h_1, h_2⟩) hS (fun q _ h => hFc q h) hFc (fun y4 u3 t H1 locs ht hvm hw hB hz1 hk1 hS => ?_)
  obtain ⟨hP1, hK1, hD1⟩ := hB
  rw [ht] at hP1
  have hK1 := va_K.moved hvm.symm hK1
  obtain ⟨hP, hD⟩ := va_join (wr := [(h0, .inr (16, [m0, m1, m2, .int 0, .int 0, m5, m6, m7, m8, m9, m10, m11, m12, m13, m14, m15, m16, .null, m18, m19, m20, m21, m22, m23, m24, m25, m26, .int 0, m28, m29, .int 0, .int 0, .int 0, m33, m34, m35, .int 0, m37, m38, m39, m40, m41, m42, m43, m44, m45, m46, m47, m48, m49, .int 0, m51, m52, m53, m54, m55, m56, m57, m58, m59, m60, m61, m62, m63, m64, m65, m66, m67, m68, m69, m70, m71, m72, m73, m74, m75, m76, m77, m78, m79, m80, m81, m82, m83, m84, m85, m86, m87, m88, m89, m90, m91, .int 0, .int 0, m94, m95, m96, m97, m98, m99, m100, m101, m102, m103, m104, m105, m106, m107, m108, m109, .long 0, .long 0, .int 0, m113, m114, m115, m116, m117, m118, m119, m120, m121, m122]))]) (w1 := []) hP hD [] [0] rfl rfl (by decide) (by decide) hk1 hFc hP1 hD1
  have hK := (hK.sub (tys' := []) [] rfl).app hK1
  generalize H1 = H at hP hS ⊢
  have hP : va_P (dC, dI) vwCl [(h0, .inr (16, [m0, m1, m2, .int 0, .int 0, m5, m6, m7, m8, m9, m10, m11, m12, m13, m14, m15, m16, .null, m18, m19, m20, m21, m22, m23, m24, m25, m26, .int 0, m28, m29, .int 0, .int 0, .int 0, m33, m34, m35, .int 0, m37, m38, m39, m40, m41, m42, m43, m44, m45, m46, m47, m48, m49, .int 0, m51, m52, m53, m54, m55, m56, m57, m58, m59, m60, m61, m62, m63, m64, m65, m66, m67, m68, m69, m70, m71, m72, m73, m74, m75, m76, m77, m78, m79, m80, m81, m82, m83, m84, m85, m86, m87, m88, m89, m90, m91, .int 0, .int 0, m94, m95, m96, m97, m98, m99, m100, m101, m102, m103, m104, m105, m106, m107, m108, m109, .long 0, .long 0, .int 0, m113, m114, m115, m116, m117, m118, m119, m120, m121, m122]))] H := hP
  have hD : va_D A [(h0, .inr (16, [m0, m1, m2, .int 0, .int 0, m5, m6, m7, m8, m9, m10, m11, m12, m13, m14, m15, m16, .null, m18, m19, m20, m21, m22, m23, m24, m25, m26, .int 0, m28, m29, .int 0, .int 0, .int 0, m33, m34, m35, .int 0, m37, m38, m39, m40, m41, m42, m43, m44, m45, m46, m47, m48, m49, .int 0, m51, m52, m53, m54, m55, m56, m57, m58, m59, m60, m61, m62, m63, m64, m65, m66, m67, m68, m69, m70, m71, m72, m73, m74, m75, m76, m77, m78, m79, m80, m81, m82, m83, m84, m85, m86, m87, m88, m89, m90, m91, .int 0, .int 0, m94, m95, m96, m97, m98, m99, m100, m101, m102, m103, m104, m105, m106, m107, m108, m109, .long 0, .long 0, .int 0, m113, m114, m115, m116, m117, m118, m119, m120, m121, m122]))] := hD
  have hK : va_K (dC, dI) vwCl [] s := hK
  refine W.widen (k := 0) (n := 0) (by decide) (by decide) ?_
  have hw : y4 = 0 := hw
  subst hw
  refine lv_if_ne (tgt := 17) hx hb dX16_give_X_10 (by decide) (fun h9 => absurd (by decide) h9) (fun _ => ?_)
  refine lv_iconst (v := 1) hx hb dX16_give_X_13 (by decide) ?_
  refine lv_goto (tgt := 70) hx hb dX16_give_X_14 (by decide) ?_
  refine va_put (D := (dC, dI)) (ci := 16) (v := .int 1) (ty := .int) (C := RX16) (T := TX16) (N := 123) hx hb hts wh_X16_give_X_X16 tyX16 tyX16_ok nmX16 hown hK hP hD hS 0 rfl rfl 0 (by decide) (hts (.fieldLink RX16 1 "StreamHouseModel" "code" "I") (wm_X16_give_X 4 rfl)) (fun _ h9 => h9) rfl (by decide +kernel) rfl rfl (Nat.le_of_ble_eq_true rfl) dX16_give_X_70 (fun H locs hP hD hS => ?_)
  have hP : va_P (dC, dI) vwCl [(h0, .inr (16, [.int 1, m1, m2, .int 0, .int 0, m5, m6, m7, m8, m9, m10, m11, m12, m13, m14, m15, m16, .null, m18, m19, m20, m21, m22, m23, m24, m25, m26, .int 0, m28, m29, .int 0, .int 0, .int 0, m33, m34, m35, .int 0, m37, m38, m39, m40, m41, m42, m43, m44, m45, m46, m47, m48, m49, .int 0, m51, m52, m53, m54, m55, m56, m57, m58, m59, m60, m61, m62, m63, m64, m65, m66, m67, m68, m69, m70, m71, m72, m73, m74, m75, m76, m77, m78, m79, m80, m81, m82, m83, m84, m85, m86, m87, m88, m89, m90, m91, .int 0, .int 0, m94, m95, m96, m97, m98, m99, m100, m101, m102, m103, m104, m105, m106, m107, m108, m109, .long 0, .long 0, .int 0, m113, m114, m115, m116, m117, m118, m119, m120, m121, m122]))] H := hP
  have hD : va_D A [(h0, .inr (16, [.int 1, m1, m2, .int 0, .int 0, m5, m6, m7, m8, m9, m10, m11, m12, m13, m14, m15, m16, .null, m18, m19, m20, m21, m22, m23, m24, m25, m26, .int 0, m28, m29, .int 0, .int 0, .int 0, m33, m34, m35, .int 0, m37, m38, m39, m40, m41, m42, m43, m44, m45, m46, m47, m48, m49, .int 0, m51, m52, m53, m54, m55, m56, m57, m58, m59, m60, m61, m62, m63, m64, m65, m66, m67, m68, m69, m70, m71, m72, m73, m74, m75, m76, m77, m78, m79, m80, m81, m82, m83, m84, m85, m86, m87, m88, m89, m90, m91, .int 0, .int 0, m94, m95, m96, m97, m98, m99, m100, m101, m102, m103, m104, m105, m106, m107, m108, m109, .long 0, .long 0, .int 0, m113, m114, m115, m116, m117, m118, m119, m120, m121, m122]))] := hD
  refine lv_aload_n hx hb dX16_give_X_73 rfl (lv_at hl 0 rfl) ?_
  refine va_get (D := (dC, dI)) (ci := 16) (v := .int 1) (C := RX16) (T := TX16) (N := 123) hx hb hts wh_X16_give_X_X16 hown hK hP 0 rfl rfl 0 (by decide) (hts (.fieldLink RX16 1 "StreamHouseModel" "code" "I") (wm_X16_give_X 4 rfl)) (fun _ h9 => h9) rfl dX16_give_X_74 ?_
  refine lv_if_le (tgt := 82) hx hb dX16_give_X_77 (by decide) (fun h9 => absurd h9 (by decide)) (fun _ => ?_)
  refine lv_iconst (v := 0) hx hb dX16_give_X_80 (by decide) ?_
  have hP9 := hP.sub (ws' := [(h0, .inr (16, [.int 1, m1, m2, .int 0, .int 0, m5, m6, m7, m8, m9, m10, m11, m12, m13, m14, m15, m16, .null, m18, m19, m20, m21, m22, m23, m24, m25, m26, .int 0, m28, m29, .int 0, .int 0, .int 0, m33, m34, m35, .int 0, m37, m38, m39, m40, m41, m42, m43, m44, m45, m46, m47, m48, m49, .int 0, m51, m52, m53, m54, m55, m56, m57, m58, m59, m60, m61, m62, m63, m64, m65, m66, m67, m68, m69, m70, m71, m72, m73, m74, m75, m76, m77, m78, m79, m80, m81, m82, m83, m84, m85, m86, m87, m88, m89, m90, m91, .int 0, .int 0, m94, m95, m96, m97, m98, m99, m100, m101, m102, m103, m104, m105, m106, m107, m108, m109, .long 0, .long 0, .int 0, m113, m114, m115, m116, m117, m118, m119, m120, m121, m122]))]) [0] rfl
  have hD9 := hD.sub (ws' := [(h0, .inr (16, [.int 1, m1, m2, .int 0, .int 0, m5, m6, m7, m8, m9, m10, m11, m12, m13, m14, m15, m16, .null, m18, m19, m20, m21, m22, m23, m24, m25, m26, .int 0, m28, m29, .int 0, .int 0, .int 0, m33, m34, m35, .int 0, m37, m38, m39, m40, m41, m42, m43, m44, m45, m46, m47, m48, m49, .int 0, m51, m52, m53, m54, m55, m56, m57, m58, m59, m60, m61, m62, m63, m64, m65, m66, m67, m68, m69, m70, m71, m72, m73, m74, m75, m76, m77, m78, m79, m80, m81, m82, m83, m84, m85, m86, m87, m88, m89, m90, m91, .int 0, .int 0, m94, m95, m96, m97, m98, m99, m100, m101, m102, m103, m104, m105, m106, m107, m108, m109, .long 0, .long 0, .int 0, m113, m114, m115, m116, m117, m118, m119, m120, m121, m122]))]) [0] (by decide) rfl
  have hK9 := hK.sub (tys' := []) [] rfl
  refine W.widen (k := 0) (n := 0) (by decide) (by decide) ?_
  exact W.iret (v := 0) hx hb hr (fun t ht hW => ⟨⟨0, (), rfl, rfl, by rw [ht]; exact hP9, va_K.moved hW.alike hK9, hD9⟩, hS.F ht⟩) hS.2.2 dX16_give_X_81

abbrev ar_X16_give_S (dC : Nat → ClassId) (dI : Nat → Nat → Nat) (A : Nat → Prop) (h0 : Nat) (k1 k2 : Int32) (g1 g2 g3 g4 : Int64) (m0 m1 m2 m5 m6 m7 m8 m9 m10 m11 m12 m13 m14 m15 m16 m18 m19 m20 m21 m22 m23 m24 m25 m26 m28 m29 m33 m34 m35 m37 m38 m39 m40 m41 m42 m43 m44 m45 m46 m47 m48 m49 m51 m52 m53 m54 m55 m56 m57 m58 m59 m60 m61 m62 m63 m64 m65 m66 m67 m68 m69 m70 m71 m72 m73 m74 m75 m76 m77 m78 m79 m80 m81 m82 m83 m84 m85 m86 m87 m88 m89 m90 m91 m94 m95 m96 m97 m98 m99 m100 m101 m102 m103 m104 m105 m106 m107 m108 m109 m113 m114 m115 m116 m117 m118 m119 m120 m121 m122 : Value) (_ : Unit) (t : State) : Prop := va_P (dC, dI) vwCl [(h0, .inr (16, [.int 2, m1, m2, .int 0, .int 0, m5, m6, m7, m8, m9, m10, m11, m12, m13, m14, m15, m16, .null, m18, m19, m20, m21, m22, m23, m24, m25, m26, .int 0, m28, m29, .int 0, .int 0, .int 0, m33, m34, m35, .int 0, m37, m38, m39, m40, m41, m42, m43, m44, m45, m46, m47, m48, m49, .int 0, m51, m52, m53, m54, m55, m56, m57, m58, m59, m60, m61, m62, m63, m64, m65, m66, m67, m68, m69, m70, m71, m72, m73, m74, m75, m76, m77, m78, m79, m80, m81, m82, m83, m84, m85, m86, m87, m88, m89, m90, m91, .int 0, .int 0, m94, m95, m96, m97, m98, m99, m100, m101, m102, m103, m104, m105, m106, m107, m108, m109, .long 0, .long 0, .int 0, m113, m114, m115, m116, m117, m118, m119, m120, m121, m122]))] t.heap ∧ va_K (dC, dI) vwCl [] t ∧ va_D A [(h0, .inr (16, [.int 2, m1, m2, .int 0, .int 0, m5, m6, m7, m8, m9, m10, m11, m12, m13, m14, m15, m16, .null, m18, m19, m20, m21, m22, m23, m24, m25, m26, .int 0, m28, m29, .int 0, .int 0, .int 0, m33, m34, m35, .int 0, m37, m38, m39, m40, m41, m42, m43, m44, m45, m46, m47, m48, m49, .int 0, m51, m52, m53, m54, m55, m56, m57, m58, m59, m60, m61, m62, m63, m64, m65, m66, m67, m68, m69, m70, m71, m72, m73, m74, m75, m76, m77, m78, m79, m80, m81, m82, m83, m84, m85, m86, m87, m88, m89, m90, m91, .int 0, .int 0, m94, m95, m96, m97, m98, m99, m100, m101, m102, m103, m104, m105, m106, m107, m108, m109, .long 0, .long 0, .int 0, m113, m114, m115, m116, m117, m118, m119, m120, m121, m122]))]
theorem dX16_give_S_0 : decode cX16_give 0 = .ok (.aload_n 0, 1) := by decide +kernel
theorem dX16_give_S_1 : decode cX16_give 1 = .ok (.iload_n 1, 1) := by decide +kernel
theorem dX16_give_S_2 : decode cX16_give 2 = .ok (.i2l, 1) := by decide +kernel
theorem dX16_give_S_3 : decode cX16_give 3 = .ok (.lconst 0, 1) := by decide +kernel
theorem dX16_give_S_4 : decode cX16_give 4 = .ok (.ldc2_w 186, 3) := by decide +kernel
theorem dX16_give_S_7 : decode cX16_give 7 = .ok (.invokestatic 45, 3) := by decide +kernel
theorem dX16_give_S_10 : decode cX16_give 10 = .ok (.ifCond .ne 7, 3) := by decide +kernel
theorem dX16_give_S_17 : decode cX16_give 17 = .ok (.aload_n 0, 1) := by decide +kernel
theorem dX16_give_S_18 : decode cX16_give 18 = .ok (.iload_n 1, 1) := by decide +kernel
theorem dX16_give_S_19 : decode cX16_give 19 = .ok (.invokevirtual 984, 3) := by decide +kernel
theorem dX16_give_S_22 : decode cX16_give 22 = .ok (.ifCond .eq 12, 3) := by decide +kernel
theorem dX16_give_S_34 : decode cX16_give 34 = .ok (.iconst 2, 1) := by decide +kernel
theorem dX16_give_S_35 : decode cX16_give 35 = .ok (.goto 35, 3) := by decide +kernel
theorem dX16_give_S_70 : decode cX16_give 70 = .ok (.putfield 1, 3) := by decide +kernel
theorem dX16_give_S_73 : decode cX16_give 73 = .ok (.aload_n 0, 1) := by decide +kernel
theorem dX16_give_S_74 : decode cX16_give 74 = .ok (.getfield 1, 3) := by decide +kernel
theorem dX16_give_S_77 : decode cX16_give 77 = .ok (.ifCond .le 5, 3) := by decide +kernel
theorem dX16_give_S_80 : decode cX16_give 80 = .ok (.iconst 0, 1) := by decide +kernel
theorem dX16_give_S_81 : decode cX16_give 81 = .ok (.ireturn, 1) := by decide +kernel
def ww_X16_give_S : List Cond := [.constantLong RX16 186 3, .initialized RX16, .methodLink RX16 45 yX16_within, .static yX16_within, .methodLink RX16 984 yX16_hasSource, .instanceMethod yX16_hasSource, .selects RX16 yX16_hasSource yX16_hasSource, .fieldLink RX16 1 "StreamHouseModel" "code" "I"]
def wv_X16_give_S : List Cond := .code yX16_give cX16_give 12 (some .int) :: (ww_X16_give_S ++ (wv_X16_within_1 ++ (wv_X16_hasSource ++ (u_ws RX16 TX16 123 ++ []))))
theorem wm_X16_give_S {w : Cond} (i : Nat) (h : ww_X16_give_S[i]? = some w) : w ∈ wv_X16_give_S := List.mem_cons_of_mem _ (List.mem_append_left _ (List.mem_of_getElem? h))
set_option maxRecDepth 100000 in
theorem gw_X16_give_S : wv_X16_give_S.all goodWord = true := by decide +kernel
theorem wg_X16_give_S_X16_within_1 : GoodIn wv_X16_give_S wv_X16_within_1 := goodIn_sub (fun w h => List.mem_cons_of_mem _ (List.mem_append_right _ (List.mem_append_left _ h))) gw_X16_within_1
theorem wt_X16_give_S_X16_within_1 : GoodIn wv_X16_give_S (va_wsS RX16 45 yX16_within wv_X16_within_1) := goodIn_app (goodIn_sub (fun w h => by simp only [List.mem_cons, List.not_mem_nil, or_false] at h; rcases h with rfl | rfl | rfl <;> first | exact wm_X16_give_S 2 rfl | exact wm_X16_give_S 3 rfl | exact wm_X16_give_S 1 rfl) (by decide +kernel)) wg_X16_give_S_X16_within_1
theorem wg_X16_give_S_X16_hasSource : GoodIn wv_X16_give_S wv_X16_hasSource := goodIn_sub (fun w h => List.mem_cons_of_mem _ (List.mem_append_right _ (List.mem_append_right _ (List.mem_append_left _ h)))) gw_X16_hasSource
theorem wV_X16_give_S_X16_hasSource_984 : GoodIn wv_X16_give_S (wsV RX16 984 RX16 yX16_hasSource wv_X16_hasSource) := goodIn_app (goodIn_sub (fun w h => by simp only [List.mem_cons, List.not_mem_nil, or_false] at h; rcases h with rfl | rfl | rfl | rfl <;> first | exact wm_X16_give_S 4 rfl | exact wm_X16_give_S 5 rfl | exact wm_X16_give_S 6 rfl | exact wm_X16_give_S 1 rfl) (by decide +kernel)) wg_X16_give_S_X16_hasSource
theorem wh_X16_give_S_X16 : ∀ w ∈ u_ws RX16 TX16 123, w ∈ wv_X16_give_S := fun w h => List.mem_cons_of_mem _ (List.mem_append_right _ (List.mem_append_right _ (List.mem_append_right _ (List.mem_append_left _ h))))
set_option maxHeartbeats 4000000 in
set_option maxRecDepth 100000 in
/-- give(k, ..) without a job -/
theorem r_X16_give_S (l : Launch) (dC : Nat → ClassId) (dI : Nat → Nat → Nat) (h0 : Nat) (k1 k2 : Int32) (g1 g2 g3 g4 : Int64) (m0 m1 m2 m5 m6 m7 m8 m9 m10 m11 m12 m13 m14 m15 m16 m18 m19 m20 m21 m22 m23 m24 m25 m26 m28 m29 m33 m34 m35 m37 m38 m39 m40 m41 m42 m43 m44 m45 m46 m47 m48 m49 m51 m52 m53 m54 m55 m56 m57 m58 m59 m60 m61 m62 m63 m64 m65 m66 m67 m68 m69 m70 m71 m72 m73 m74 m75 m76 m77 m78 m79 m80 m81 m82 m83 m84 m85 m86 m87 m88 m89 m90 m91 m94 m95 m96 m97 m98 m99 m100 m101 m102 m103 m104 m105 m106 m107 m108 m109 m113 m114 m115 m116 m117 m118 m119 m120 m121 m122 : Value) (sz : Nat) : Met l yX16_give wv_X16_give_S ({ frames := 1, cells := 0, slots := 0, locals := 25 }) (va_Pc [.ref h0, .int k1, .int k2, .long g1, .long g2, .long g3, .long g4] (fun U => U.heap.size = sz ∧ va_P (dC, dI) vwCl [(h0, .inr (16, [m0, m1, m2, .int 0, .int 0, m5, m6, m7, m8, m9, m10, m11, m12, m13, m14, m15, m16, .null, m18, m19, m20, m21, m22, m23, m24, m25, m26, .int 0, m28, m29, .int 0, .int 0, .int 0, m33, m34, m35, .int 0, m37, m38, m39, m40, m41, m42, m43, m44, m45, m46, m47, m48, m49, .int 0, m51, m52, m53, m54, m55, m56, m57, m58, m59, m60, m61, m62, m63, m64, m65, m66, m67, m68, m69, m70, m71, m72, m73, m74, m75, m76, m77, m78, m79, m80, m81, m82, m83, m84, m85, m86, m87, m88, m89, m90, m91, .int 0, .int 0, m94, m95, m96, m97, m98, m99, m100, m101, m102, m103, m104, m105, m106, m107, m108, m109, .long 0, .long 0, .int 0, m113, m114, m115, m116, m117, m118, m119, m120, m121, m122]))] U.heap ∧ va_K (dC, dI) vwCl [] U ∧ va_D (fun _ => True) [(h0, .inr (16, [m0, m1, m2, .int 0, .int 0, m5, m6, m7, m8, m9, m10, m11, m12, m13, m14, m15, m16, .null, m18, m19, m20, m21, m22, m23, m24, m25, m26, .int 0, m28, m29, .int 0, .int 0, .int 0, m33, m34, m35, .int 0, m37, m38, m39, m40, m41, m42, m43, m44, m45, m46, m47, m48, m49, .int 0, m51, m52, m53, m54, m55, m56, m57, m58, m59, m60, m61, m62, m63, m64, m65, m66, m67, m68, m69, m70, m71, m72, m73, m74, m75, m76, m77, m78, m79, m80, m81, m82, m83, m84, m85, m86, m87, m88, m89, m90, m91, .int 0, .int 0, m94, m95, m96, m97, m98, m99, m100, m101, m102, m103, m104, m105, m106, m107, m108, m109, .long 0, .long 0, .int 0, m113, m114, m115, m116, m117, m118, m119, m120, m121, m122]))] ∧ (0 ≤ k1.toInt64 ∧ k1.toInt64 ≤ 3))) (va_Qi (fun r (_ : Unit) => r = 0) (ar_X16_give_S dC dI (va_A [(h0, .inr (16, [m0, m1, m2, .int 0, .int 0, m5, m6, m7, m8, m9, m10, m11, m12, m13, m14, m15, m16, .null, m18, m19, m20, m21, m22, m23, m24, m25, m26, .int 0, m28, m29, .int 0, .int 0, .int 0, m33, m34, m35, .int 0, m37, m38, m39, m40, m41, m42, m43, m44, m45, m46, m47, m48, m49, .int 0, m51, m52, m53, m54, m55, m56, m57, m58, m59, m60, m61, m62, m63, m64, m65, m66, m67, m68, m69, m70, m71, m72, m73, m74, m75, m76, m77, m78, m79, m80, m81, m82, m83, m84, m85, m86, m87, m88, m89, m90, m91, .int 0, .int 0, m94, m95, m96, m97, m98, m99, m100, m101, m102, m103, m104, m105, m106, m107, m108, m109, .long 0, .long 0, .int 0, m113, m114, m115, m116, m117, m118, m119, m120, m121, m122]))] sz) h0 k1 k2 g1 g2 g3 g4 m0 m1 m2 m5 m6 m7 m8 m9 m10 m11 m12 m13 m14 m15 m16 m18 m19 m20 m21 m22 m23 m24 m25 m26 m28 m29 m33 m34 m35 m37 m38 m39 m40 m41 m42 m43 m44 m45 m46 m47 m48 m49 m51 m52 m53 m54 m55 m56 m57 m58 m59 m60 m61 m62 m63 m64 m65 m66 m67 m68 m69 m70 m71 m72 m73 m74 m75 m76 m77 m78 m79 m80 m81 m82 m83 m84 m85 m86 m87 m88 m89 m90 m91 m94 m95 m96 m97 m98 m99 m100 m101 m102 m103 m104 m105 m106 m107 m108 m109 m113 m114 m115 m116 m117 m118 m119 m120 m121 m122) (va_A [(h0, .inr (16, [m0, m1, m2, .int 0, .int 0, m5, m6, m7, m8, m9, m10, m11, m12, m13, m14, m15, m16, .null, m18, m19, m20, m21, m22, m23, m24, m25, m26, .int 0, m28, m29, .int 0, .int 0, .int 0, m33, m34, m35, .int 0, m37, m38, m39, m40, m41, m42, m43, m44, m45, m46, m47, m48, m49, .int 0, m51, m52, m53, m54, m55, m56, m57, m58, m59, m60, m61, m62, m63, m64, m65, m66, m67, m68, m69, m70, m71, m72, m73, m74, m75, m76, m77, m78, m79, m80, m81, m82, m83, m84, m85, m86, m87, m88, m89, m90, m91, .int 0, .int 0, m94, m95, m96, m97, m98, m99, m100, m101, m102, m103, m104, m105, m106, m107, m108, m109, .long 0, .long 0, .int 0, m113, m114, m115, m116, m117, m118, m119, m120, m121, m122]))] sz)) 0 0 (va_A [(h0, .inr (16, [m0, m1, m2, .int 0, .int 0, m5, m6, m7, m8, m9, m10, m11, m12, m13, m14, m15, m16, .null, m18, m19, m20, m21, m22, m23, m24, m25, m26, .int 0, m28, m29, .int 0, .int 0, .int 0, m33, m34, m35, .int 0, m37, m38, m39, m40, m41, m42, m43, m44, m45, m46, m47, m48, m49, .int 0, m51, m52, m53, m54, m55, m56, m57, m58, m59, m60, m61, m62, m63, m64, m65, m66, m67, m68, m69, m70, m71, m72, m73, m74, m75, m76, m77, m78, m79, m80, m81, m82, m83, m84, m85, m86, m87, m88, m89, m90, m91, .int 0, .int 0, m94, m95, m96, m97, m98, m99, m100, m101, m102, m103, m104, m105, m106, m107, m108, m109, .long 0, .long 0, .int 0, m113, m114, m115, m116, m117, m118, m119, m120, m121, m122]))] sz) := by
  refine Met.ofW (cc := cX16_give) (maxL := 12) (ret := (some .int)) (by decide) rfl ?_
  intro p e s m args below meth c s₁ B hml hv
  obtain ⟨rfl, hsz, hP, hK, hD0, hpre⟩ := hv
  have hx := B.exec
  have hb := B.bytes
  have hr := B.returns
  have hts := atoms_spec (ws := wv_X16_give_S) B.pre
  have hown : s.vm.findClass RX16 = some m.cls := findClass_of_methodNamed B.named
  have hlocks := B.notSynchronized
  subst hsz
  have hD := hD0.self (sz := s.heap.size)
  generalize hAe : va_A [(h0, .inr (16, [m0, m1, m2, .int 0, .int 0, m5, m6, m7, m8, m9, m10, m11, m12, m13, m14, m15, m16, .null, m18, m19, m20, m21, m22, m23, m24, m25, m26, .int 0, m28, m29, .int 0, .int 0, .int 0, m33, m34, m35, .int 0, m37, m38, m39, m40, m41, m42, m43, m44, m45, m46, m47, m48, m49, .int 0, m51, m52, m53, m54, m55, m56, m57, m58, m59, m60, m61, m62, m63, m64, m65, m66, m67, m68, m69, m70, m71, m72, m73, m74, m75, m76, m77, m78, m79, m80, m81, m82, m83, m84, m85, m86, m87, m88, m89, m90, m91, .int 0, .int 0, m94, m95, m96, m97, m98, m99, m100, m101, m102, m103, m104, m105, m106, m107, m108, m109, .long 0, .long 0, .int 0, m113, m114, m115, m116, m117, m118, m119, m120, m121, m122]))] s.heap.size = A at hD ⊢
  have hA : ∀ q : Nat, s.heap.size ≤ q → A q := fun q h => by rw [← hAe]; exact Or.inr h
  have hS : va_S A s.heap s.heap [] := va_S.rf
  have hP : va_P (dC, dI) vwCl [(h0, .inr (16, [m0, m1, m2, .int 0, .int 0, m5, m6, m7, m8, m9, m10, m11, m12, m13, m14, m15, m16, .null, m18, m19, m20, m21, m22, m23, m24, m25, m26, .int 0, m28, m29, .int 0, .int 0, .int 0, m33, m34, m35, .int 0, m37, m38, m39, m40, m41, m42, m43, m44, m45, m46, m47, m48, m49, .int 0, m51, m52, m53, m54, m55, m56, m57, m58, m59, m60, m61, m62, m63, m64, m65, m66, m67, m68, m69, m70, m71, m72, m73, m74, m75, m76, m77, m78, m79, m80, m81, m82, m83, m84, m85, m86, m87, m88, m89, m90, m91, .int 0, .int 0, m94, m95, m96, m97, m98, m99, m100, m101, m102, m103, m104, m105, m106, m107, m108, m109, .long 0, .long 0, .int 0, m113, m114, m115, m116, m117, m118, m119, m120, m121, m122]))] s.heap := hP
  have hl := lv_entry ([.ref h0, .int k1, .int k2, .long g1, .long g2, .long g3, .long g4]) (n := 12) (Nat.le_of_ble_eq_true rfl)
  rw [lg_entry_eq]
  generalize (lg_sl ([.ref h0, .int k1, .int k2, .long g1, .long g2, .long g3, .long g4]) ++ List.replicate (12 - (lg_sl ([.ref h0, .int k1, .int k2, .long g1, .long g2, .long g3, .long g4])).length) Slot.unset).toArray = ls at hl ⊢
  have hl : lv_has ls 12 [(0, .ref h0), (1, .int k1), (2, .int k2), (3, .long g1), (5, .long g2), (7, .long g3), (9, .long g4)] := hl
  refine lv_aload_n hx hb dX16_give_S_0 rfl (lv_at hl 0 rfl) ?_
  refine lv_iload_n hx hb dX16_give_S_1 rfl (lv_at hl 1 rfl) ?_
  refine lv_i2l (v := k1.toInt64) hx hb dX16_give_S_2 rfl ?_
  refine lv_lconst (v := 0) hx hb dX16_give_S_3 (by decide) ?_
  refine lv_ldc2 hx hb hown (hts (.constantLong RX16 186 3) (wm_X16_give_S 0 rfl)) dX16_give_S_4 ?_
  have hPc := hP.sub (ws' := []) [] rfl
  have hDc := hD.sub (ws' := []) [] (by decide) rfl
  have hKc := hK.sub (tys' := []) [] rfl
  have hFc := va_free (wc := []) hD hS hA [] rfl
  have h_1 : 0 ≤ 0 := by decide
  have h_2 : 0 ≤ 0 := by decide
  refine va_calli (va_runS (As := [.long (k1.toInt64), .long 0, .long 3]) (rest := [.ref h0]) ⟨hx, hb, hml, hown, hts⟩ (r_X16_within_1 l dC dI (k1.toInt64) 0 3 _) (va_cwS 3 hts wt_X16_give_S_X16_within_1 rfl rfl rfl (by decide +kernel) ⟨Nat.le_of_ble_eq_true rfl, Nat.le_of_ble_eq_true rfl⟩) ⟨fun a U g mk q => by obtain ⟨q0, q1, qP, qK, qD, qp⟩ := q; exact ⟨q0, q1, qP, va_K.moved (u := U) (U := U.calling g mk a) (Vm.Alike.refl U.vm) qK, qD, qp⟩, fun U hU hW => ⟨rfl, by rw [hU], by rw [hU]; exact hPc, va_K.moved hW.alike hKc, hDc.weaken (fun _ _ _ _ => trivial), hpre⟩⟩ rfl rfl hl.1 rfl (lv_room (Nat.le_of_ble_eq_true rfl)) dX16_give_S_7 ⟨h_1, h_2⟩) hS (fun q _ h => hFc q h) hFc (fun y4 u3 t H1 locs ht hvm hw hB hz1 hk1 hS => ?_)
  obtain ⟨hP1, hK1, hD1⟩ := hB
  rw [ht] at hP1
  have hK1 := va_K.moved hvm.symm hK1
  obtain ⟨hP, hD⟩ := va_join (wr := [(h0, .inr (16, [m0, m1, m2, .int 0, .int 0, m5, m6, m7, m8, m9, m10, m11, m12, m13, m14, m15, m16, .null, m18, m19, m20, m21, m22, m23, m24, m25, m26, .int 0, m28, m29, .int 0, .int 0, .int 0, m33, m34, m35, .int 0, m37, m38, m39, m40, m41, m42, m43, m44, m45, m46, m47, m48, m49, .int 0, m51, m52, m53, m54, m55, m56, m57, m58, m59, m60, m61, m62, m63, m64, m65, m66, m67, m68, m69, m70, m71, m72, m73, m74, m75, m76, m77, m78, m79, m80, m81, m82, m83, m84, m85, m86, m87, m88, m89, m90, m91, .int 0, .int 0, m94, m95, m96, m97, m98, m99, m100, m101, m102, m103, m104, m105, m106, m107, m108, m109, .long 0, .long 0, .int 0, m113, m114, m115, m116, m117, m118, m119, m120, m121, m122]))]) (w1 := []) hP hD [] [0] rfl rfl (by decide) (by decide) hk1 hFc hP1 hD1
  have hK := (hK.sub (tys' := []) [] rfl).app hK1
  generalize H1 = H at hP hS ⊢
  have hP : va_P (dC, dI) vwCl [(h0, .inr (16, [m0, m1, m2, .int 0, .int 0, m5, m6, m7, m8, m9, m10, m11, m12, m13, m14, m15, m16, .null, m18, m19, m20, m21, m22, m23, m24, m25, m26, .int 0, m28, m29, .int 0, .int 0, .int 0, m33, m34, m35, .int 0, m37, m38, m39, m40, m41, m42, m43, m44, m45, m46, m47, m48, m49, .int 0, m51, m52, m53, m54, m55, m56, m57, m58, m59, m60, m61, m62, m63, m64, m65, m66, m67, m68, m69, m70, m71, m72, m73, m74, m75, m76, m77, m78, m79, m80, m81, m82, m83, m84, m85, m86, m87, m88, m89, m90, m91, .int 0, .int 0, m94, m95, m96, m97, m98, m99, m100, m101, m102, m103, m104, m105, m106, m107, m108, m109, .long 0, .long 0, .int 0, m113, m114, m115, m116, m117, m118, m119, m120, m121, m122]))] H := hP
  have hD : va_D A [(h0, .inr (16, [m0, m1, m2, .int 0, .int 0, m5, m6, m7, m8, m9, m10, m11, m12, m13, m14, m15, m16, .null, m18, m19, m20, m21, m22, m23, m24, m25, m26, .int 0, m28, m29, .int 0, .int 0, .int 0, m33, m34, m35, .int 0, m37, m38, m39, m40, m41, m42, m43, m44, m45, m46, m47, m48, m49, .int 0, m51, m52, m53, m54, m55, m56, m57, m58, m59, m60, m61, m62, m63, m64, m65, m66, m67, m68, m69, m70, m71, m72, m73, m74, m75, m76, m77, m78, m79, m80, m81, m82, m83, m84, m85, m86, m87, m88, m89, m90, m91, .int 0, .int 0, m94, m95, m96, m97, m98, m99, m100, m101, m102, m103, m104, m105, m106, m107, m108, m109, .long 0, .long 0, .int 0, m113, m114, m115, m116, m117, m118, m119, m120, m121, m122]))] := hD
  have hK : va_K (dC, dI) vwCl [] s := hK
  refine W.widen (k := 0) (n := 0) (by decide) (by decide) ?_
  have hw : y4 = 1 := hw
  subst hw
  refine lv_if_ne (tgt := 17) hx hb dX16_give_S_10 (by decide) (fun _ => ?_) (fun h9 => absurd h9 (by decide))
  refine lv_aload_n hx hb dX16_give_S_17 rfl (lv_at hl 0 rfl) ?_
  refine lv_iload_n hx hb dX16_give_S_18 rfl (lv_at hl 1 rfl) ?_
  have hPc := hP.sub (ws' := [(h0, .inr (16, [m0, m1, m2, .int 0, .int 0, m5, m6, m7, m8, m9, m10, m11, m12, m13, m14, m15, m16, .null, m18, m19, m20, m21, m22, m23, m24, m25, m26, .int 0, m28, m29, .int 0, .int 0, .int 0, m33, m34, m35, .int 0, m37, m38, m39, m40, m41, m42, m43, m44, m45, m46, m47, m48, m49, .int 0, m51, m52, m53, m54, m55, m56, m57, m58, m59, m60, m61, m62, m63, m64, m65, m66, m67, m68, m69, m70, m71, m72, m73, m74, m75, m76, m77, m78, m79, m80, m81, m82, m83, m84, m85, m86, m87, m88, m89, m90, m91, .int 0, .int 0, m94, m95, m96, m97, m98, m99, m100, m101, m102, m103, m104, m105, m106, m107, m108, m109, .long 0, .long 0, .int 0, m113, m114, m115, m116, m117, m118, m119, m120, m121, m122]))]) [0] rfl
  have hDc := hD.sub (ws' := [(h0, .inr (16, [m0, m1, m2, .int 0, .int 0, m5, m6, m7, m8, m9, m10, m11, m12, m13, m14, m15, m16, .null, m18, m19, m20, m21, m22, m23, m24, m25, m26, .int 0, m28, m29, .int 0, .int 0, .int 0, m33, m34, m35, .int 0, m37, m38, m39, m40, m41, m42, m43, m44, m45, m46, m47, m48, m49, .int 0, m51, m52, m53, m54, m55, m56, m57, m58, m59, m60, m61, m62, m63, m64, m65, m66, m67, m68, m69, m70, m71, m72, m73, m74, m75, m76, m77, m78, m79, m80, m81, m82, m83, m84, m85, m86, m87, m88, m89, m90, m91, .int 0, .int 0, m94, m95, m96, m97, m98, m99, m100, m101, m102, m103, m104, m105, m106, m107, m108, m109, .long 0, .long 0, .int 0, m113, m114, m115, m116, m117, m118, m119, m120, m121, m122]))]) [0] (by decide) rfl
  have hKc := hK.sub (tys' := []) [] rfl
  have hFc := va_free (wc := [(h0, .inr (16, [m0, m1, m2, .int 0, .int 0, m5, m6, m7, m8, m9, m10, m11, m12, m13, m14, m15, m16, .null, m18, m19, m20, m21, m22, m23, m24, m25, m26, .int 0, m28, m29, .int 0, .int 0, .int 0, m33, m34, m35, .int 0, m37, m38, m39, m40, m41, m42, m43, m44, m45, m46, m47, m48, m49, .int 0, m51, m52, m53, m54, m55, m56, m57, m58, m59, m60, m61, m62, m63, m64, m65, m66, m67, m68, m69, m70, m71, m72, m73, m74, m75, m76, m77, m78, m79, m80, m81, m82, m83, m84, m85, m86, m87, m88, m89, m90, m91, .int 0, .int 0, m94, m95, m96, m97, m98, m99, m100, m101, m102, m103, m104, m105, m106, m107, m108, m109, .long 0, .long 0, .int 0, m113, m114, m115, m116, m117, m118, m119, m120, m121, m122]))]) hD hS hA [0] rfl
  have h_5 : 0 ≤ 0 := by decide
  have h_6 : 0 ≤ 0 := by decide
  refine va_calli (va_runV (As := [.int k1]) (rest := [.ref h0]) ⟨hx, hb, hml, hown, hts⟩ (r_X16_hasSource l dC dI h0 k1 m0 m1 m2 m5 m6 m7 m8 m9 m10 m11 m12 m13 m14 m15 m16 m18 m19 m20 m21 m22 m23 m24 m25 m26 m28 m29 m33 m34 m35 m37 m38 m39 m40 m41 m42 m43 m44 m45 m46 m47 m48 m49 m51 m52 m53 m54 m55 m56 m57 m58 m59 m60 m61 m62 m63 m64 m65 m66 m67 m68 m69 m70 m71 m72 m73 m74 m75 m76 m77 m78 m79 m80 m81 m82 m83 m84 m85 m86 m87 m88 m89 m90 m91 m94 m95 m96 m97 m98 m99 m100 m101 m102 m103 m104 m105 m106 m107 m108 m109 m113 m114 m115 m116 m117 m118 m119 m120 m121 m122 _) (cwV 1 hts wV_X16_give_S_X16_hasSource_984 rfl rfl rfl (by decide +kernel) ⟨Nat.le_of_ble_eq_true rfl, Nat.le_of_ble_eq_true rfl⟩) ⟨fun a U g mk q => by obtain ⟨q0, q1, qP, qK, qD⟩ := q; exact ⟨q0, q1, qP, va_K.moved (u := U) (U := U.calling g mk a) (Vm.Alike.refl U.vm) qK, qD⟩, va_recv hKc hPc (ci := 16) (q0 := 0) rfl rfl, fun U hU hW => ⟨rfl, by rw [hU], by rw [hU]; exact hPc, va_K.moved hW.alike hKc, hDc.weaken (fun _ _ _ _ => trivial)⟩⟩ rfl rfl hl.1 rfl (lv_room (Nat.le_of_ble_eq_true rfl)) dX16_give_S_19 ⟨h_5, h_6⟩) hS (fun q _ h => hFc q h) hFc (fun y8 u7 t H1 locs ht hvm hw hB hz1 hk1 hS => ?_)
  obtain ⟨hP1, hK1, hD1⟩ := hB
  rw [ht] at hP1
  have hK1 := va_K.moved hvm.symm hK1
  obtain ⟨hP, hD⟩ := va_join (wr := []) (w1 := [(h0, .inr (16, [m0, m1, m2, .int 0, .int 0, m5, m6, m7, m8, m9, m10, m11, m12, m13, m14, m15, m16, .null, m18, m19, m20, m21, m22, m23, m24, m25, m26, .int 0, m28, m29, .int 0, .int 0, .int 0, m33, m34, m35, .int 0, m37, m38, m39, m40, m41, m42, m43, m44, m45, m46, m47, m48, m49, .int 0, m51, m52, m53, m54, m55, m56, m57, m58, m59, m60, m61, m62, m63, m64, m65, m66, m67, m68, m69, m70, m71, m72, m73, m74, m75, m76, m77, m78, m79, m80, m81, m82, m83, m84, m85, m86, m87, m88, m89, m90, m91, .int 0, .int 0, m94, m95, m96, m97, m98, m99, m100, m101, m102, m103, m104, m105, m106, m107, m108, m109, .long 0, .long 0, .int 0, m113, m114, m115, m116, m117, m118, m119, m120, m121, m122]))]) hP hD [0] [] rfl rfl (by decide) (by decide) hk1 hFc hP1 hD1
  have hK := (hK.sub (tys' := []) [] rfl).app hK1
  generalize H1 = H at hP hS ⊢
  have hP : va_P (dC, dI) vwCl [(h0, .inr (16, [m0, m1, m2, .int 0, .int 0, m5, m6, m7, m8, m9, m10, m11, m12, m13, m14, m15, m16, .null, m18, m19, m20, m21, m22, m23, m24, m25, m26, .int 0, m28, m29, .int 0, .int 0, .int 0, m33, m34, m35, .int 0, m37, m38, m39, m40, m41, m42, m43, m44, m45, m46, m47, m48, m49, .int 0, m51, m52, m53, m54, m55, m56, m57, m58, m59, m60, m61, m62, m63, m64, m65, m66, m67, m68, m69, m70, m71, m72, m73, m74, m75, m76, m77, m78, m79, m80, m81, m82, m83, m84, m85, m86, m87, m88, m89, m90, m91, .int 0, .int 0, m94, m95, m96, m97, m98, m99, m100, m101, m102, m103, m104, m105, m106, m107, m108, m109, .long 0, .long 0, .int 0, m113, m114, m115, m116, m117, m118, m119, m120, m121, m122]))] H := hP
  have hD : va_D A [(h0, .inr (16, [m0, m1, m2, .int 0, .int 0, m5, m6, m7, m8, m9, m10, m11, m12, m13, m14, m15, m16, .null, m18, m19, m20, m21, m22, m23, m24, m25, m26, .int 0, m28, m29, .int 0, .int 0, .int 0, m33, m34, m35, .int 0, m37, m38, m39, m40, m41, m42, m43, m44, m45, m46, m47, m48, m49, .int 0, m51, m52, m53, m54, m55, m56, m57, m58, m59, m60, m61, m62, m63, m64, m65, m66, m67, m68, m69, m70, m71, m72, m73, m74, m75, m76, m77, m78, m79, m80, m81, m82, m83, m84, m85, m86, m87, m88, m89, m90, m91, .int 0, .int 0, m94, m95, m96, m97, m98, m99, m100, m101, m102, m103, m104, m105, m106, m107, m108, m109, .long 0, .long 0, .int 0, m113, m114, m115, m116, m117, m118, m119, m120, m121, m122]))] := hD
  have hK : va_K (dC, dI) vwCl [] s := hK
  refine W.widen (k := 0) (n := 0) (by decide) (by decide) ?_
  have hw : y8 = 0 := hw
  subst hw
  refine lv_if_eq (tgt := 34) hx hb dX16_give_S_22 (by decide) (fun _ => ?_) (fun h9 => absurd (by decide) h9)
  refine lv_iconst (v := 2) hx hb dX16_give_S_34 (by decide) ?_
  refine lv_goto (tgt := 70) hx hb dX16_give_S_35 (by decide) ?_
  refine va_put (D := (dC, dI)) (ci := 16) (v := .int 2) (ty := .int) (C := RX16) (T := TX16) (N := 123) hx hb hts wh_X16_give_S_X16 tyX16 tyX16_ok nmX16 hown hK hP hD hS 0 rfl rfl 0 (by decide) (hts (.fieldLink RX16 1 "StreamHouseModel" "code" "I") (wm_X16_give_S 7 rfl)) (fun _ h9 => h9) rfl (by decide +kernel) rfl rfl (Nat.le_of_ble_eq_true rfl) dX16_give_S_70 (fun H locs hP hD hS => ?_)
  have hP : va_P (dC, dI) vwCl [(h0, .inr (16, [.int 2, m1, m2, .int 0, .int 0, m5, m6, m7, m8, m9, m10, m11, m12, m13, m14, m15, m16, .null, m18, m19, m20, m21, m22, m23, m24, m25, m26, .int 0, m28, m29, .int 0, .int 0, .int 0, m33, m34, m35, .int 0, m37, m38, m39, m40, m41, m42, m43, m44, m45, m46, m47, m48, m49, .int 0, m51, m52, m53, m54, m55, m56, m57, m58, m59, m60, m61, m62, m63, m64, m65, m66, m67, m68, m69, m70, m71, m72, m73, m74, m75, m76, m77, m78, m79, m80, m81, m82, m83, m84, m85, m86, m87, m88, m89, m90, m91, .int 0, .int 0, m94, m95, m96, m97, m98, m99, m100, m101, m102, m103, m104, m105, m106, m107, m108, m109, .long 0, .long 0, .int 0, m113, m114, m115, m116, m117, m118, m119, m120, m121, m122]))] H := hP
  have hD : va_D A [(h0, .inr (16, [.int 2, m1, m2, .int 0, .int 0, m5, m6, m7, m8, m9, m10, m11, m12, m13, m14, m15, m16, .null, m18, m19, m20, m21, m22, m23, m24, m25, m26, .int 0, m28, m29, .int 0, .int 0, .int 0, m33, m34, m35, .int 0, m37, m38, m39, m40, m41, m42, m43, m44, m45, m46, m47, m48, m49, .int 0, m51, m52, m53, m54, m55, m56, m57, m58, m59, m60, m61, m62, m63, m64, m65, m66, m67, m68, m69, m70, m71, m72, m73, m74, m75, m76, m77, m78, m79, m80, m81, m82, m83, m84, m85, m86, m87, m88, m89, m90, m91, .int 0, .int 0, m94, m95, m96, m97, m98, m99, m100, m101, m102, m103, m104, m105, m106, m107, m108, m109, .long 0, .long 0, .int 0, m113, m114, m115, m116, m117, m118, m119, m120, m121, m122]))] := hD
  refine lv_aload_n hx hb dX16_give_S_73 rfl (lv_at hl 0 rfl) ?_
  refine va_get (D := (dC, dI)) (ci := 16) (v := .int 2) (C := RX16) (T := TX16) (N := 123) hx hb hts wh_X16_give_S_X16 hown hK hP 0 rfl rfl 0 (by decide) (hts (.fieldLink RX16 1 "StreamHouseModel" "code" "I") (wm_X16_give_S 7 rfl)) (fun _ h9 => h9) rfl dX16_give_S_74 ?_
  refine lv_if_le (tgt := 82) hx hb dX16_give_S_77 (by decide) (fun h9 => absurd h9 (by decide)) (fun _ => ?_)
  refine lv_iconst (v := 0) hx hb dX16_give_S_80 (by decide) ?_
  have hP9 := hP.sub (ws' := [(h0, .inr (16, [.int 2, m1, m2, .int 0, .int 0, m5, m6, m7, m8, m9, m10, m11, m12, m13, m14, m15, m16, .null, m18, m19, m20, m21, m22, m23, m24, m25, m26, .int 0, m28, m29, .int 0, .int 0, .int 0, m33, m34, m35, .int 0, m37, m38, m39, m40, m41, m42, m43, m44, m45, m46, m47, m48, m49, .int 0, m51, m52, m53, m54, m55, m56, m57, m58, m59, m60, m61, m62, m63, m64, m65, m66, m67, m68, m69, m70, m71, m72, m73, m74, m75, m76, m77, m78, m79, m80, m81, m82, m83, m84, m85, m86, m87, m88, m89, m90, m91, .int 0, .int 0, m94, m95, m96, m97, m98, m99, m100, m101, m102, m103, m104, m105, m106, m107, m108, m109, .long 0, .long 0, .int 0, m113, m114, m115, m116, m117, m118, m119, m120, m121, m122]))]) [0] rfl
  have hD9 := hD.sub (ws' := [(h0, .inr (16, [.int 2, m1, m2, .int 0, .int 0, m5, m6, m7, m8, m9, m10, m11, m12, m13, m14, m15, m16, .null, m18, m19, m20, m21, m22, m23, m24, m25, m26, .int 0, m28, m29, .int 0, .int 0, .int 0, m33, m34, m35, .int 0, m37, m38, m39, m40, m41, m42, m43, m44, m45, m46, m47, m48, m49, .int 0, m51, m52, m53, m54, m55, m56, m57, m58, m59, m60, m61, m62, m63, m64, m65, m66, m67, m68, m69, m70, m71, m72, m73, m74, m75, m76, m77, m78, m79, m80, m81, m82, m83, m84, m85, m86, m87, m88, m89, m90, m91, .int 0, .int 0, m94, m95, m96, m97, m98, m99, m100, m101, m102, m103, m104, m105, m106, m107, m108, m109, .long 0, .long 0, .int 0, m113, m114, m115, m116, m117, m118, m119, m120, m121, m122]))]) [0] (by decide) rfl
  have hK9 := hK.sub (tys' := []) [] rfl
  refine W.widen (k := 0) (n := 0) (by decide) (by decide) ?_
  exact W.iret (v := 0) hx hb hr (fun t ht hW => ⟨⟨0, (), rfl, rfl, by rw [ht]; exact hP9, va_K.moved hW.alike hK9, hD9⟩, hS.F ht⟩) hS.2.2 dX16_give_S_81

abbrev ar_X16_feed_A (dC : Nat → ClassId) (dI : Nat → Nat → Nat) (A : Nat → Prop) (h0 : Nat) (k1 : Int32) (g1 : Int64) (m0 m1 m2 m5 m6 m7 m8 m9 m10 m11 m12 m13 m14 m15 m16 m18 m19 m20 m21 m22 m23 m24 m25 m26 m28 m29 m33 m34 m35 m37 m38 m39 m40 m41 m42 m43 m44 m45 m46 m47 m48 m49 m51 m52 m53 m54 m55 m56 m57 m58 m59 m60 m61 m62 m63 m64 m65 m66 m67 m68 m69 m70 m71 m72 m73 m74 m75 m76 m77 m78 m79 m80 m81 m82 m83 m84 m85 m86 m87 m88 m89 m90 m91 m94 m95 m96 m97 m98 m99 m100 m101 m102 m103 m104 m105 m106 m107 m108 m109 m113 m114 m115 m116 m117 m118 m119 m120 m121 m122 : Value) (_ : Unit) (t : State) : Prop := va_P (dC, dI) vwCl [(h0, .inr (16, [.int 1, m1, m2, .int 0, .int 0, m5, m6, m7, m8, m9, m10, m11, m12, m13, m14, m15, m16, .null, m18, m19, m20, m21, m22, m23, m24, m25, m26, .int 0, m28, m29, .int 0, .int 0, .int 0, m33, m34, m35, .int 0, m37, m38, m39, m40, m41, m42, m43, m44, m45, m46, m47, m48, m49, .int 0, m51, m52, m53, m54, m55, m56, m57, m58, m59, m60, m61, m62, m63, m64, m65, m66, m67, m68, m69, m70, m71, m72, m73, m74, m75, m76, m77, m78, m79, m80, m81, m82, m83, m84, m85, m86, m87, m88, m89, m90, m91, .int 0, .int 0, m94, m95, m96, m97, m98, m99, m100, m101, m102, m103, m104, m105, m106, m107, m108, m109, .long 0, .long 0, .int 0, m113, m114, m115, m116, m117, m118, m119, m120, m121, m122]))] t.heap ∧ va_K (dC, dI) vwCl [] t ∧ va_D A [(h0, .inr (16, [.int 1, m1, m2, .int 0, .int 0, m5, m6, m7, m8, m9, m10, m11, m12, m13, m14, m15, m16, .null, m18, m19, m20, m21, m22, m23, m24, m25, m26, .int 0, m28, m29, .int 0, .int 0, .int 0, m33, m34, m35, .int 0, m37, m38, m39, m40, m41, m42, m43, m44, m45, m46, m47, m48, m49, .int 0, m51, m52, m53, m54, m55, m56, m57, m58, m59, m60, m61, m62, m63, m64, m65, m66, m67, m68, m69, m70, m71, m72, m73, m74, m75, m76, m77, m78, m79, m80, m81, m82, m83, m84, m85, m86, m87, m88, m89, m90, m91, .int 0, .int 0, m94, m95, m96, m97, m98, m99, m100, m101, m102, m103, m104, m105, m106, m107, m108, m109, .long 0, .long 0, .int 0, m113, m114, m115, m116, m117, m118, m119, m120, m121, m122]))]
theorem dX16_feed_A_0 : decode cX16_feed 0 = .ok (.aload_n 0, 1) := by decide +kernel
theorem dX16_feed_A_1 : decode cX16_feed 1 = .ok (.iload_n 3, 1) := by decide +kernel
theorem dX16_feed_A_2 : decode cX16_feed 2 = .ok (.i2l, 1) := by decide +kernel
theorem dX16_feed_A_3 : decode cX16_feed 3 = .ok (.lconst 1, 1) := by decide +kernel
theorem dX16_feed_A_4 : decode cX16_feed 4 = .ok (.ldc2_w 250, 3) := by decide +kernel
theorem dX16_feed_A_7 : decode cX16_feed 7 = .ok (.invokestatic 45, 3) := by decide +kernel
theorem dX16_feed_A_10 : decode cX16_feed 10 = .ok (.ifCond .ne 7, 3) := by decide +kernel
theorem dX16_feed_A_13 : decode cX16_feed 13 = .ok (.iconst 1, 1) := by decide +kernel
theorem dX16_feed_A_14 : decode cX16_feed 14 = .ok (.goto 20, 3) := by decide +kernel
theorem dX16_feed_A_34 : decode cX16_feed 34 = .ok (.putfield 1, 3) := by decide +kernel
theorem dX16_feed_A_37 : decode cX16_feed 37 = .ok (.iload_n 3, 1) := by decide +kernel
theorem dX16_feed_A_38 : decode cX16_feed 38 = .ok (.iconst 1, 1) := by decide +kernel
theorem dX16_feed_A_39 : decode cX16_feed 39 = .ok (.isub, 1) := by decide +kernel
theorem dX16_feed_A_40 : decode cX16_feed 40 = .ok (.istore 4, 2) := by decide +kernel
theorem dX16_feed_A_42 : decode cX16_feed 42 = .ok (.iload 4, 2) := by decide +kernel
theorem dX16_feed_A_44 : decode cX16_feed 44 = .ok (.ifCond .lt 41, 3) := by decide +kernel
theorem dX16_feed_A_47 : decode cX16_feed 47 = .ok (.aload_n 0, 1) := by decide +kernel
theorem dX16_feed_A_48 : decode cX16_feed 48 = .ok (.getfield 1, 3) := by decide +kernel
theorem dX16_feed_A_51 : decode cX16_feed 51 = .ok (.ifCond .ne 34, 3) := by decide +kernel
theorem dX16_feed_A_85 : decode cX16_feed 85 = .ok (.aload_n 0, 1) := by decide +kernel
theorem dX16_feed_A_86 : decode cX16_feed 86 = .ok (.getfield 1, 3) := by decide +kernel
theorem dX16_feed_A_89 : decode cX16_feed 89 = .ok (.ifCond .le 7, 3) := by decide +kernel
theorem dX16_feed_A_92 : decode cX16_feed 92 = .ok (.iconst 0, 1) := by decide +kernel
theorem dX16_feed_A_93 : decode cX16_feed 93 = .ok (.goto 7, 3) := by decide +kernel
theorem dX16_feed_A_100 : decode cX16_feed 100 = .ok (.ireturn, 1) := by decide +kernel
def ww_X16_feed_A : List Cond := [.constantLong RX16 250 8, .initialized RX16, .methodLink RX16 45 yX16_within, .static yX16_within, .fieldLink RX16 1 "StreamHouseModel" "code" "I"]
def wv_X16_feed_A : List Cond := .code yX16_feed cX16_feed 5 (some .int) :: (ww_X16_feed_A ++ (wv_X16_within_0 ++ (u_ws RX16 TX16 123 ++ [])))
theorem wm_X16_feed_A {w : Cond} (i : Nat) (h : ww_X16_feed_A[i]? = some w) : w ∈ wv_X16_feed_A := List.mem_cons_of_mem _ (List.mem_append_left _ (List.mem_of_getElem? h))
set_option maxRecDepth 100000 in
theorem gw_X16_feed_A : wv_X16_feed_A.all goodWord = true := by decide +kernel
theorem wg_X16_feed_A_X16_within_0 : GoodIn wv_X16_feed_A wv_X16_within_0 := goodIn_sub (fun w h => List.mem_cons_of_mem _ (List.mem_append_right _ (List.mem_append_left _ h))) gw_X16_within_0
theorem wt_X16_feed_A_X16_within_0 : GoodIn wv_X16_feed_A (va_wsS RX16 45 yX16_within wv_X16_within_0) := goodIn_app (goodIn_sub (fun w h => by simp only [List.mem_cons, List.not_mem_nil, or_false] at h; rcases h with rfl | rfl | rfl <;> first | exact wm_X16_feed_A 2 rfl | exact wm_X16_feed_A 3 rfl | exact wm_X16_feed_A 1 rfl) (by decide +kernel)) wg_X16_feed_A_X16_within_0
theorem wh_X16_feed_A_X16 : ∀ w ∈ u_ws RX16 TX16 123, w ∈ wv_X16_feed_A := fun w h => List.mem_cons_of_mem _ (List.mem_append_right _ (List.mem_append_right _ (List.mem_append_left _ h)))
set_option maxHeartbeats 4000000 in
set_option maxRecDepth 100000 in
/-- feed(.., k), k not 1 .. 8 -/
theorem r_X16_feed_A (l : Launch) (dC : Nat → ClassId) (dI : Nat → Nat → Nat) (h0 : Nat) (k1 : Int32) (g1 : Int64) (m0 m1 m2 m5 m6 m7 m8 m9 m10 m11 m12 m13 m14 m15 m16 m18 m19 m20 m21 m22 m23 m24 m25 m26 m28 m29 m33 m34 m35 m37 m38 m39 m40 m41 m42 m43 m44 m45 m46 m47 m48 m49 m51 m52 m53 m54 m55 m56 m57 m58 m59 m60 m61 m62 m63 m64 m65 m66 m67 m68 m69 m70 m71 m72 m73 m74 m75 m76 m77 m78 m79 m80 m81 m82 m83 m84 m85 m86 m87 m88 m89 m90 m91 m94 m95 m96 m97 m98 m99 m100 m101 m102 m103 m104 m105 m106 m107 m108 m109 m113 m114 m115 m116 m117 m118 m119 m120 m121 m122 : Value) (sz : Nat) : Met l yX16_feed wv_X16_feed_A ({ frames := 1, cells := 0, slots := 0, locals := 25 }) (va_Pc [.ref h0, .long g1, .int k1] (fun U => U.heap.size = sz ∧ va_P (dC, dI) vwCl [(h0, .inr (16, [m0, m1, m2, .int 0, .int 0, m5, m6, m7, m8, m9, m10, m11, m12, m13, m14, m15, m16, .null, m18, m19, m20, m21, m22, m23, m24, m25, m26, .int 0, m28, m29, .int 0, .int 0, .int 0, m33, m34, m35, .int 0, m37, m38, m39, m40, m41, m42, m43, m44, m45, m46, m47, m48, m49, .int 0, m51, m52, m53, m54, m55, m56, m57, m58, m59, m60, m61, m62, m63, m64, m65, m66, m67, m68, m69, m70, m71, m72, m73, m74, m75, m76, m77, m78, m79, m80, m81, m82, m83, m84, m85, m86, m87, m88, m89, m90, m91, .int 0, .int 0, m94, m95, m96, m97, m98, m99, m100, m101, m102, m103, m104, m105, m106, m107, m108, m109, .long 0, .long 0, .int 0, m113, m114, m115, m116, m117, m118, m119, m120, m121, m122]))] U.heap ∧ va_K (dC, dI) vwCl [] U ∧ va_D (fun _ => True) [(h0, .inr (16, [m0, m1, m2, .int 0, .int 0, m5, m6, m7, m8, m9, m10, m11, m12, m13, m14, m15, m16, .null, m18, m19, m20, m21, m22, m23, m24, m25, m26, .int 0, m28, m29, .int 0, .int 0, .int 0, m33, m34, m35, .int 0, m37, m38, m39, m40, m41, m42, m43, m44, m45, m46, m47, m48, m49, .int 0, m51, m52, m53, m54, m55, m56, m57, m58, m59, m60, m61, m62, m63, m64, m65, m66, m67, m68, m69, m70, m71, m72, m73, m74, m75, m76, m77, m78, m79, m80, m81, m82, m83, m84, m85, m86, m87, m88, m89, m90, m91, .int 0, .int 0, m94, m95, m96, m97, m98, m99, m100, m101, m102, m103, m104, m105, m106, m107, m108, m109, .long 0, .long 0, .int 0, m113, m114, m115, m116, m117, m118, m119, m120, m121, m122]))] ∧ (k1.toInt64 < 1 ∨ 8 < k1.toInt64))) (va_Qi (fun r (_ : Unit) => r = 0) (ar_X16_feed_A dC dI (va_A [(h0, .inr (16, [m0, m1, m2, .int 0, .int 0, m5, m6, m7, m8, m9, m10, m11, m12, m13, m14, m15, m16, .null, m18, m19, m20, m21, m22, m23, m24, m25, m26, .int 0, m28, m29, .int 0, .int 0, .int 0, m33, m34, m35, .int 0, m37, m38, m39, m40, m41, m42, m43, m44, m45, m46, m47, m48, m49, .int 0, m51, m52, m53, m54, m55, m56, m57, m58, m59, m60, m61, m62, m63, m64, m65, m66, m67, m68, m69, m70, m71, m72, m73, m74, m75, m76, m77, m78, m79, m80, m81, m82, m83, m84, m85, m86, m87, m88, m89, m90, m91, .int 0, .int 0, m94, m95, m96, m97, m98, m99, m100, m101, m102, m103, m104, m105, m106, m107, m108, m109, .long 0, .long 0, .int 0, m113, m114, m115, m116, m117, m118, m119, m120, m121, m122]))] sz) h0 k1 g1 m0 m1 m2 m5 m6 m7 m8 m9 m10 m11 m12 m13 m14 m15 m16 m18 m19 m20 m21 m22 m23 m24 m25 m26 m28 m29 m33 m34 m35 m37 m38 m39 m40 m41 m42 m43 m44 m45 m46 m47 m48 m49 m51 m52 m53 m54 m55 m56 m57 m58 m59 m60 m61 m62 m63 m64 m65 m66 m67 m68 m69 m70 m71 m72 m73 m74 m75 m76 m77 m78 m79 m80 m81 m82 m83 m84 m85 m86 m87 m88 m89 m90 m91 m94 m95 m96 m97 m98 m99 m100 m101 m102 m103 m104 m105 m106 m107 m108 m109 m113 m114 m115 m116 m117 m118 m119 m120 m121 m122) (va_A [(h0, .inr (16, [m0, m1, m2, .int 0, .int 0, m5, m6, m7, m8, m9, m10, m11, m12, m13, m14, m15, m16, .null, m18, m19, m20, m21, m22, m23, m24, m25, m26, .int 0, m28, m29, .int 0, .int 0, .int 0, m33, m34, m35, .int 0, m37, m38, m39, m40, m41, m42, m43, m44, m45, m46, m47, m48, m49, .int 0, m51, m52, m53, m54, m55, m56, m57, m58, m59, m60, m61, m62, m63, m64, m65, m66, m67, m68, m69, m70, m71, m72, m73, m74, m75, m76, m77, m78, m79, m80, m81, m82, m83, m84, m85, m86, m87, m88, m89, m90, m91, .int 0, .int 0, m94, m95, m96, m97, m98, m99, m100, m101, m102, m103, m104, m105, m106, m107, m108, m109, .long 0, .long 0, .int 0, m113, m114, m115, m116, m117, m118, m119, m120, m121, m122]))] sz)) 0 0 (va_A [(h0, .inr (16, [m0, m1, m2, .int 0, .int 0, m5, m6, m7, m8, m9, m10, m11, m12, m13, m14, m15, m16, .null, m18, m19, m20, m21, m22, m23, m24, m25, m26, .int 0, m28, m29, .int 0, .int 0, .int 0, m33, m34, m35, .int 0, m37, m38, m39, m40, m41, m42, m43, m44, m45, m46, m47, m48, m49, .int 0, m51, m52, m53, m54, m55, m56, m57, m58, m59, m60, m61, m62, m63, m64, m65, m66, m67, m68, m69, m70, m71, m72, m73, m74, m75, m76, m77, m78, m79, m80, m81, m82, m83, m84, m85, m86, m87, m88, m89, m90, m91, .int 0, .int 0, m94, m95, m96, m97, m98, m99, m100, m101, m102, m103, m104, m105, m106, m107, m108, m109, .long 0, .long 0, .int 0, m113, m114, m115, m116, m117, m118, m119, m120, m121, m122]))] sz) := by
  refine Met.ofW (cc := cX16_feed) (maxL := 5) (ret := (some .int)) (by decide) rfl ?_
  intro p e s m args below meth c s₁ B hml hv
  obtain ⟨rfl, hsz, hP, hK, hD0, hpre⟩ := hv
  have hx := B.exec
  have hb := B.bytes
  have hr := B.returns
  have hts := atoms_spec (ws := wv_X16_feed_A) B.pre
  have hown : s.vm.findClass RX16 = some m.cls := findClass_of_methodNamed B.named
  have hlocks := B.notSynchronized
  subst hsz
  have hD := hD0.self (sz := s.heap.size)
  generalize hAe : va_A [(h0, .inr (16, [m0, m1, m2, .int 0, .int 0, m5, m6, m7, m8, m9, m10, m11, m12, m13, m14, m15, m16, .null, m18, m19, m20, m21, m22, m23, m24, m25, m26, .int 0, m28, m29, .int 0, .int 0, .int 0, m33, m34, m35, .int 0, m37, m38, m39, m40, m41, m42, m43, m44, m45, m46, m47, m48, m49, .int 0, m51, m52, m53, m54, m55, m56, m57, m58, m59, m60, m61, m62, m63, m64, m65, m66, m67, m68, m69, m70, m71, m72, m73, m74, m75, m76, m77, m78, m79, m80, m81, m82, m83, m84, m85, m86, m87, m88, m89, m90, m91, .int 0, .int 0, m94, m95, m96, m97, m98, m99, m100, m101, m102, m103, m104, m105, m106, m107, m108, m109, .long 0, .long 0, .int 0, m113, m114, m115, m116, m117, m118, m119, m120, m121, m122]))] s.heap.size = A at hD ⊢
  have hA : ∀ q : Nat, s.heap.size ≤ q → A q := fun q h => by rw [← hAe]; exact Or.inr h
  have hS : va_S A s.heap s.heap [] := va_S.rf
  have hP : va_P (dC, dI) vwCl [(h0, .inr (16, [m0, m1, m2, .int 0, .int 0, m5, m6, m7, m8, m9, m10, m11, m12, m13, m14, m15, m16, .null, m18, m19, m20, m21, m22, m23, m24, m25, m26, .int 0, m28, m29, .int 0, .int 0, .int 0, m33, m34, m35, .int 0, m37, m38, m39, m40, m41, m42, m43, m44, m45, m46, m47, m48, m49, .int 0, m51, m52, m53, m54, m55, m56, m57, m58, m59, m60, m61, m62, m63, m64, m65, m66, m67, m68, m69, m70, m71, m72, m73, m74, m75, m76, m77, m78, m79, m80, m81, m82, m83, m84, m85, m86, m87, m88, m89, m90, m91, .int 0, .int 0, m94, m95, m96, m97, m98, m99, m100, m101, m102, m103, m104, m105, m106, m107, m108, m109, .long 0, .long 0, .int 0, m113, m114, m115, m116, m117, m118, m119, m120, m121, m122]))] s.heap := hP
  have hl := lv_entry ([.ref h0, .long g1, .int k1]) (n := 5) (Nat.le_of_ble_eq_true rfl)
  rw [lg_entry_eq]
  generalize (lg_sl ([.ref h0, .long g1, .int k1]) ++ List.replicate (5 - (lg_sl ([.ref h0, .long g1, .int k1])).length) Slot.unset).toArray = ls at hl ⊢
  have hl : lv_has ls 5 [(0, .ref h0), (1, .long g1), (3, .int k1)] := hl
  refine lv_aload_n hx hb dX16_feed_A_0 rfl (lv_at hl 0 rfl) ?_
  refine lv_iload_n hx hb dX16_feed_A_1 rfl (lv_at hl 2 rfl) ?_
  refine lv_i2l (v := k1.toInt64) hx hb dX16_feed_A_2 rfl ?_
  refine lv_lconst (v := 1) hx hb dX16_feed_A_3 (by decide) ?_
  refine lv_ldc2 hx hb hown (hts (.constantLong RX16 250 8) (wm_X16_feed_A 0 rfl)) dX16_feed_A_4 ?_
  have hPc := hP.sub (ws' := []) [] rfl
  have hDc := hD.sub (ws' := []) [] (by decide) rfl
  have hKc := hK.sub (tys' := []) [] rfl
  have hFc := va_free (wc := []) hD hS hA [] rfl
  have h_1 : 0 ≤ 0 := by decide
  have h_2 : 0 ≤ 0 := by decide
  refine va_calli (va_runS (As := [.long (k1.toInt64), .long 1, .long 8]) (rest := [.ref h0]) ⟨hx, hb, hml, hown, hts⟩ (r_X16_within_0 l dC dI (k1.toInt64) 1 8 _) (va_cwS 3 hts wt_X16_feed_A_X16_within_0 rfl rfl rfl (by decide +kernel) ⟨Nat.le_of_ble_eq_true rfl, Nat.le_of_ble_eq_true rfl⟩) ⟨fun a U g mk q => by obtain ⟨q0, q1, qP, qK, qD, qp⟩ := q; exact ⟨q0, q1, qP, va_K.moved (u := U) (U := U.calling g mk a) (Vm.Alike.refl U.vm) qK, qD, qp⟩, fun U hU hW => ⟨rfl, by rw [hU], by rw [hU]; exact hPc, va_K.moved hW.alike hKc, hDc.weaken (fun _ _ _ _ => trivial), hpre⟩⟩ rfl rfl hl.1 rfl (lv_room (Nat.le_of_ble_eq_true rfl)) dX16_feed_A_7 ⟨h_1, h_2⟩) hS (fun q _ h => hFc q h) hFc (fun y4 u3 t H1 locs ht hvm hw hB hz1 hk1 hS => ?_)
  obtain ⟨hP1, hK1, hD1⟩ := hB
  rw [ht] at hP1
  have hK1 := va_K.moved hvm.symm hK1
  obtain ⟨hP, hD⟩ := va_join (wr := [(h0, .inr (16, [m0, m1, m2, .int 0, .int 0, m5, m6, m7, m8, m9, m10, m11, m12, m13, m14, m15, m16, .null, m18, m19, m20, m21, m22, m23, m24, m25, m26, .int 0, m28, m29, .int 0, .int 0, .int 0, m33, m34, m35, .int 0, m37, m38, m39, m40, m41, m42, m43, m44, m45, m46, m47, m48, m49, .int 0, m51, m52, m53, m54, m55, m56, m57, m58, m59, m60, m61, m62, m63, m64, m65, m66, m67, m68, m69, m70, m71, m72, m73, m74, m75, m76, m77, m78, m79, m80, m81, m82, m83, m84, m85, m86, m87, m88, m89, m90, m91, .int 0, .int 0, m94, m95, m96, m97, m98, m99, m100, m101, m102, m103, m104, m105, m106, m107, m108, m109, .long 0, .long 0, .int 0, m113, m114, m115, m116, m117, m118, m119, m120, m121, m122]))]) (w1 := []) hP hD [] [0] rfl rfl (by decide) (by decide) hk1 hFc hP1 hD1
  have hK := (hK.sub (tys' := []) [] rfl).app hK1
  generalize H1 = H at hP hS ⊢
  have hP : va_P (dC, dI) vwCl [(h0, .inr (16, [m0, m1, m2, .int 0, .int 0, m5, m6, m7, m8, m9, m10, m11, m12, m13, m14, m15, m16, .null, m18, m19, m20, m21, m22, m23, m24, m25, m26, .int 0, m28, m29, .int 0, .int 0, .int 0, m33, m34, m35, .int 0, m37, m38, m39, m40, m41, m42, m43, m44, m45, m46, m47, m48, m49, .int 0, m51, m52, m53, m54, m55, m56, m57, m58, m59, m60, m61, m62, m63, m64, m65, m66, m67, m68, m69, m70, m71, m72, m73, m74, m75, m76, m77, m78, m79, m80, m81, m82, m83, m84, m85, m86, m87, m88, m89, m90, m91, .int 0, .int 0, m94, m95, m96, m97, m98, m99, m100, m101, m102, m103, m104, m105, m106, m107, m108, m109, .long 0, .long 0, .int 0, m113, m114, m115, m116, m117, m118, m119, m120, m121, m122]))] H := hP
  have hD : va_D A [(h0, .inr (16, [m0, m1, m2, .int 0, .int 0, m5, m6, m7, m8, m9, m10, m11, m12, m13, m14, m15, m16, .null, m18, m19, m20, m21, m22, m23, m24, m25, m26, .int 0, m28, m29, .int 0, .int 0, .int 0, m33, m34, m35, .int 0, m37, m38, m39, m40, m41, m42, m43, m44, m45, m46, m47, m48, m49, .int 0, m51, m52, m53, m54, m55, m56, m57, m58, m59, m60, m61, m62, m63, m64, m65, m66, m67, m68, m69, m70, m71, m72, m73, m74, m75, m76, m77, m78, m79, m80, m81, m82, m83, m84, m85, m86, m87, m88, m89, m90, m91, .int 0, .int 0, m94, m95, m96, m97, m98, m99, m100, m101, m102, m103, m104, m105, m106, m107, m108, m109, .long 0, .long 0, .int 0, m113, m114, m115, m116, m117, m118, m119, m120, m121, m122]))] := hD
  have hK : va_K (dC, dI) vwCl [] s := hK
  refine W.widen (k := 0) (n := 0) (by decide) (by decide) ?_
  have hw : y4 = 0 := hw
  subst hw
  refine lv_if_ne (tgt := 17) hx hb dX16_feed_A_10 (by decide) (fun h9 => absurd (by decide) h9) (fun _ => ?_)
  refine lv_iconst (v := 1) hx hb dX16_feed_A_13 (by decide) ?_
  refine lv_goto (tgt := 34) hx hb dX16_feed_A_14 (by decide) ?_
  refine va_put (D := (dC, dI)) (ci := 16) (v := .int 1) (ty := .int) (C := RX16) (T := TX16) (N := 123) hx hb hts wh_X16_feed_A_X16 tyX16 tyX16_ok nmX16 hown hK hP hD hS 0 rfl rfl 0 (by decide) (hts (.fieldLink RX16 1 "StreamHouseModel" "code" "I") (wm_X16_feed_A 4 rfl)) (fun _ h9 => h9) rfl (by decide +kernel) rfl rfl (Nat.le_of_ble_eq_true rfl) dX16_feed_A_34 (fun H locs hP hD hS => ?_)
  have hP : va_P (dC, dI) vwCl [(h0, .inr (16, [.int 1, m1, m2, .int 0, .int 0, m5, m6, m7, m8, m9, m10, m11, m12, m13, m14, m15, m16, .null, m18, m19, m20, m21, m22, m23, m24, m25, m26, .int 0, m28, m29, .int 0, .int 0, .int 0, m33, m34, m35, .int 0, m37, m38, m39, m40, m41, m42, m43, m44, m45, m46, m47, m48, m49, .int 0, m51, m52, m53, m54, m55, m56, m57, m58, m59, m60, m61, m62, m63, m64, m65, m66, m67, m68, m69, m70, m71, m72, m73, m74, m75, m76, m77, m78, m79, m80, m81, m82, m83, m84, m85, m86, m87, m88, m89, m90, m91, .int 0, .int 0, m94, m95, m96, m97, m98, m99, m100, m101, m102, m103, m104, m105, m106, m107, m108, m109, .long 0, .long 0, .int 0, m113, m114, m115, m116, m117, m118, m119, m120, m121, m122]))] H := hP
  have hD : va_D A [(h0, .inr (16, [.int 1, m1, m2, .int 0, .int 0, m5, m6, m7, m8, m9, m10, m11, m12, m13, m14, m15, m16, .null, m18, m19, m20, m21, m22, m23, m24, m25, m26, .int 0, m28, m29, .int 0, .int 0, .int 0, m33, m34, m35, .int 0, m37, m38, m39, m40, m41, m42, m43, m44, m45, m46, m47, m48, m49, .int 0, m51, m52, m53, m54, m55, m56, m57, m58, m59, m60, m61, m62, m63, m64, m65, m66, m67, m68, m69, m70, m71, m72, m73, m74, m75, m76, m77, m78, m79, m80, m81, m82, m83, m84, m85, m86, m87, m88, m89, m90, m91, .int 0, .int 0, m94, m95, m96, m97, m98, m99, m100, m101, m102, m103, m104, m105, m106, m107, m108, m109, .long 0, .long 0, .int 0, m113, m114, m115, m116, m117, m118, m119, m120, m121, m122]))] := hD
  refine lv_iload_n hx hb dX16_feed_A_37 rfl (lv_at hl 2 rfl) ?_
  refine lv_iconst (v := 1) hx hb dX16_feed_A_38 (by decide) ?_
  refine lv_isub hx hb dX16_feed_A_39 ?_
  refine lv_topi (fun y5 _ => ?_)
  refine lv_istore (lv' := [(4, .int y5), (0, .ref h0), (1, .long g1), (3, .int k1)]) hx hb dX16_feed_A_40 hl (by decide) rfl (fun ls hl => ?_)
  refine lv_iload hx hb dX16_feed_A_42 (lv_at hl 0 rfl) ?_
  refine lv_if_lt (tgt := 85) hx hb dX16_feed_A_44 (by decide) (fun hc => ?_) (fun hc => ?_)
  · refine lv_aload_n hx hb dX16_feed_A_85 rfl (lv_at hl 1 rfl) ?_
    refine va_get (D := (dC, dI)) (ci := 16) (v := .int 1) (C := RX16) (T := TX16) (N := 123) hx hb hts wh_X16_feed_A_X16 hown hK hP 0 rfl rfl 0 (by decide) (hts (.fieldLink RX16 1 "StreamHouseModel" "code" "I") (wm_X16_feed_A 4 rfl)) (fun _ h9 => h9) rfl dX16_feed_A_86 ?_
    refine lv_if_le (tgt := 96) hx hb dX16_feed_A_89 (by decide) (fun h9 => absurd h9 (by decide)) (fun _ => ?_)
    refine lv_iconst (v := 0) hx hb dX16_feed_A_92 (by decide) ?_
    refine lv_goto (tgt := 100) hx hb dX16_feed_A_93 (by decide) ?_
    have hP9 := hP.sub (ws' := [(h0, .inr (16, [.int 1, m1, m2, .int 0, .int 0, m5, m6, m7, m8, m9, m10, m11, m12, m13, m14, m15, m16, .null, m18, m19, m20, m21, m22, m23, m24, m25, m26, .int 0, m28, m29, .int 0, .int 0, .int 0, m33, m34, m35, .int 0, m37, m38, m39, m40, m41, m42, m43, m44, m45, m46, m47, m48, m49, .int 0, m51, m52, m53, m54, m55, m56, m57, m58, m59, m60, m61, m62, m63, m64, m65, m66, m67, m68, m69, m70, m71, m72, m73, m74, m75, m76, m77, m78, m79, m80, m81, m82, m83, m84, m85, m86, m87, m88, m89, m90, m91, .int 0, .int 0, m94, m95, m96, m97, m98, m99, m100, m101, m102, m103, m104, m105, m106, m107, m108, m109, .long 0, .long 0, .int 0, m113, m114, m115, m116, m117, m118, m119, m120, m121, m122]))]) [0] rfl
    have hD9 := hD.sub (ws' := [(h0, .inr (16, [.int 1, m1, m2, .int 0, .int 0, m5, m6, m7, m8, m9, m10, m11, m12, m13, m14, m15, m16, .null, m18, m19, m20, m21, m22, m23, m24, m25, m26, .int 0, m28, m29, .int 0, .int 0, .int 0, m33, m34, m35, .int 0, m37, m38, m39, m40, m41, m42, m43, m44, m45, m46, m47, m48, m49, .int 0, m51, m52, m53, m54, m55, m56, m57, m58, m59, m60, m61, m62, m63, m64, m65, m66, m67, m68, m69, m70, m71, m72, m73, m74, m75, m76, m77, m78, m79, m80, m81, m82, m83, m84, m85, m86, m87, m88, m89, m90, m91, .int 0, .int 0, m94, m95, m96, m97, m98, m99, m100, m101, m102, m103, m104, m105, m106, m107, m108, m109, .long 0, .long 0, .int 0, m113, m114, m115, m116, m117, m118, m119, m120, m121, m122]))]) [0] (by decide) rfl
    have hK9 := hK.sub (tys' := []) [] rfl
    refine W.widen (k := 0) (n := 0) (by decide) (by decide) ?_
    exact W.iret (v := 0) hx hb hr (fun t ht hW => ⟨⟨0, (), rfl, rfl, by rw [ht]; exact hP9, va_K.moved hW.alike hK9, hD9⟩, hS.F ht⟩) hS.2.2 dX16_feed_A_100
  · refine lv_aload_n hx hb dX16_feed_A_47 rfl (lv_at hl 1 rfl) ?_
    refine va_get (D := (dC, dI)) (ci := 16) (v := .int 1) (C := RX16) (T := TX16) (N := 123) hx hb hts wh_X16_feed_A_X16 hown hK hP 0 rfl rfl 0 (by decide) (hts (.fieldLink RX16 1 "StreamHouseModel" "code" "I") (wm_X16_feed_A 4 rfl)) (fun _ h9 => h9) rfl dX16_feed_A_48 ?_
    refine lv_if_ne (tgt := 85) hx hb dX16_feed_A_51 (by decide) (fun _ => ?_) (fun h9 => absurd h9 (by decide))
    refine lv_aload_n hx hb dX16_feed_A_85 rfl (lv_at hl 1 rfl) ?_
    refine va_get (D := (dC, dI)) (ci := 16) (v := .int 1) (C := RX16) (T := TX16) (N := 123) hx hb hts wh_X16_feed_A_X16 hown hK hP 0 rfl rfl 0 (by decide) (hts (.fieldLink RX16 1 "StreamHouseModel" "code" "I") (wm_X16_feed_A 4 rfl)) (fun _ h9 => h9) rfl dX16_feed_A_86 ?_
    refine lv_if_le (tgt := 96) hx hb dX16_feed_A_89 (by decide) (fun h9 => absurd h9 (by decide)) (fun _ => ?_)
    refine lv_iconst (v := 0) hx hb dX16_feed_A_92 (by decide) ?_
    refine lv_goto (tgt := 100) hx hb dX16_feed_A_93 (by decide) ?_
    have hP9 := hP.sub (ws' := [(h0, .inr (16, [.int 1, m1, m2, .int 0, .int 0, m5, m6, m7, m8, m9, m10, m11, m12, m13, m14, m15, m16, .null, m18, m19, m20, m21, m22, m23, m24, m25, m26, .int 0, m28, m29, .int 0, .int 0, .int 0, m33, m34, m35, .int 0, m37, m38, m39, m40, m41, m42, m43, m44, m45, m46, m47, m48, m49, .int 0, m51, m52, m53, m54, m55, m56, m57, m58, m59, m60, m61, m62, m63, m64, m65, m66, m67, m68, m69, m70, m71, m72, m73, m74, m75, m76, m77, m78, m79, m80, m81, m82, m83, m84, m85, m86, m87, m88, m89, m90, m91, .int 0, .int 0, m94, m95, m96, m97, m98, m99, m100, m101, m102, m103, m104, m105, m106, m107, m108, m109, .long 0, .long 0, .int 0, m113, m114, m115, m116, m117, m118, m119, m120, m121, m122]))]) [0] rfl
    have hD9 := hD.sub (ws' := [(h0, .inr (16, [.int 1, m1, m2, .int 0, .int 0, m5, m6, m7, m8, m9, m10, m11, m12, m13, m14, m15, m16, .null, m18, m19, m20, m21, m22, m23, m24, m25, m26, .int 0, m28, m29, .int 0, .int 0, .int 0, m33, m34, m35, .int 0, m37, m38, m39, m40, m41, m42, m43, m44, m45, m46, m47, m48, m49, .int 0, m51, m52, m53, m54, m55, m56, m57, m58, m59, m60, m61, m62, m63, m64, m65, m66, m67, m68, m69, m70, m71, m72, m73, m74, m75, m76, m77, m78, m79, m80, m81, m82, m83, m84, m85, m86, m87, m88, m89, m90, m91, .int 0, .int 0, m94, m95, m96, m97, m98, m99, m100, m101, m102, m103, m104, m105, m106, m107, m108, m109, .long 0, .long 0, .int 0, m113, m114, m115, m116, m117, m118, m119, m120, m121, m122]))]) [0] (by decide) rfl
    have hK9 := hK.sub (tys' := []) [] rfl
    refine W.widen (k := 0) (n := 0) (by decide) (by decide) ?_
    exact W.iret (v := 0) hx hb hr (fun t ht hW => ⟨⟨0, (), rfl, rfl, by rw [ht]; exact hP9, va_K.moved hW.alike hK9, hD9⟩, hS.F ht⟩) hS.2.2 dX16_feed_A_100

abbrev ar_X16_feed_1 (dC : Nat → ClassId) (dI : Nat → Nat → Nat) (A : Nat → Prop) (h0 h1 : Nat) (g1 : Int64) (cB : ClassId) (f1 : Nat → Int32) (m0 m1 m5 m6 m7 m8 m9 m10 m11 m12 m13 m14 m15 m16 m18 m19 m20 m21 m22 m23 m24 m25 m26 m28 m29 m33 m34 m35 m37 m38 m39 m40 m41 m42 m43 m44 m45 m46 m47 m48 m49 m51 m52 m53 m54 m55 m56 m57 m58 m59 m60 m61 m62 m63 m64 m65 m66 m67 m68 m69 m70 m71 m72 m73 m74 m75 m76 m77 m78 m79 m80 m81 m82 m83 m84 m85 m86 m87 m88 m89 m90 m91 m94 m95 m96 m97 m98 m99 m100 m101 m102 m103 m104 m105 m106 m107 m108 m109 m113 m114 m115 m116 m117 m118 m119 m120 m121 m122 : Value) (_ : Unit) (t : State) : Prop := va_P (dC, dI) vwCl [(h0, .inr (16, [.int 0, m1, .ref h1, .int 1, .int 0, m5, m6, m7, m8, m9, m10, m11, m12, m13, m14, m15, m16, .null, m18, m19, m20, m21, m22, m23, m24, m25, m26, .int 0, m28, m29, .int 0, .int 0, .int 0, m33, m34, m35, .int 0, m37, m38, m39, m40, m41, m42, m43, m44, m45, m46, m47, m48, m49, .int 0, m51, m52, m53, m54, m55, m56, m57, m58, m59, m60, m61, m62, m63, m64, m65, m66, m67, m68, m69, m70, m71, m72, m73, m74, m75, m76, m77, m78, m79, m80, m81, m82, m83, m84, m85, m86, m87, m88, m89, m90, m91, .int 0, .int 0, m94, m95, m96, m97, m98, m99, m100, m101, m102, m103, m104, m105, m106, m107, m108, m109, .long 0, .long 0, .int 0, m113, m114, m115, m116, m117, m118, m119, m120, m121, m122]))] t.heap ∧ va_K (dC, dI) vwCl [] t ∧ va_D A [(h0, .inr (16, [.int 0, m1, .ref h1, .int 1, .int 0, m5, m6, m7, m8, m9, m10, m11, m12, m13, m14, m15, m16, .null, m18, m19, m20, m21, m22, m23, m24, m25, m26, .int 0, m28, m29, .int 0, .int 0, .int 0, m33, m34, m35, .int 0, m37, m38, m39, m40, m41, m42, m43, m44, m45, m46, m47, m48, m49, .int 0, m51, m52, m53, m54, m55, m56, m57, m58, m59, m60, m61, m62, m63, m64, m65, m66, m67, m68, m69, m70, m71, m72, m73, m74, m75, m76, m77, m78, m79, m80, m81, m82, m83, m84, m85, m86, m87, m88, m89, m90, m91, .int 0, .int 0, m94, m95, m96, m97, m98, m99, m100, m101, m102, m103, m104, m105, m106, m107, m108, m109, .long 0, .long 0, .int 0, m113, m114, m115, m116, m117, m118, m119, m120, m121, m122]))]
theorem dX16_feed_1_0 : decode cX16_feed 0 = .ok (.aload_n 0, 1) := by decide +kernel
theorem dX16_feed_1_1 : decode cX16_feed 1 = .ok (.iload_n 3, 1) := by decide +kernel
theorem dX16_feed_1_2 : decode cX16_feed 2 = .ok (.i2l, 1) := by decide +kernel
theorem dX16_feed_1_3 : decode cX16_feed 3 = .ok (.lconst 1, 1) := by decide +kernel
theorem dX16_feed_1_4 : decode cX16_feed 4 = .ok (.ldc2_w 250, 3) := by decide +kernel
theorem dX16_feed_1_7 : decode cX16_feed 7 = .ok (.invokestatic 45, 3) := by decide +kernel
theorem dX16_feed_1_10 : decode cX16_feed 10 = .ok (.ifCond .ne 7, 3) := by decide +kernel
theorem dX16_feed_1_17 : decode cX16_feed 17 = .ok (.aload_n 0, 1) := by decide +kernel
theorem dX16_feed_1_18 : decode cX16_feed 18 = .ok (.getfield 972, 3) := by decide +kernel
theorem dX16_feed_1_21 : decode cX16_feed 21 = .ok (.iload_n 3, 1) := by decide +kernel
theorem dX16_feed_1_22 : decode cX16_feed 22 = .ok (.iadd, 1) := by decide +kernel
theorem dX16_feed_1_23 : decode cX16_feed 23 = .ok (.sipush 1500, 3) := by decide +kernel
theorem dX16_feed_1_26 : decode cX16_feed 26 = .ok (.if_icmp .le 7, 3) := by decide +kernel
theorem dX16_feed_1_33 : decode cX16_feed 33 = .ok (.iconst 0, 1) := by decide +kernel
theorem dX16_feed_1_34 : decode cX16_feed 34 = .ok (.putfield 1, 3) := by decide +kernel
theorem dX16_feed_1_37 : decode cX16_feed 37 = .ok (.iload_n 3, 1) := by decide +kernel
theorem dX16_feed_1_38 : decode cX16_feed 38 = .ok (.iconst 1, 1) := by decide +kernel
theorem dX16_feed_1_39 : decode cX16_feed 39 = .ok (.isub, 1) := by decide +kernel
theorem dX16_feed_1_40 : decode cX16_feed 40 = .ok (.istore 4, 2) := by decide +kernel
theorem dX16_feed_1_42 : decode cX16_feed 42 = .ok (.iload 4, 2) := by decide +kernel
theorem dX16_feed_1_44 : decode cX16_feed 44 = .ok (.ifCond .lt 41, 3) := by decide +kernel
theorem dX16_feed_1_47 : decode cX16_feed 47 = .ok (.aload_n 0, 1) := by decide +kernel
theorem dX16_feed_1_48 : decode cX16_feed 48 = .ok (.getfield 1, 3) := by decide +kernel
theorem dX16_feed_1_51 : decode cX16_feed 51 = .ok (.ifCond .ne 34, 3) := by decide +kernel
theorem dX16_feed_1_54 : decode cX16_feed 54 = .ok (.aload_n 0, 1) := by decide +kernel
theorem dX16_feed_1_55 : decode cX16_feed 55 = .ok (.getfield 20, 3) := by decide +kernel
theorem dX16_feed_1_58 : decode cX16_feed 58 = .ok (.aload_n 0, 1) := by decide +kernel
theorem dX16_feed_1_59 : decode cX16_feed 59 = .ok (.dup, 1) := by decide +kernel
theorem dX16_feed_1_60 : decode cX16_feed 60 = .ok (.getfield 972, 3) := by decide +kernel
theorem dX16_feed_1_63 : decode cX16_feed 63 = .ok (.dup_x1, 1) := by decide +kernel
theorem dX16_feed_1_64 : decode cX16_feed 64 = .ok (.iconst 1, 1) := by decide +kernel
theorem dX16_feed_1_65 : decode cX16_feed 65 = .ok (.iadd, 1) := by decide +kernel
theorem dX16_feed_1_66 : decode cX16_feed 66 = .ok (.putfield 972, 3) := by decide +kernel
theorem dX16_feed_1_69 : decode cX16_feed 69 = .ok (.lload_n 1, 1) := by decide +kernel
theorem dX16_feed_1_70 : decode cX16_feed 70 = .ok (.bipush 8, 2) := by decide +kernel
theorem dX16_feed_1_72 : decode cX16_feed 72 = .ok (.iload 4, 2) := by decide +kernel
theorem dX16_feed_1_74 : decode cX16_feed 74 = .ok (.imul, 1) := by decide +kernel
theorem dX16_feed_1_75 : decode cX16_feed 75 = .ok (.lshr, 1) := by decide +kernel
theorem dX16_feed_1_76 : decode cX16_feed 76 = .ok (.l2i, 1) := by decide +kernel
theorem dX16_feed_1_77 : decode cX16_feed 77 = .ok (.i2b, 1) := by decide +kernel
theorem dX16_feed_1_78 : decode cX16_feed 78 = .ok (.bastore, 1) := by decide +kernel
theorem dX16_feed_1_79 : decode cX16_feed 79 = .ok (.iinc 4 (-1), 3) := by decide +kernel
theorem dX16_feed_1_82 : decode cX16_feed 82 = .ok (.goto (-40), 3) := by decide +kernel
theorem dX16_feed_1_85 : decode cX16_feed 85 = .ok (.aload_n 0, 1) := by decide +kernel
theorem dX16_feed_1_86 : decode cX16_feed 86 = .ok (.getfield 1, 3) := by decide +kernel
theorem dX16_feed_1_89 : decode cX16_feed 89 = .ok (.ifCond .le 7, 3) := by decide +kernel
theorem dX16_feed_1_96 : decode cX16_feed 96 = .ok (.aload_n 0, 1) := by decide +kernel
theorem dX16_feed_1_97 : decode cX16_feed 97 = .ok (.getfield 972, 3) := by decide +kernel
theorem dX16_feed_1_100 : decode cX16_feed 100 = .ok (.ireturn, 1) := by decide +kernel
def ww_X16_feed_1 : List Cond := [.constantLong RX16 250 8, .initialized RX16, .methodLink RX16 45 yX16_within, .static yX16_within, .fieldLink RX16 972 "StreamHouseModel" "taped" "I", .fieldLink RX16 1 "StreamHouseModel" "code" "I", .fieldLink RX16 20 "StreamHouseModel" "tape" "[B"]
def wv_X16_feed_1 : List Cond := .code yX16_feed cX16_feed 5 (some .int) :: (ww_X16_feed_1 ++ (wv_X16_within_1 ++ (u_ws RX16 TX16 123 ++ [])))
theorem wm_X16_feed_1 {w : Cond} (i : Nat) (h : ww_X16_feed_1[i]? = some w) : w ∈ wv_X16_feed_1 := List.mem_cons_of_mem _ (List.mem_append_left _ (List.mem_of_getElem? h))
set_option maxRecDepth 100000 in
theorem gw_X16_feed_1 : wv_X16_feed_1.all goodWord = true := by decide +kernel
theorem wg_X16_feed_1_X16_within_1 : GoodIn wv_X16_feed_1 wv_X16_within_1 := goodIn_sub (fun w h => List.mem_cons_of_mem _ (List.mem_append_right _ (List.mem_append_left _ h))) gw_X16_within_1
theorem wt_X16_feed_1_X16_within_1 : GoodIn wv_X16_feed_1 (va_wsS RX16 45 yX16_within wv_X16_within_1) := goodIn_app (goodIn_sub (fun w h => by simp only [List.mem_cons, List.not_mem_nil, or_false] at h; rcases h with rfl | rfl | rfl <;> first | exact wm_X16_feed_1 2 rfl | exact wm_X16_feed_1 3 rfl | exact wm_X16_feed_1 1 rfl) (by decide +kernel)) wg_X16_feed_1_X16_within_1
theorem wh_X16_feed_1_X16 : ∀ w ∈ u_ws RX16 TX16 123, w ∈ wv_X16_feed_1 := fun w h => List.mem_cons_of_mem _ (List.mem_append_right _ (List.mem_append_right _ (List.mem_append_left _ h)))
set_option maxHeartbeats 4000000 in
set_option maxRecDepth 100000 in
/-- feed(g, 1) of the fresh reference -/
theorem r_X16_feed_1 (l : Launch) (dC : Nat → ClassId) (dI : Nat → Nat → Nat) (h0 h1 : Nat) (g1 : Int64) (cB : ClassId) (f1 : Nat → Int32) (m0 m1 m5 m6 m7 m8 m9 m10 m11 m12 m13 m14 m15 m16 m18 m19 m20 m21 m22 m23 m24 m25 m26 m28 m29 m33 m34 m35 m37 m38 m39 m40 m41 m42 m43 m44 m45 m46 m47 m48 m49 m51 m52 m53 m54 m55 m56 m57 m58 m59 m60 m61 m62 m63 m64 m65 m66 m67 m68 m69 m70 m71 m72 m73 m74 m75 m76 m77 m78 m79 m80 m81 m82 m83 m84 m85 m86 m87 m88 m89 m90 m91 m94 m95 m96 m97 m98 m99 m100 m101 m102 m103 m104 m105 m106 m107 m108 m109 m113 m114 m115 m116 m117 m118 m119 m120 m121 m122 : Value) (sz : Nat) : Met l yX16_feed wv_X16_feed_1 ({ frames := 1, cells := 0, slots := 0, locals := 25 }) (va_Pc [.ref h0, .long g1, .int 1] (fun U => U.heap.size = sz ∧ va_P (dC, dI) vwCl [(h0, .inr (16, [m0, m1, .ref h1, .int 0, .int 0, m5, m6, m7, m8, m9, m10, m11, m12, m13, m14, m15, m16, .null, m18, m19, m20, m21, m22, m23, m24, m25, m26, .int 0, m28, m29, .int 0, .int 0, .int 0, m33, m34, m35, .int 0, m37, m38, m39, m40, m41, m42, m43, m44, m45, m46, m47, m48, m49, .int 0, m51, m52, m53, m54, m55, m56, m57, m58, m59, m60, m61, m62, m63, m64, m65, m66, m67, m68, m69, m70, m71, m72, m73, m74, m75, m76, m77, m78, m79, m80, m81, m82, m83, m84, m85, m86, m87, m88, m89, m90, m91, .int 0, .int 0, m94, m95, m96, m97, m98, m99, m100, m101, m102, m103, m104, m105, m106, m107, m108, m109, .long 0, .long 0, .int 0, m113, m114, m115, m116, m117, m118, m119, m120, m121, m122])), (h1, .inl (cB, 1500, .inl f1))] U.heap ∧ va_K (dC, dI) vwCl [(cB, .byte)] U ∧ va_D (fun _ => True) [(h0, .inr (16, [m0, m1, .ref h1, .int 0, .int 0, m5, m6, m7, m8, m9, m10, m11, m12, m13, m14, m15, m16, .null, m18, m19, m20, m21, m22, m23, m24, m25, m26, .int 0, m28, m29, .int 0, .int 0, .int 0, m33, m34, m35, .int 0, m37, m38, m39, m40, m41, m42, m43, m44, m45, m46, m47, m48, m49, .int 0, m51, m52, m53, m54, m55, m56, m57, m58, m59, m60, m61, m62, m63, m64, m65, m66, m67, m68, m69, m70, m71, m72, m73, m74, m75, m76, m77, m78, m79, m80, m81, m82, m83, m84, m85, m86, m87, m88, m89, m90, m91, .int 0, .int 0, m94, m95, m96, m97, m98, m99, m100, m101, m102, m103, m104, m105, m106, m107, m108, m109, .long 0, .long 0, .int 0, m113, m114, m115, m116, m117, m118, m119, m120, m121, m122])), (h1, .inl (cB, 1500, .inl f1))])) (va_Qi (fun r (_ : Unit) => r = 1) (ar_X16_feed_1 dC dI (va_A [(h0, .inr (16, [m0, m1, .ref h1, .int 0, .int 0, m5, m6, m7, m8, m9, m10, m11, m12, m13, m14, m15, m16, .null, m18, m19, m20, m21, m22, m23, m24, m25, m26, .int 0, m28, m29, .int 0, .int 0, .int 0, m33, m34, m35, .int 0, m37, m38, m39, m40, m41, m42, m43, m44, m45, m46, m47, m48, m49, .int 0, m51, m52, m53, m54, m55, m56, m57, m58, m59, m60, m61, m62, m63, m64, m65, m66, m67, m68, m69, m70, m71, m72, m73, m74, m75, m76, m77, m78, m79, m80, m81, m82, m83, m84, m85, m86, m87, m88, m89, m90, m91, .int 0, .int 0, m94, m95, m96, m97, m98, m99, m100, m101, m102, m103, m104, m105, m106, m107, m108, m109, .long 0, .long 0, .int 0, m113, m114, m115, m116, m117, m118, m119, m120, m121, m122])), (h1, .inl (cB, 1500, .inl f1))] sz) h0 h1 g1 cB f1 m0 m1 m5 m6 m7 m8 m9 m10 m11 m12 m13 m14 m15 m16 m18 m19 m20 m21 m22 m23 m24 m25 m26 m28 m29 m33 m34 m35 m37 m38 m39 m40 m41 m42 m43 m44 m45 m46 m47 m48 m49 m51 m52 m53 m54 m55 m56 m57 m58 m59 m60 m61 m62 m63 m64 m65 m66 m67 m68 m69 m70 m71 m72 m73 m74 m75 m76 m77 m78 m79 m80 m81 m82 m83 m84 m85 m86 m87 m88 m89 m90 m91 m94 m95 m96 m97 m98 m99 m100 m101 m102 m103 m104 m105 m106 m107 m108 m109 m113 m114 m115 m116 m117 m118 m119 m120 m121 m122) (va_A [(h0, .inr (16, [m0, m1, .ref h1, .int 0, .int 0, m5, m6, m7, m8, m9, m10, m11, m12, m13, m14, m15, m16, .null, m18, m19, m20, m21, m22, m23, m24, m25, m26, .int 0, m28, m29, .int 0, .int 0, .int 0, m33, m34, m35, .int 0, m37, m38, m39, m40, m41, m42, m43, m44, m45, m46, m47, m48, m49, .int 0, m51, m52, m53, m54, m55, m56, m57, m58, m59, m60, m61, m62, m63, m64, m65, m66, m67, m68, m69, m70, m71, m72, m73, m74, m75, m76, m77, m78, m79, m80, m81, m82, m83, m84, m85, m86, m87, m88, m89, m90, m91, .int 0, .int 0, m94, m95, m96, m97, m98, m99, m100, m101, m102, m103, m104, m105, m106, m107, m108, m109, .long 0, .long 0, .int 0, m113, m114, m115, m116, m117, m118, m119, m120, m121, m122])), (h1, .inl (cB, 1500, .inl f1))] sz)) 0 0 (va_A [(h0, .inr (16, [m0, m1, .ref h1, .int 0, .int 0, m5, m6, m7, m8, m9, m10, m11, m12, m13, m14, m15, m16, .null, m18, m19, m20, m21, m22, m23, m24, m25, m26, .int 0, m28, m29, .int 0, .int 0, .int 0, m33, m34, m35, .int 0, m37, m38, m39, m40, m41, m42, m43, m44, m45, m46, m47, m48, m49, .int 0, m51, m52, m53, m54, m55, m56, m57, m58, m59, m60, m61, m62, m63, m64, m65, m66, m67, m68, m69, m70, m71, m72, m73, m74, m75, m76, m77, m78, m79, m80, m81, m82, m83, m84, m85, m86, m87, m88, m89, m90, m91, .int 0, .int 0, m94, m95, m96, m97, m98, m99, m100, m101, m102, m103, m104, m105, m106, m107, m108, m109, .long 0, .long 0, .int 0, m113, m114, m115, m116, m117, m118, m119, m120, m121, m122])), (h1, .inl (cB, 1500, .inl f1))] sz) := by
  refine Met.ofW (cc := cX16_feed) (maxL := 5) (ret := (some .int)) (by decide) rfl ?_
  intro p e s m args below meth c s₁ B hml hv
  obtain ⟨rfl, hsz, hP, hK, hD0⟩ := hv
  have hx := B.exec
  have hb := B.bytes
  have hr := B.returns
  have hts := atoms_spec (ws := wv_X16_feed_1) B.pre
  have hown : s.vm.findClass RX16 = some m.cls := findClass_of_methodNamed B.named
  have hlocks := B.notSynchronized
  subst hsz
  have hD := hD0.self (sz := s.heap.size)
  generalize hAe : va_A [(h0, .inr (16, [m0, m1, .ref h1, .int 0, .int 0, m5, m6, m7, m8, m9, m10, m11, m12, m13, m14, m15, m16, .null, m18, m19, m20, m21, m22, m23, m24, m25, m26, .int 0, m28, m29, .int 0, .int 0, .int 0, m33, m34, m35, .int 0, m37, m38, m39, m40, m41, m42, m43, m44, m45, m46, m47, m48, m49, .int 0, m51, m52, m53, m54, m55, m56, m57, m58, m59, m60, m61, m62, m63, m64, m65, m66, m67, m68, m69, m70, m71, m72, m73, m74, m75, m76, m77, m78, m79, m80, m81, m82, m83, m84, m85, m86, m87, m88, m89, m90, m91, .int 0, .int 0, m94, m95, m96, m97, m98, m99, m100, m101, m102, m103, m104, m105, m106, m107, m108, m109, .long 0, .long 0, .int 0, m113, m114, m115, m116, m117, m118, m119, m120, m121, m122])), (h1, .inl (cB, 1500, .inl f1))] s.heap.size = A at hD ⊢
  have hA : ∀ q : Nat, s.heap.size ≤ q → A q := fun q h => by rw [← hAe]; exact Or.inr h
  have hS : va_S A s.heap s.heap [] := va_S.rf
  have hP : va_P (dC, dI) vwCl [(h0, .inr (16, [m0, m1, .ref h1, .int 0, .int 0, m5, m6, m7, m8, m9, m10, m11, m12, m13, m14, m15, m16, .null, m18, m19, m20, m21, m22, m23, m24, m25, m26, .int 0, m28, m29, .int 0, .int 0, .int 0, m33, m34, m35, .int 0, m37, m38, m39, m40, m41, m42, m43, m44, m45, m46, m47, m48, m49, .int 0, m51, m52, m53, m54, m55, m56, m57, m58, m59, m60, m61, m62, m63, m64, m65, m66, m67, m68, m69, m70, m71, m72, m73, m74, m75, m76, m77, m78, m79, m80, m81, m82, m83, m84, m85, m86, m87, m88, m89, m90, m91, .int 0, .int 0, m94, m95, m96, m97, m98, m99, m100, m101, m102, m103, m104, m105, m106, m107, m108, m109, .long 0, .long 0, .int 0, m113, m114, m115, m116, m117, m118, m119, m120, m121, m122])), (h1, .inl (cB, 1500, .inl f1))] s.heap := hP
  have hl := lv_entry ([.ref h0, .long g1, .int 1]) (n := 5) (Nat.le_of_ble_eq_true rfl)
  rw [lg_entry_eq]
  generalize (lg_sl ([.ref h0, .long g1, .int 1]) ++ List.replicate (5 - (lg_sl ([.ref h0, .long g1, .int 1])).length) Slot.unset).toArray = ls at hl ⊢
  have hl : lv_has ls 5 [(0, .ref h0), (1, .long g1), (3, .int 1)] := hl
  refine lv_aload_n hx hb dX16_feed_1_0 rfl (lv_at hl 0 rfl) ?_
  refine lv_iload_n hx hb dX16_feed_1_1 rfl (lv_at hl 2 rfl) ?_
  refine lv_i2l (v := 1) hx hb dX16_feed_1_2 (by decide) ?_
  refine lv_lconst (v := 1) hx hb dX16_feed_1_3 (by decide) ?_
  refine lv_ldc2 hx hb hown (hts (.constantLong RX16 250 8) (wm_X16_feed_1 0 rfl)) dX16_feed_1_4 ?_
  have hPc := hP.sub (ws' := []) [] rfl
  have hDc := hD.sub (ws' := []) [] (by decide) rfl
  have hKc := hK.sub (tys' := []) [] rfl
  have hFc := va_free (wc := []) hD hS hA [] rfl
  have h_1 : 0 ≤ 0 := by decide
  have h_2 : 0 ≤ 0 := by decide
  refine va_calli (va_runS (As := [.long 1, .long 1, .long 8]) (rest := [.ref h0]) ⟨hx, hb, hml, hown, hts⟩ (r_X16_within_1 l dC dI 1 1 8 _) (va_cwS 3 hts wt_X16_feed_1_X16_within_1 rfl rfl rfl (by decide +kernel) ⟨Nat.le_of_ble_eq_true rfl, Nat.le_of_ble_eq_true rfl⟩) ⟨fun a U g mk q => by obtain ⟨q0, q1, qP, qK, qD, qp⟩ := q; exact ⟨q0, q1, qP, va_K.moved (u := U) (U := U.calling g mk a) (Vm.Alike.refl U.vm) qK, qD, qp⟩, fun U hU hW => ⟨rfl, by rw [hU], by rw [hU]; exact hPc, va_K.moved hW.alike hKc, hDc.weaken (fun _ _ _ _ => trivial), ⟨by decide, by decide⟩⟩⟩ rfl rfl hl.1 rfl (lv_room (Nat.le_of_ble_eq_true rfl)) dX16_feed_1_7 ⟨h_1, h_2⟩) hS (fun q _ h => hFc q h) hFc (fun y4 u3 t H1 locs ht hvm hw hB hz1 hk1 hS => ?_)
  obtain ⟨hP1, hK1, hD1⟩ := hB
  rw [ht] at hP1
  have hK1 := va_K.moved hvm.symm hK1
  obtain ⟨hP, hD⟩ := va_join (wr := [(h0, .inr (16, [m0, m1, .ref h1, .int 0, .int 0, m5, m6, m7, m8, m9, m10, m11, m12, m13, m14, m15, m16, .null, m18, m19, m20, m21, m22, m23, m24, m25, m26, .int 0, m28, m29, .int 0, .int 0, .int 0, m33, m34, m35, .int 0, m37, m38, m39, m40, m41, m42, m43, m44, m45, m46, m47, m48, m49, .int 0, m51, m52, m53, m54, m55, m56, m57, m58, m59, m60, m61, m62, m63, m64, m65, m66, m67, m68, m69, m70, m71, m72, m73, m74, m75, m76, m77, m78, m79, m80, m81, m82, m83, m84, m85, m86, m87, m88, m89, m90, m91, .int 0, .int 0, m94, m95, m96, m97, m98, m99, m100, m101, m102, m103, m104, m105, m106, m107, m108, m109, .long 0, .long 0, .int 0, m113, m114, m115, m116, m117, m118, m119, m120, m121, m122])), (h1, .inl (cB, 1500, .inl f1))]) (w1 := []) hP hD [] [0, 1] rfl rfl (by decide) (by decide) hk1 hFc hP1 hD1
  have hK := (hK.sub (tys' := [(cB, .byte)]) [0] rfl).app hK1
  generalize H1 = H at hP hS ⊢
  have hP : va_P (dC, dI) vwCl [(h0, .inr (16, [m0, m1, .ref h1, .int 0, .int 0, m5, m6, m7, m8, m9, m10, m11, m12, m13, m14, m15, m16, .null, m18, m19, m20, m21, m22, m23, m24, m25, m26, .int 0, m28, m29, .int 0, .int 0, .int 0, m33, m34, m35, .int 0, m37, m38, m39, m40, m41, m42, m43, m44, m45, m46, m47, m48, m49, .int 0, m51, m52, m53, m54, m55, m56, m57, m58, m59, m60, m61, m62, m63, m64, m65, m66, m67, m68, m69, m70, m71, m72, m73, m74, m75, m76, m77, m78, m79, m80, m81, m82, m83, m84, m85, m86, m87, m88, m89, m90, m91, .int 0, .int 0, m94, m95, m96, m97, m98, m99, m100, m101, m102, m103, m104, m105, m106, m107, m108, m109, .long 0, .long 0, .int 0, m113, m114, m115, m116, m117, m118, m119, m120, m121, m122])), (h1, .inl (cB, 1500, .inl f1))] H := hP
  have hD : va_D A [(h0, .inr (16, [m0, m1, .ref h1, .int 0, .int 0, m5, m6, m7, m8, m9, m10, m11, m12, m13, m14, m15, m16, .null, m18, m19, m20, m21, m22, m23, m24, m25, m26, .int 0, m28, m29, .int 0, .int 0, .int 0, m33, m34, m35, .int 0, m37, m38, m39, m40, m41, m42, m43, m44, m45, m46, m47, m48, m49, .int 0, m51, m52, m53, m54, m55, m56, m57, m58, m59, m60, m61, m62, m63, m64, m65, m66, m67, m68, m69, m70, m71, m72, m73, m74, m75, m76, m77, m78, m79, m80, m81, m82, m83, m84, m85, m86, m87, m88, m89, m90, m91, .int 0, .int 0, m94, m95, m96, m97, m98, m99, m100, m101, m102, m103, m104, m105, m106, m107, m108, m109, .long 0, .long 0, .int 0, m113, m114, m115, m116, m117, m118, m119, m120, m121, m122])), (h1, .inl (cB, 1500, .inl f1))] := hD
  have hK : va_K (dC, dI) vwCl [(cB, .byte)] s := hK
  refine W.widen (k := 0) (n := 0) (by decide) (by decide) ?_
  have hw : y4 = 1 := hw
  subst hw
  refine lv_if_ne (tgt := 17) hx hb dX16_feed_1_10 (by decide) (fun _ => ?_) (fun h9 => absurd h9 (by decide))
  refine lv_aload_n hx hb dX16_feed_1_17 rfl (lv_at hl 0 rfl) ?_
  refine va_get (D := (dC, dI)) (ci := 16) (v := .int 0) (C := RX16) (T := TX16) (N := 123) hx hb hts wh_X16_feed_1_X16 hown hK hP 0 rfl rfl 3 (by decide) (hts (.fieldLink RX16 972 "StreamHouseModel" "taped" "I") (wm_X16_feed_1 4 rfl)) (fun _ h9 => h9) rfl dX16_feed_1_18 ?_
  refine lv_iload_n hx hb dX16_feed_1_21 rfl (lv_at hl 2 rfl) ?_
  refine lv_iadd hx hb dX16_feed_1_22 ?_
  refine W.eq (g2 := F0 m 23 ls [.int 1, .ref h0]) rfl ?_
  refine lv_sipush (v := 1500) hx hb dX16_feed_1_23 (by decide) ?_
  refine lv_icmp_le (tgt := 33) hx hb dX16_feed_1_26 (by decide) (fun _ => ?_) (fun h9 => absurd (by decide) h9)
  refine lv_iconst (v := 0) hx hb dX16_feed_1_33 (by decide) ?_
  refine va_put (D := (dC, dI)) (ci := 16) (v := .int 0) (ty := .int) (C := RX16) (T := TX16) (N := 123) hx hb hts wh_X16_feed_1_X16 tyX16 tyX16_ok nmX16 hown hK hP hD hS 0 rfl rfl 0 (by decide) (hts (.fieldLink RX16 1 "StreamHouseModel" "code" "I") (wm_X16_feed_1 5 rfl)) (fun _ h9 => h9) rfl (by decide +kernel) rfl rfl (Nat.le_of_ble_eq_true rfl) dX16_feed_1_34 (fun H locs hP hD hS => ?_)
  have hP : va_P (dC, dI) vwCl [(h0, .inr (16, [.int 0, m1, .ref h1, .int 0, .int 0, m5, m6, m7, m8, m9, m10, m11, m12, m13, m14, m15, m16, .null, m18, m19, m20, m21, m22, m23, m24, m25, m26, .int 0, m28, m29, .int 0, .int 0, .int 0, m33, m34, m35, .int 0, m37, m38, m39, m40, m41, m42, m43, m44, m45, m46, m47, m48, m49, .int 0, m51, m52, m53, m54, m55, m56, m57, m58, m59, m60, m61, m62, m63, m64, m65, m66, m67, m68, m69, m70, m71, m72, m73, m74, m75, m76, m77, m78, m79, m80, m81, m82, m83, m84, m85, m86, m87, m88, m89, m90, m91, .int 0, .int 0, m94, m95, m96, m97, m98, m99, m100, m101, m102, m103, m104, m105, m106, m107, m108, m109, .long 0, .long 0, .int 0, m113, m114, m115, m116, m117, m118, m119, m120, m121, m122])), (h1, .inl (cB, 1500, .inl f1))] H := hP
  have hD : va_D A [(h0, .inr (16, [.int 0, m1, .ref h1, .int 0, .int 0, m5, m6, m7, m8, m9, m10, m11, m12, m13, m14, m15, m16, .null, m18, m19, m20, m21, m22, m23, m24, m25, m26, .int 0, m28, m29, .int 0, .int 0, .int 0, m33, m34, m35, .int 0, m37, m38, m39, m40, m41, m42, m43, m44, m45, m46, m47, m48, m49, .int 0, m51, m52, m53, m54, m55, m56, m57, m58, m59, m60, m61, m62, m63, m64, m65, m66, m67, m68, m69, m70, m71, m72, m73, m74, m75, m76, m77, m78, m79, m80, m81, m82, m83, m84, m85, m86, m87, m88, m89, m90, m91, .int 0, .int 0, m94, m95, m96, m97, m98, m99, m100, m101, m102, m103, m104, m105, m106, m107, m108, m109, .long 0, .long 0, .int 0, m113, m114, m115, m116, m117, m118, m119, m120, m121, m122])), (h1, .inl (cB, 1500, .inl f1))] := hD
  refine lv_iload_n hx hb dX16_feed_1_37 rfl (lv_at hl 2 rfl) ?_
  refine lv_iconst (v := 1) hx hb dX16_feed_1_38 (by decide) ?_
  refine lv_isub hx hb dX16_feed_1_39 ?_
  refine W.eq (g2 := F0 m 40 ls [.int 0]) rfl ?_
  refine lv_istore (lv' := [(4, .int 0), (0, .ref h0), (1, .long g1), (3, .int 1)]) hx hb dX16_feed_1_40 hl (by decide) rfl (fun ls hl => ?_)
  refine lv_iload hx hb dX16_feed_1_42 (lv_at hl 0 rfl) ?_
  refine lv_if_lt (tgt := 85) hx hb dX16_feed_1_44 (by decide) (fun h9 => absurd h9 (by decide)) (fun _ => ?_)
  refine lv_aload_n hx hb dX16_feed_1_47 rfl (lv_at hl 1 rfl) ?_
  refine va_get (D := (dC, dI)) (ci := 16) (v := .int 0) (C := RX16) (T := TX16) (N := 123) hx hb hts wh_X16_feed_1_X16 hown hK hP 0 rfl rfl 0 (by decide) (hts (.fieldLink RX16 1 "StreamHouseModel" "code" "I") (wm_X16_feed_1 5 rfl)) (fun _ h9 => h9) rfl dX16_feed_1_48 ?_
  refine lv_if_ne (tgt := 85) hx hb dX16_feed_1_51 (by decide) (fun h9 => absurd (by decide) h9) (fun _ => ?_)
  refine lv_aload_n hx hb dX16_feed_1_54 rfl (lv_at hl 1 rfl) ?_
  refine va_get (D := (dC, dI)) (ci := 16) (v := .ref h1) (C := RX16) (T := TX16) (N := 123) hx hb hts wh_X16_feed_1_X16 hown hK hP 0 rfl rfl 2 (by decide) (hts (.fieldLink RX16 20 "StreamHouseModel" "tape" "[B") (wm_X16_feed_1 6 rfl)) (fun _ h9 => h9) rfl dX16_feed_1_55 ?_
  refine lv_aload_n hx hb dX16_feed_1_58 rfl (lv_at hl 1 rfl) ?_
  refine lv_dup hx hb dX16_feed_1_59 rfl ?_
  refine va_get (D := (dC, dI)) (ci := 16) (v := .int 0) (C := RX16) (T := TX16) (N := 123) hx hb hts wh_X16_feed_1_X16 hown hK hP 0 rfl rfl 3 (by decide) (hts (.fieldLink RX16 972 "StreamHouseModel" "taped" "I") (wm_X16_feed_1 4 rfl)) (fun _ h9 => h9) rfl dX16_feed_1_60 ?_
  refine lv_dup_x1 hx hb dX16_feed_1_63 rfl rfl ?_
  refine lv_iconst (v := 1) hx hb dX16_feed_1_64 (by decide) ?_
  refine lv_iadd hx hb dX16_feed_1_65 ?_
  refine W.eq (g2 := F0 m 66 ls [.int 1, .ref h0, .int 0, .ref h1]) rfl ?_
  refine va_put (D := (dC, dI)) (ci := 16) (v := .int 1) (ty := .int) (C := RX16) (T := TX16) (N := 123) hx hb hts wh_X16_feed_1_X16 tyX16 tyX16_ok nmX16 hown hK hP hD hS 0 rfl rfl 3 (by decide) (hts (.fieldLink RX16 972 "StreamHouseModel" "taped" "I") (wm_X16_feed_1 4 rfl)) (fun _ h9 => h9) rfl (by decide +kernel) rfl rfl (Nat.le_of_ble_eq_true rfl) dX16_feed_1_66 (fun H locs hP hD hS => ?_)
  have hP : va_P (dC, dI) vwCl [(h0, .inr (16, [.int 0, m1, .ref h1, .int 1, .int 0, m5, m6, m7, m8, m9, m10, m11, m12, m13, m14, m15, m16, .null, m18, m19, m20, m21, m22, m23, m24, m25, m26, .int 0, m28, m29, .int 0, .int 0, .int 0, m33, m34, m35, .int 0, m37, m38, m39, m40, m41, m42, m43, m44, m45, m46, m47, m48, m49, .int 0, m51, m52, m53, m54, m55, m56, m57, m58, m59, m60, m61, m62, m63, m64, m65, m66, m67, m68, m69, m70, m71, m72, m73, m74, m75, m76, m77, m78, m79, m80, m81, m82, m83, m84, m85, m86, m87, m88, m89, m90, m91, .int 0, .int 0, m94, m95, m96, m97, m98, m99, m100, m101, m102, m103, m104, m105, m106, m107, m108, m109, .long 0, .long 0, .int 0, m113, m114, m115, m116, m117, m118, m119, m120, m121, m122])), (h1, .inl (cB, 1500, .inl f1))] H := hP
  have hD : va_D A [(h0, .inr (16, [.int 0, m1, .ref h1, .int 1, .int 0, m5, m6, m7, m8, m9, m10, m11, m12, m13, m14, m15, m16, .null, m18, m19, m20, m21, m22, m23, m24, m25, m26, .int 0, m28, m29, .int 0, .int 0, .int 0, m33, m34, m35, .int 0, m37, m38, m39, m40, m41, m42, m43, m44, m45, m46, m47, m48, m49, .int 0, m51, m52, m53, m54, m55, m56, m57, m58, m59, m60, m61, m62, m63, m64, m65, m66, m67, m68, m69, m70, m71, m72, m73, m74, m75, m76, m77, m78, m79, m80, m81, m82, m83, m84, m85, m86, m87, m88, m89, m90, m91, .int 0, .int 0, m94, m95, m96, m97, m98, m99, m100, m101, m102, m103, m104, m105, m106, m107, m108, m109, .long 0, .long 0, .int 0, m113, m114, m115, m116, m117, m118, m119, m120, m121, m122])), (h1, .inl (cB, 1500, .inl f1))] := hD
  refine lv_lload_n hx hb dX16_feed_1_69 rfl (lv_at hl 2 rfl) ?_
  refine lv_bipush (v := 8) hx hb dX16_feed_1_70 (by decide) ?_
  refine lv_iload hx hb dX16_feed_1_72 (lv_at hl 0 rfl) ?_
  refine lv_imul hx hb dX16_feed_1_74 ?_
  refine W.eq (g2 := F0 m 75 ls [.int 0, .long g1, .int 0, .ref h1]) rfl ?_
  refine lv_lshr (v := _) hx hb dX16_feed_1_75 rfl ?_
  refine lv_topl (fun y5 _ => ?_)
  refine lv_l2i (v := _) hx hb dX16_feed_1_76 rfl ?_
  refine lv_topi (fun y6 _ => ?_)
  refine lv_i2b (v := _) hx hb dX16_feed_1_77 rfl ?_
  refine lv_topi (fun y7 _ => ?_)
  refine va_bast hx hb hK hP hD hS 1 0 rfl rfl (by unfold vp_in; decide) dX16_feed_1_78 (fun H locs hP hD hS => ?_)
  have hP : va_P (dC, dI) vwCl [(h0, .inr (16, [.int 0, m1, .ref h1, .int 1, .int 0, m5, m6, m7, m8, m9, m10, m11, m12, m13, m14, m15, m16, .null, m18, m19, m20, m21, m22, m23, m24, m25, m26, .int 0, m28, m29, .int 0, .int 0, .int 0, m33, m34, m35, .int 0, m37, m38, m39, m40, m41, m42, m43, m44, m45, m46, m47, m48, m49, .int 0, m51, m52, m53, m54, m55, m56, m57, m58, m59, m60, m61, m62, m63, m64, m65, m66, m67, m68, m69, m70, m71, m72, m73, m74, m75, m76, m77, m78, m79, m80, m81, m82, m83, m84, m85, m86, m87, m88, m89, m90, m91, .int 0, .int 0, m94, m95, m96, m97, m98, m99, m100, m101, m102, m103, m104, m105, m106, m107, m108, m109, .long 0, .long 0, .int 0, m113, m114, m115, m116, m117, m118, m119, m120, m121, m122])), (h1, .inl (cB, 1500, .inl (upd f1 0 (vp_nar .byte y7))))] H := hP
  have hD : va_D A [(h0, .inr (16, [.int 0, m1, .ref h1, .int 1, .int 0, m5, m6, m7, m8, m9, m10, m11, m12, m13, m14, m15, m16, .null, m18, m19, m20, m21, m22, m23, m24, m25, m26, .int 0, m28, m29, .int 0, .int 0, .int 0, m33, m34, m35, .int 0, m37, m38, m39, m40, m41, m42, m43, m44, m45, m46, m47, m48, m49, .int 0, m51, m52, m53, m54, m55, m56, m57, m58, m59, m60, m61, m62, m63, m64, m65, m66, m67, m68, m69, m70, m71, m72, m73, m74, m75, m76, m77, m78, m79, m80, m81, m82, m83, m84, m85, m86, m87, m88, m89, m90, m91, .int 0, .int 0, m94, m95, m96, m97, m98, m99, m100, m101, m102, m103, m104, m105, m106, m107, m108, m109, .long 0, .long 0, .int 0, m113, m114, m115, m116, m117, m118, m119, m120, m121, m122])), (h1, .inl (cB, 1500, .inl (upd f1 0 (vp_nar .byte y7))))] := hD
  refine lv_iinc (k := 0) (v := (-1)) (lv' := [(4, .int ((-1))), (0, .ref h0), (1, .long g1), (3, .int 1)]) hx hb dX16_feed_1_79 hl rfl (by decide) (by decide) rfl (fun ls hl => ?_)
  refine lv_goto (tgt := 42) hx hb dX16_feed_1_82 (by decide) ?_
  refine lv_iload hx hb dX16_feed_1_42 (lv_at hl 0 rfl) ?_
  refine lv_if_lt (tgt := 85) hx hb dX16_feed_1_44 (by decide) (fun _ => ?_) (fun h9 => absurd (by decide) h9)
  refine lv_aload_n hx hb dX16_feed_1_85 rfl (lv_at hl 1 rfl) ?_
  refine va_get (D := (dC, dI)) (ci := 16) (v := .int 0) (C := RX16) (T := TX16) (N := 123) hx hb hts wh_X16_feed_1_X16 hown hK hP 0 rfl rfl 0 (by decide) (hts (.fieldLink RX16 1 "StreamHouseModel" "code" "I") (wm_X16_feed_1 5 rfl)) (fun _ h9 => h9) rfl dX16_feed_1_86 ?_
  refine lv_if_le (tgt := 96) hx hb dX16_feed_1_89 (by decide) (fun _ => ?_) (fun h9 => absurd (by decide) h9)
  refine lv_aload_n hx hb dX16_feed_1_96 rfl (lv_at hl 1 rfl) ?_
  refine va_get (D := (dC, dI)) (ci := 16) (v := .int 1) (C := RX16) (T := TX16) (N := 123) hx hb hts wh_X16_feed_1_X16 hown hK hP 0 rfl rfl 3 (by decide) (hts (.fieldLink RX16 972 "StreamHouseModel" "taped" "I") (wm_X16_feed_1 4 rfl)) (fun _ h9 => h9) rfl dX16_feed_1_97 ?_
  have hP9 := hP.sub (ws' := [(h0, .inr (16, [.int 0, m1, .ref h1, .int 1, .int 0, m5, m6, m7, m8, m9, m10, m11, m12, m13, m14, m15, m16, .null, m18, m19, m20, m21, m22, m23, m24, m25, m26, .int 0, m28, m29, .int 0, .int 0, .int 0, m33, m34, m35, .int 0, m37, m38, m39, m40, m41, m42, m43, m44, m45, m46, m47, m48, m49, .int 0, m51, m52, m53, m54, m55, m56, m57, m58, m59, m60, m61, m62, m63, m64, m65, m66, m67, m68, m69, m70, m71, m72, m73, m74, m75, m76, m77, m78, m79, m80, m81, m82, m83, m84, m85, m86, m87, m88, m89, m90, m91, .int 0, .int 0, m94, m95, m96, m97, m98, m99, m100, m101, m102, m103, m104, m105, m106, m107, m108, m109, .long 0, .long 0, .int 0, m113, m114, m115, m116, m117, m118, m119, m120, m121, m122]))]) [0] rfl
  have hD9 := hD.sub (ws' := [(h0, .inr (16, [.int 0, m1, .ref h1, .int 1, .int 0, m5, m6, m7, m8, m9, m10, m11, m12, m13, m14, m15, m16, .null, m18, m19, m20, m21, m22, m23, m24, m25, m26, .int 0, m28, m29, .int 0, .int 0, .int 0, m33, m34, m35, .int 0, m37, m38, m39, m40, m41, m42, m43, m44, m45, m46, m47, m48, m49, .int 0, m51, m52, m53, m54, m55, m56, m57, m58, m59, m60, m61, m62, m63, m64, m65, m66, m67, m68, m69, m70, m71, m72, m73, m74, m75, m76, m77, m78, m79, m80, m81, m82, m83, m84, m85, m86, m87, m88, m89, m90, m91, .int 0, .int 0, m94, m95, m96, m97, m98, m99, m100, m101, m102, m103, m104, m105, m106, m107, m108, m109, .long 0, .long 0, .int 0, m113, m114, m115, m116, m117, m118, m119, m120, m121, m122]))]) [0] (by decide) rfl
  have hK9 := hK.sub (tys' := []) [] rfl
  refine W.widen (k := 0) (n := 0) (by decide) (by decide) ?_
  exact W.iret (v := 1) hx hb hr (fun t ht hW => ⟨⟨1, (), rfl, rfl, by rw [ht]; exact hP9, va_K.moved hW.alike hK9, hD9⟩, hS.F ht⟩) hS.2.2 dX16_feed_1_100

abbrev ar_X16_feed_2 (dC : Nat → ClassId) (dI : Nat → Nat → Nat) (A : Nat → Prop) (h0 h1 : Nat) (g1 : Int64) (cB : ClassId) (f1 : Nat → Int32) (m0 m1 m5 m6 m7 m8 m9 m10 m11 m12 m13 m14 m15 m16 m18 m19 m20 m21 m22 m23 m24 m25 m26 m28 m29 m33 m34 m35 m37 m38 m39 m40 m41 m42 m43 m44 m45 m46 m47 m48 m49 m51 m52 m53 m54 m55 m56 m57 m58 m59 m60 m61 m62 m63 m64 m65 m66 m67 m68 m69 m70 m71 m72 m73 m74 m75 m76 m77 m78 m79 m80 m81 m82 m83 m84 m85 m86 m87 m88 m89 m90 m91 m94 m95 m96 m97 m98 m99 m100 m101 m102 m103 m104 m105 m106 m107 m108 m109 m113 m114 m115 m116 m117 m118 m119 m120 m121 m122 : Value) (_ : Unit) (t : State) : Prop := va_P (dC, dI) vwCl [(h0, .inr (16, [.int 0, m1, .ref h1, .int 2, .int 0, m5, m6, m7, m8, m9, m10, m11, m12, m13, m14, m15, m16, .null, m18, m19, m20, m21, m22, m23, m24, m25, m26, .int 0, m28, m29, .int 0, .int 0, .int 0, m33, m34, m35, .int 0, m37, m38, m39, m40, m41, m42, m43, m44, m45, m46, m47, m48, m49, .int 0, m51, m52, m53, m54, m55, m56, m57, m58, m59, m60, m61, m62, m63, m64, m65, m66, m67, m68, m69, m70, m71, m72, m73, m74, m75, m76, m77, m78, m79, m80, m81, m82, m83, m84, m85, m86, m87, m88, m89, m90, m91, .int 0, .int 0, m94, m95, m96, m97, m98, m99, m100, m101, m102, m103, m104, m105, m106, m107, m108, m109, .long 0, .long 0, .int 0, m113, m114, m115, m116, m117, m118, m119, m120, m121, m122]))] t.heap ∧ va_K (dC, dI) vwCl [] t ∧ va_D A [(h0, .inr (16, [.int 0, m1, .ref h1, .int 2, .int 0, m5, m6, m7, m8, m9, m10, m11, m12, m13, m14, m15, m16, .null, m18, m19, m20, m21, m22, m23, m24, m25, m26, .int 0, m28, m29, .int 0, .int 0, .int 0, m33, m34, m35, .int 0, m37, m38, m39, m40, m41, m42, m43, m44, m45, m46, m47, m48, m49, .int 0, m51, m52, m53, m54, m55, m56, m57, m58, m59, m60, m61, m62, m63, m64, m65, m66, m67, m68, m69, m70, m71, m72, m73, m74, m75, m76, m77, m78, m79, m80, m81, m82, m83, m84, m85, m86, m87, m88, m89, m90, m91, .int 0, .int 0, m94, m95, m96, m97, m98, m99, m100, m101, m102, m103, m104, m105, m106, m107, m108, m109, .long 0, .long 0, .int 0, m113, m114, m115, m116, m117, m118, m119, m120, m121, m122]))]
theorem dX16_feed_2_0 : decode cX16_feed 0 = .ok (.aload_n 0, 1) := by decide +kernel
theorem dX16_feed_2_1 : decode cX16_feed 1 = .ok (.iload_n 3, 1) := by decide +kernel
theorem dX16_feed_2_2 : decode cX16_feed 2 = .ok (.i2l, 1) := by decide +kernel
theorem dX16_feed_2_3 : decode cX16_feed 3 = .ok (.lconst 1, 1) := by decide +kernel
theorem dX16_feed_2_4 : decode cX16_feed 4 = .ok (.ldc2_w 250, 3) := by decide +kernel
theorem dX16_feed_2_7 : decode cX16_feed 7 = .ok (.invokestatic 45, 3) := by decide +kernel
theorem dX16_feed_2_10 : decode cX16_feed 10 = .ok (.ifCond .ne 7, 3) := by decide +kernel
theorem dX16_feed_2_17 : decode cX16_feed 17 = .ok (.aload_n 0, 1) := by decide +kernel
theorem dX16_feed_2_18 : decode cX16_feed 18 = .ok (.getfield 972, 3) := by decide +kernel
theorem dX16_feed_2_21 : decode cX16_feed 21 = .ok (.iload_n 3, 1) := by decide +kernel
theorem dX16_feed_2_22 : decode cX16_feed 22 = .ok (.iadd, 1) := by decide +kernel
theorem dX16_feed_2_23 : decode cX16_feed 23 = .ok (.sipush 1500, 3) := by decide +kernel
theorem dX16_feed_2_26 : decode cX16_feed 26 = .ok (.if_icmp .le 7, 3) := by decide +kernel
theorem dX16_feed_2_33 : decode cX16_feed 33 = .ok (.iconst 0, 1) := by decide +kernel
theorem dX16_feed_2_34 : decode cX16_feed 34 = .ok (.putfield 1, 3) := by decide +kernel
theorem dX16_feed_2_37 : decode cX16_feed 37 = .ok (.iload_n 3, 1) := by decide +kernel
theorem dX16_feed_2_38 : decode cX16_feed 38 = .ok (.iconst 1, 1) := by decide +kernel
theorem dX16_feed_2_39 : decode cX16_feed 39 = .ok (.isub, 1) := by decide +kernel
theorem dX16_feed_2_40 : decode cX16_feed 40 = .ok (.istore 4, 2) := by decide +kernel
theorem dX16_feed_2_42 : decode cX16_feed 42 = .ok (.iload 4, 2) := by decide +kernel
theorem dX16_feed_2_44 : decode cX16_feed 44 = .ok (.ifCond .lt 41, 3) := by decide +kernel
theorem dX16_feed_2_47 : decode cX16_feed 47 = .ok (.aload_n 0, 1) := by decide +kernel
theorem dX16_feed_2_48 : decode cX16_feed 48 = .ok (.getfield 1, 3) := by decide +kernel
theorem dX16_feed_2_51 : decode cX16_feed 51 = .ok (.ifCond .ne 34, 3) := by decide +kernel
theorem dX16_feed_2_54 : decode cX16_feed 54 = .ok (.aload_n 0, 1) := by decide +kernel
theorem dX16_feed_2_55 : decode cX16_feed 55 = .ok (.getfield 20, 3) := by decide +kernel
theorem dX16_feed_2_58 : decode cX16_feed 58 = .ok (.aload_n 0, 1) := by decide +kernel
theorem dX16_feed_2_59 : decode cX16_feed 59 = .ok (.dup, 1) := by decide +kernel
theorem dX16_feed_2_60 : decode cX16_feed 60 = .ok (.getfield 972, 3) := by decide +kernel
theorem dX16_feed_2_63 : decode cX16_feed 63 = .ok (.dup_x1, 1) := by decide +kernel
theorem dX16_feed_2_64 : decode cX16_feed 64 = .ok (.iconst 1, 1) := by decide +kernel
theorem dX16_feed_2_65 : decode cX16_feed 65 = .ok (.iadd, 1) := by decide +kernel
theorem dX16_feed_2_66 : decode cX16_feed 66 = .ok (.putfield 972, 3) := by decide +kernel
theorem dX16_feed_2_69 : decode cX16_feed 69 = .ok (.lload_n 1, 1) := by decide +kernel
theorem dX16_feed_2_70 : decode cX16_feed 70 = .ok (.bipush 8, 2) := by decide +kernel
theorem dX16_feed_2_72 : decode cX16_feed 72 = .ok (.iload 4, 2) := by decide +kernel
theorem dX16_feed_2_74 : decode cX16_feed 74 = .ok (.imul, 1) := by decide +kernel
theorem dX16_feed_2_75 : decode cX16_feed 75 = .ok (.lshr, 1) := by decide +kernel
theorem dX16_feed_2_76 : decode cX16_feed 76 = .ok (.l2i, 1) := by decide +kernel
theorem dX16_feed_2_77 : decode cX16_feed 77 = .ok (.i2b, 1) := by decide +kernel
theorem dX16_feed_2_78 : decode cX16_feed 78 = .ok (.bastore, 1) := by decide +kernel
theorem dX16_feed_2_79 : decode cX16_feed 79 = .ok (.iinc 4 (-1), 3) := by decide +kernel
theorem dX16_feed_2_82 : decode cX16_feed 82 = .ok (.goto (-40), 3) := by decide +kernel
theorem dX16_feed_2_85 : decode cX16_feed 85 = .ok (.aload_n 0, 1) := by decide +kernel
theorem dX16_feed_2_86 : decode cX16_feed 86 = .ok (.getfield 1, 3) := by decide +kernel
theorem dX16_feed_2_89 : decode cX16_feed 89 = .ok (.ifCond .le 7, 3) := by decide +kernel
theorem dX16_feed_2_96 : decode cX16_feed 96 = .ok (.aload_n 0, 1) := by decide +kernel
theorem dX16_feed_2_97 : decode cX16_feed 97 = .ok (.getfield 972, 3) := by decide +kernel
theorem dX16_feed_2_100 : decode cX16_feed 100 = .ok (.ireturn, 1) := by decide +kernel
def ww_X16_feed_2 : List Cond := [.constantLong RX16 250 8, .initialized RX16, .methodLink RX16 45 yX16_within, .static yX16_within, .fieldLink RX16 972 "StreamHouseModel" "taped" "I", .fieldLink RX16 1 "StreamHouseModel" "code" "I", .fieldLink RX16 20 "StreamHouseModel" "tape" "[B"]
def wv_X16_feed_2 : List Cond := .code yX16_feed cX16_feed 5 (some .int) :: (ww_X16_feed_2 ++ (wv_X16_within_1 ++ (u_ws RX16 TX16 123 ++ [])))
theorem wm_X16_feed_2 {w : Cond} (i : Nat) (h : ww_X16_feed_2[i]? = some w) : w ∈ wv_X16_feed_2 := List.mem_cons_of_mem _ (List.mem_append_left _ (List.mem_of_getElem? h))
set_option maxRecDepth 100000 in
theorem gw_X16_feed_2 : wv_X16_feed_2.all goodWord = true := by decide +kernel
theorem wg_X16_feed_2_X16_within_1 : GoodIn wv_X16_feed_2 wv_X16_within_1 := goodIn_sub (fun w h => List.mem_cons_of_mem _ (List.mem_append_right _ (List.mem_append_left _ h))) gw_X16_within_1
theorem wt_X16_feed_2_X16_within_1 : GoodIn wv_X16_feed_2 (va_wsS RX16 45 yX16_within wv_X16_within_1) := goodIn_app (goodIn_sub (fun w h => by simp only [List.mem_cons, List.not_mem_nil, or_false] at h; rcases h with rfl | rfl | rfl <;> first | exact wm_X16_feed_2 2 rfl | exact wm_X16_feed_2 3 rfl | exact wm_X16_feed_2 1 rfl) (by decide +kernel)) wg_X16_feed_2_X16_within_1
theorem wh_X16_feed_2_X16 : ∀ w ∈ u_ws RX16 TX16 123, w ∈ wv_X16_feed_2 := fun w h => List.mem_cons_of_mem _ (List.mem_append_right _ (List.mem_append_right _ (List.mem_append_left _ h)))
set_option maxHeartbeats 4000000 in
set_option maxRecDepth 100000 in
/-- feed(g, 2) of the fresh reference -/
theorem r_X16_feed_2 (l : Launch) (dC : Nat → ClassId) (dI : Nat → Nat → Nat) (h0 h1 : Nat) (g1 : Int64) (cB : ClassId) (f1 : Nat → Int32) (m0 m1 m5 m6 m7 m8 m9 m10 m11 m12 m13 m14 m15 m16 m18 m19 m20 m21 m22 m23 m24 m25 m26 m28 m29 m33 m34 m35 m37 m38 m39 m40 m41 m42 m43 m44 m45 m46 m47 m48 m49 m51 m52 m53 m54 m55 m56 m57 m58 m59 m60 m61 m62 m63 m64 m65 m66 m67 m68 m69 m70 m71 m72 m73 m74 m75 m76 m77 m78 m79 m80 m81 m82 m83 m84 m85 m86 m87 m88 m89 m90 m91 m94 m95 m96 m97 m98 m99 m100 m101 m102 m103 m104 m105 m106 m107 m108 m109 m113 m114 m115 m116 m117 m118 m119 m120 m121 m122 : Value) (sz : Nat) : Met l yX16_feed wv_X16_feed_2 ({ frames := 1, cells := 0, slots := 0, locals := 25 }) (va_Pc [.ref h0, .long g1, .int 2] (fun U => U.heap.size = sz ∧ va_P (dC, dI) vwCl [(h0, .inr (16, [m0, m1, .ref h1, .int 0, .int 0, m5, m6, m7, m8, m9, m10, m11, m12, m13, m14, m15, m16, .null, m18, m19, m20, m21, m22, m23, m24, m25, m26, .int 0, m28, m29, .int 0, .int 0, .int 0, m33, m34, m35, .int 0, m37, m38, m39, m40, m41, m42, m43, m44, m45, m46, m47, m48, m49, .int 0, m51, m52, m53, m54, m55, m56, m57, m58, m59, m60, m61, m62, m63, m64, m65, m66, m67, m68, m69, m70, m71, m72, m73, m74, m75, m76, m77, m78, m79, m80, m81, m82, m83, m84, m85, m86, m87, m88, m89, m90, m91, .int 0, .int 0, m94, m95, m96, m97, m98, m99, m100, m101, m102, m103, m104, m105, m106, m107, m108, m109, .long 0, .long 0, .int 0, m113, m114, m115, m116, m117, m118, m119, m120, m121, m122])), (h1, .inl (cB, 1500, .inl f1))] U.heap ∧ va_K (dC, dI) vwCl [(cB, .byte)] U ∧ va_D (fun _ => True) [(h0, .inr (16, [m0, m1, .ref h1, .int 0, .int 0, m5, m6, m7, m8, m9, m10, m11, m12, m13, m14, m15, m16, .null, m18, m19, m20, m21, m22, m23, m24, m25, m26, .int 0, m28, m29, .int 0, .int 0, .int 0, m33, m34, m35, .int 0, m37, m38, m39, m40, m41, m42, m43, m44, m45, m46, m47, m48, m49, .int 0, m51, m52, m53, m54, m55, m56, m57, m58, m59, m60, m61, m62, m63, m64, m65, m66, m67, m68, m69, m70, m71, m72, m73, m74, m75, m76, m77, m78, m79, m80, m81, m82, m83, m84, m85, m86, m87, m88, m89, m90, m91, .int 0, .int 0, m94, m95, m96, m97, m98, m99, m100, m101, m102, m103, m104, m105, m106, m107, m108, m109, .long 0, .long 0, .int 0, m113, m114, m115, m116, m117, m118, m119, m120, m121, m122])), (h1, .inl (cB, 1500, .inl f1))])) (va_Qi (fun r (_ : Unit) => r = 2) (ar_X16_feed_2 dC dI (va_A [(h0, .inr (16, [m0, m1, .ref h1, .int 0, .int 0, m5, m6, m7, m8, m9, m10, m11, m12, m13, m14, m15, m16, .null, m18, m19, m20, m21, m22, m23, m24, m25, m26, .int 0, m28, m29, .int 0, .int 0, .int 0, m33, m34, m35, .int 0, m37, m38, m39, m40, m41, m42, m43, m44, m45, m46, m47, m48, m49, .int 0, m51, m52, m53, m54, m55, m56, m57, m58, m59, m60, m61, m62, m63, m64, m65, m66, m67, m68, m69, m70, m71, m72, m73, m74, m75, m76, m77, m78, m79, m80, m81, m82, m83, m84, m85, m86, m87, m88, m89, m90, m91, .int 0, .int 0, m94, m95, m96, m97, m98, m99, m100, m101, m102, m103, m104, m105, m106, m107, m108, m109, .long 0, .long 0, .int 0, m113, m114, m115, m116, m117, m118, m119, m120, m121, m122])), (h1, .inl (cB, 1500, .inl f1))] sz) h0 h1 g1 cB f1 m0 m1 m5 m6 m7 m8 m9 m10 m11 m12 m13 m14 m15 m16 m18 m19 m20 m21 m22 m23 m24 m25 m26 m28 m29 m33 m34 m35 m37 m38 m39 m40 m41 m42 m43 m44 m45 m46 m47 m48 m49 m51 m52 m53 m54 m55 m56 m57 m58 m59 m60 m61 m62 m63 m64 m65 m66 m67 m68 m69 m70 m71 m72 m73 m74 m75 m76 m77 m78 m79 m80 m81 m82 m83 m84 m85 m86 m87 m88 m89 m90 m91 m94 m95 m96 m97 m98 m99 m100 m101 m102 m103 m104 m105 m106 m107 m108 m109 m113 m114 m115 m116 m117 m118 m119 m120 m121 m122) (va_A [(h0, .inr (16, [m0, m1, .ref h1, .int 0, .int 0, m5, m6, m7, m8, m9, m10, m11, m12, m13, m14, m15, m16, .null, m18, m19, m20, m21, m22, m23, m24, m25, m26, .int 0, m28, m29, .int 0, .int 0, .int 0, m33, m34, m35, .int 0, m37, m38, m39, m40, m41, m42, m43, m44, m45, m46, m47, m48, m49, .int 0, m51, m52, m53, m54, m55, m56, m57, m58, m59, m60, m61, m62, m63, m64, m65, m66, m67, m68, m69, m70, m71, m72, m73, m74, m75, m76, m77, m78, m79, m80, m81, m82, m83, m84, m85, m86, m87, m88, m89, m90, m91, .int 0, .int 0, m94, m95, m96, m97, m98, m99, m100, m101, m102, m103, m104, m105, m106, m107, m108, m109, .long 0, .long 0, .int 0, m113, m114, m115, m116, m117, m118, m119, m120, m121, m122])), (h1, .inl (cB, 1500, .inl f1))] sz)) 0 0 (va_A [(h0, .inr (16, [m0, m1, .ref h1, .int 0, .int 0, m5, m6, m7, m8, m9, m10, m11, m12, m13, m14, m15, m16, .null, m18, m19, m20, m21, m22, m23, m24, m25, m26, .int 0, m28, m29, .int 0, .int 0, .int 0, m33, m34, m35, .int 0, m37, m38, m39, m40, m41, m42, m43, m44, m45, m46, m47, m48, m49, .int 0, m51, m52, m53, m54, m55, m56, m57, m58, m59, m60, m61, m62, m63, m64, m65, m66, m67, m68, m69, m70, m71, m72, m73, m74, m75, m76, m77, m78, m79, m80, m81, m82, m83, m84, m85, m86, m87, m88, m89, m90, m91, .int 0, .int 0, m94, m95, m96, m97, m98, m99, m100, m101, m102, m103, m104, m105, m106, m107, m108, m109, .long 0, .long 0, .int 0, m113, m114, m115, m116, m117, m118, m119, m120, m121, m122])), (h1, .inl (cB, 1500, .inl f1))] sz) := by
  refine Met.ofW (cc := cX16_feed) (maxL := 5) (ret := (some .int)) (by decide) rfl ?_
  intro p e s m args below meth c s₁ B hml hv
  obtain ⟨rfl, hsz, hP, hK, hD0⟩ := hv
  have hx := B.exec
  have hb := B.bytes
  have hr := B.returns
  have hts := atoms_spec (ws := wv_X16_feed_2) B.pre
  have hown : s.vm.findClass RX16 = some m.cls := findClass_of_methodNamed B.named
  have hlocks := B.notSynchronized
  subst hsz
  have hD := hD0.self (sz := s.heap.size)
  generalize hAe : va_A [(h0, .inr (16, [m0, m1, .ref h1, .int 0, .int 0, m5, m6, m7, m8, m9, m10, m11, m12, m13, m14, m15, m16, .null, m18, m19, m20, m21, m22, m23, m24, m25, m26, .int 0, m28, m29, .int 0, .int 0, .int 0, m33, m34, m35, .int 0, m37, m38, m39, m40, m41, m42, m43, m44, m45, m46, m47, m48, m49, .int 0, m51, m52, m53, m54, m55, m56, m57, m58, m59, m60, m61, m62, m63, m64, m65, m66, m67, m68, m69, m70, m71, m72, m73, m74, m75, m76, m77, m78, m79, m80, m81, m82, m83, m84, m85, m86, m87, m88, m89, m90, m91, .int 0, .int 0, m94, m95, m96, m97, m98, m99, m100, m101, m102, m103, m104, m105, m106, m107, m108, m109, .long 0, .long 0, .int 0, m113, m114, m115, m116, m117, m118, m119, m120, m121, m122])), (h1, .inl (cB, 1500, .inl f1))] s.heap.size = A at hD ⊢
  have hA : ∀ q : Nat, s.heap.size ≤ q → A q := fun q h => by rw [← hAe]; exact Or.inr h
  have hS : va_S A s.heap s.heap [] := va_S.rf
  have hP : va_P (dC, dI) vwCl [(h0, .inr (16, [m0, m1, .ref h1, .int 0, .int 0, m5, m6, m7, m8, m9, m10, m11, m12, m13, m14, m15, m16, .null, m18, m19, m20, m21, m22, m23, m24, m25, m26, .int 0, m28, m29, .int 0, .int 0, .int 0, m33, m34, m35, .int 0, m37, m38, m39, m40, m41, m42, m43, m44, m45, m46, m47, m48, m49, .int 0, m51, m52, m53, m54, m55, m56, m57, m58, m59, m60, m61, m62, m63, m64, m65, m66, m67, m68, m69, m70, m71, m72, m73, m74, m75, m76, m77, m78, m79, m80, m81, m82, m83, m84, m85, m86, m87, m88, m89, m90, m91, .int 0, .int 0, m94, m95, m96, m97, m98, m99, m100, m101, m102, m103, m104, m105, m106, m107, m108, m109, .long 0, .long 0, .int 0, m113, m114, m115, m116, m117, m118, m119, m120, m121, m122])), (h1, .inl (cB, 1500, .inl f1))] s.heap := hP
  have hl := lv_entry ([.ref h0, .long g1, .int 2]) (n := 5) (Nat.le_of_ble_eq_true rfl)
  rw [lg_entry_eq]
  generalize (lg_sl ([.ref h0, .long g1, .int 2]) ++ List.replicate (5 - (lg_sl ([.ref h0, .long g1, .int 2])).length) Slot.unset).toArray = ls at hl ⊢
  have hl : lv_has ls 5 [(0, .ref h0), (1, .long g1), (3, .int 2)] := hl
  refine lv_aload_n hx hb dX16_feed_2_0 rfl (lv_at hl 0 rfl) ?_
  refine lv_iload_n hx hb dX16_feed_2_1 rfl (lv_at hl 2 rfl) ?_
  refine lv_i2l (v := 2) hx hb dX16_feed_2_2 (by decide) ?_
  refine lv_lconst (v := 1) hx hb dX16_feed_2_3 (by decide) ?_
  refine lv_ldc2 hx hb hown (hts (.constantLong RX16 250 8) (wm_X16_feed_2 0 rfl)) dX16_feed_2_4 ?_
  have hPc := hP.sub (ws' := []) [] rfl
  have hDc := hD.sub (ws' := []) [] (by decide) rfl
  have hKc := hK.sub (tys' := []) [] rfl
  have hFc := va_free (wc := []) hD hS hA [] rfl
  have h_1 : 0 ≤ 0 := by decide
  have h_2 : 0 ≤ 0 := by decide
  refine va_calli (va_runS (As := [.long 2, .long 1, .long 8]) (rest := [.ref h0]) ⟨hx, hb, hml, hown, hts⟩ (r_X16_within_1 l dC dI 2 1 8 _) (va_cwS 3 hts wt_X16_feed_2_X16_within_1 rfl rfl rfl (by decide +kernel) ⟨Nat.le_of_ble_eq_true rfl, Nat.le_of_ble_eq_true rfl⟩) ⟨fun a U g mk q => by obtain ⟨q0, q1, qP, qK, qD, qp⟩ := q; exact ⟨q0, q1, qP, va_K.moved (u := U) (U := U.calling g mk a) (Vm.Alike.refl U.vm) qK, qD, qp⟩, fun U hU hW => ⟨rfl, by rw [hU], by rw [hU]; exact hPc, va_K.moved hW.alike hKc, hDc.weaken (fun _ _ _ _ => trivial), ⟨by decide, by decide⟩⟩⟩ rfl rfl hl.1 rfl (lv_room (Nat.le_of_ble_eq_true rfl)) dX16_feed_2_7 ⟨h_1, h_2⟩) hS (fun q _ h => hFc q h) hFc (fun y4 u3 t H1 locs ht hvm hw hB hz1 hk1 hS => ?_)
  obtain ⟨hP1, hK1, hD1⟩ := hB
  rw [ht] at hP1
  have hK1 := va_K.moved hvm.symm hK1
  obtain ⟨hP, hD⟩ := va_join (wr := [(h0, .inr (16, [m0, m1, .ref h1, .int 0, .int 0, m5, m6, m7, m8, m9, m10, m11, m12, m13, m14, m15, m16, .null, m18, m19, m20, m21, m22, m23, m24, m25, m26, .int 0, m28, m29, .int 0, .int 0, .int 0, m33, m34, m35, .int 0, m37, m38, m39, m40, m41, m42, m43, m44, m45, m46, m47, m48, m49, .int 0, m51, m52, m53, m54, m55, m56, m57, m58, m59, m60, m61, m62, m63, m64, m65, m66, m67, m68, m69, m70, m71, m72, m73, m74, m75, m76, m77, m78, m79, m80, m81, m82, m83, m84, m85, m86, m87, m88, m89, m90, m91, .int 0, .int 0, m94, m95, m96, m97, m98, m99, m100, m101, m102, m103, m104, m105, m106, m107, m108, m109, .long 0, .long 0, .int 0, m113, m114, m115, m116, m117, m118, m119, m120, m121, m122])), (h1, .inl (cB, 1500, .inl f1))]) (w1 := []) hP hD [] [0, 1] rfl rfl (by decide) (by decide) hk1 hFc hP1 hD1
  have hK := (hK.sub (tys' := [(cB, .byte)]) [0] rfl).app hK1
  generalize H1 = H at hP hS ⊢
  have hP : va_P (dC, dI) vwCl [(h0, .inr (16, [m0, m1, .ref h1, .int 0, .int 0, m5, m6, m7, m8, m9, m10, m11, m12, m13, m14, m15, m16, .null, m18, m19, m20, m21, m22, m23, m24, m25, m26, .int 0, m28, m29, .int 0, .int 0, .int 0, m33, m34, m35, .int 0, m37, m38, m39, m40, m41, m42, m43, m44, m45, m46, m47, m48, m49, .int 0, m51, m52, m53, m54, m55, m56, m57, m58, m59, m60, m61, m62, m63, m64, m65, m66, m67, m68, m69, m70, m71, m72, m73, m74, m75, m76, m77, m78, m79, m80, m81, m82, m83, m84, m85, m86, m87, m88, m89, m90, m91, .int 0, .int 0, m94, m95, m96, m97, m98, m99, m100, m101, m102, m103, m104, m105, m106, m107, m108, m109, .long 0, .long 0, .int 0, m113, m114, m115, m116, m117, m118, m119, m120, m121, m122])), (h1, .inl (cB, 1500, .inl f1))] H := hP
  have hD : va_D A [(h0, .inr (16, [m0, m1, .ref h1, .int 0, .int 0, m5, m6, m7, m8, m9, m10, m11, m12, m13, m14, m15, m16, .null, m18, m19, m20, m21, m22, m23, m24, m25, m26, .int 0, m28, m29, .int 0, .int 0, .int 0, m33, m34, m35, .int 0, m37, m38, m39, m40, m41, m42, m43, m44, m45, m46, m47, m48, m49, .int 0, m51, m52, m53, m54, m55, m56, m57, m58, m59, m60, m61, m62, m63, m64, m65, m66, m67, m68, m69, m70, m71, m72, m73, m74, m75, m76, m77, m78, m79, m80, m81, m82, m83, m84, m85, m86, m87, m88, m89, m90, m91, .int 0, .int 0, m94, m95, m96, m97, m98, m99, m100, m101, m102, m103, m104, m105, m106, m107, m108, m109, .long 0, .long 0, .int 0, m113, m114, m115, m116, m117, m118, m119, m120, m121, m122])), (h1, .inl (cB, 1500, .inl f1))] := hD
  have hK : va_K (dC, dI) vwCl [(cB, .byte)] s := hK
  refine W.widen (k := 0) (n := 0) (by decide) (by decide) ?_
  have hw : y4 = 1 := hw
  subst hw
  refine lv_if_ne (tgt := 17) hx hb dX16_feed_2_10 (by decide) (fun _ => ?_) (fun h9 => absurd h9 (by decide))
  refine lv_aload_n hx hb dX16_feed_2_17 rfl (lv_at hl 0 rfl) ?_
  refine va_get (D := (dC, dI)) (ci := 16) (v := .int 0) (C := RX16) (T := TX16) (N := 123) hx hb hts wh_X16_feed_2_X16 hown hK hP 0 rfl rfl 3 (by decide) (hts (.fieldLink RX16 972 "StreamHouseModel" "taped" "I") (wm_X16_feed_2 4 rfl)) (fun _ h9 => h9) rfl dX16_feed_2_18 ?_
  refine lv_iload_n hx hb dX16_feed_2_21 rfl (lv_at hl 2 rfl) ?_
  refine lv_iadd hx hb dX16_feed_2_22 ?_
  refine W.eq (g2 := F0 m 23 ls [.int 2, .ref h0]) rfl ?_
  refine lv_sipush (v := 1500) hx hb dX16_feed_2_23 (by decide) ?_
  refine lv_icmp_le (tgt := 33) hx hb dX16_feed_2_26 (by decide) (fun _ => ?_) (fun h9 => absurd (by decide) h9)
  refine lv_iconst (v := 0) hx hb dX16_feed_2_33 (by decide) ?_
  refine va_put (D := (dC, dI)) (ci := 16) (v := .int 0) (ty := .int) (C := RX16) (T := TX16) (N := 123) hx hb hts wh_X16_feed_2_X16 tyX16 tyX16_ok nmX16 hown hK hP hD hS 0 rfl rfl 0 (by decide) (hts (.fieldLink RX16 1 "StreamHouseModel" "code" "I") (wm_X16_feed_2 5 rfl)) (fun _ h9 => h9) rfl (by decide +kernel) rfl rfl (Nat.le_of_ble_eq_true rfl) dX16_feed_2_34 (fun H locs hP hD hS => ?_)
  have hP : va_P (dC, dI) vwCl [(h0, .inr (16, [.int 0, m1, .ref h1, .int 0, .int 0, m5, m6, m7, m8, m9, m10, m11, m12, m13, m14, m15, m16, .null, m18, m19, m20, m21, m22, m23, m24, m25, m26, .int 0, m28, m29, .int 0, .int 0, .int 0, m33, m34, m35, .int 0, m37, m38, m39, m40, m41, m42, m43, m44, m45, m46, m47, m48, m49, .int 0, m51, m52, m53, m54, m55, m56, m57, m58, m59, m60, m61, m62, m63, m64, m65, m66, m67, m68, m69, m70, m71, m72, m73, m74, m75, m76, m77, m78, m79, m80, m81, m82, m83, m84, m85, m86, m87, m88, m89, m90, m91, .int 0, .int 0, m94, m95, m96, m97, m98, m99, m100, m101, m102, m103, m104, m105, m106, m107, m108, m109, .long 0, .long 0, .int 0, m113, m114, m115, m116, m117, m118, m119, m120, m121, m122])), (h1, .inl (cB, 1500, .inl f1))] H := hP
  have hD : va_D A [(h0, .inr (16, [.int 0, m1, .ref h1, .int 0, .int 0, m5, m6, m7, m8, m9, m10, m11, m12, m13, m14, m15, m16, .null, m18, m19, m20, m21, m22, m23, m24, m25, m26, .int 0, m28, m29, .int 0, .int 0, .int 0, m33, m34, m35, .int 0, m37, m38, m39, m40, m41, m42, m43, m44, m45, m46, m47, m48, m49, .int 0, m51, m52, m53, m54, m55, m56, m57, m58, m59, m60, m61, m62, m63, m64, m65, m66, m67, m68, m69, m70, m71, m72, m73, m74, m75, m76, m77, m78, m79, m80, m81, m82, m83, m84, m85, m86, m87, m88, m89, m90, m91, .int 0, .int 0, m94, m95, m96, m97, m98, m99, m100, m101, m102, m103, m104, m105, m106, m107, m108, m109, .long 0, .long 0, .int 0, m113, m114, m115, m116, m117, m118, m119, m120, m121, m122])), (h1, .inl (cB, 1500, .inl f1))] := hD
  refine lv_iload_n hx hb dX16_feed_2_37 rfl (lv_at hl 2 rfl) ?_
  refine lv_iconst (v := 1) hx hb dX16_feed_2_38 (by decide) ?_
  refine lv_isub hx hb dX16_feed_2_39 ?_
  refine W.eq (g2 := F0 m 40 ls [.int 1]) rfl ?_
  refine lv_istore (lv' := [(4, .int 1), (0, .ref h0), (1, .long g1), (3, .int 2)]) hx hb dX16_feed_2_40 hl (by decide) rfl (fun ls hl => ?_)
  refine lv_iload hx hb dX16_feed_2_42 (lv_at hl 0 rfl) ?_
  refine lv_if_lt (tgt := 85) hx hb dX16_feed_2_44 (by decide) (fun h9 => absurd h9 (by decide)) (fun _ => ?_)
  refine lv_aload_n hx hb dX16_feed_2_47 rfl (lv_at hl 1 rfl) ?_
  refine va_get (D := (dC, dI)) (ci := 16) (v := .int 0) (C := RX16) (T := TX16) (N := 123) hx hb hts wh_X16_feed_2_X16 hown hK hP 0 rfl rfl 0 (by decide) (hts (.fieldLink RX16 1 "StreamHouseModel" "code" "I") (wm_X16_feed_2 5 rfl)) (fun _ h9 => h9) rfl dX16_feed_2_48 ?_
  refine lv_if_ne (tgt := 85) hx hb dX16_feed_2_51 (by decide) (fun h9 => absurd (by decide) h9) (fun _ => ?_)
  refine lv_aload_n hx hb dX16_feed_2_54 rfl (lv_at hl 1 rfl) ?_
  refine va_get (D := (dC, dI)) (ci := 16) (v := .ref h1) (C := RX16) (T := TX16) (N := 123) hx hb hts wh_X16_feed_2_X16 hown hK hP 0 rfl rfl 2 (by decide) (hts (.fieldLink RX16 20 "StreamHouseModel" "tape" "[B") (wm_X16_feed_2 6 rfl)) (fun _ h9 => h9) rfl dX16_feed_2_55 ?_
  refine lv_aload_n hx hb dX16_feed_2_58 rfl (lv_at hl 1 rfl) ?_
  refine lv_dup hx hb dX16_feed_2_59 rfl ?_
  refine va_get (D := (dC, dI)) (ci := 16) (v := .int 0) (C := RX16) (T := TX16) (N := 123) hx hb hts wh_X16_feed_2_X16 hown hK hP 0 rfl rfl 3 (by decide) (hts (.fieldLink RX16 972 "StreamHouseModel" "taped" "I") (wm_X16_feed_2 4 rfl)) (fun _ h9 => h9) rfl dX16_feed_2_60 ?_
  refine lv_dup_x1 hx hb dX16_feed_2_63 rfl rfl ?_
  refine lv_iconst (v := 1) hx hb dX16_feed_2_64 (by decide) ?_
  refine lv_iadd hx hb dX16_feed_2_65 ?_
  refine W.eq (g2 := F0 m 66 ls [.int 1, .ref h0, .int 0, .ref h1]) rfl ?_
  refine va_put (D := (dC, dI)) (ci := 16) (v := .int 1) (ty := .int) (C := RX16) (T := TX16) (N := 123) hx hb hts wh_X16_feed_2_X16 tyX16 tyX16_ok nmX16 hown hK hP hD hS 0 rfl rfl 3 (by decide) (hts (.fieldLink RX16 972 "StreamHouseModel" "taped" "I") (wm_X16_feed_2 4 rfl)) (fun _ h9 => h9) rfl (by decide +kernel) rfl rfl (Nat.le_of_ble_eq_true rfl) dX16_feed_2_66 (fun H locs hP hD hS => ?_)
  have hP : va_P (dC, dI) vwCl [(h0, .inr (16, [.int 0, m1, .ref h1, .int 1, .int 0, m5, m6, m7, m8, m9, m10, m11, m12, m13, m14, m15, m16, .null, m18, m19, m20, m21, m22, m23, m24, m25, m26, .int 0, m28, m29, .int 0, .int 0, .int 0, m33, m34, m35, .int 0, m37, m38, m39, m40, m41, m42, m43, m44, m45, m46, m47, m48, m49, .int 0, m51, m52, m53, m54, m55, m56, m57, m58, m59, m60, m61, m62, m63, m64, m65, m66, m67, m68, m69, m70, m71, m72, m73, m74, m75, m76, m77, m78, m79, m80, m81, m82, m83, m84, m85, m86, m87, m88, m89, m90, m91, .int 0, .int 0, m94, m95, m96, m97, m98, m99, m100, m101, m102, m103, m104, m105, m106, m107, m108, m109, .long 0, .long 0, .int 0, m113, m114, m115, m116, m117, m118, m119, m120, m121, m122])), (h1, .inl (cB, 1500, .inl f1))] H := hP
  have hD : va_D A [(h0, .inr (16, [.int 0, m1, .ref h1, .int 1, .int 0, m5, m6, m7, m8, m9, m10, m11, m12, m13, m14, m15, m16, .null, m18, m19, m20, m21, m22, m23, m24, m25, m26, .int 0, m28, m29, .int 0, .int 0, .int 0, m33, m34, m35, .int 0, m37, m38, m39, m40, m41, m42, m43, m44, m45, m46, m47, m48, m49, .int 0, m51, m52, m53, m54, m55, m56, m57, m58, m59, m60, m61, m62, m63, m64, m65, m66, m67, m68, m69, m70, m71, m72, m73, m74, m75, m76, m77, m78, m79, m80, m81, m82, m83, m84, m85, m86, m87, m88, m89, m90, m91, .int 0, .int 0, m94, m95, m96, m97, m98, m99, m100, m101, m102, m103, m104, m105, m106, m107, m108, m109, .long 0, .long 0, .int 0, m113, m114, m115, m116, m117, m118, m119, m120, m121, m122])), (h1, .inl (cB, 1500, .inl f1))] := hD
  refine lv_lload_n hx hb dX16_feed_2_69 rfl (lv_at hl 2 rfl) ?_
  refine lv_bipush (v := 8) hx hb dX16_feed_2_70 (by decide) ?_
  refine lv_iload hx hb dX16_feed_2_72 (lv_at hl 0 rfl) ?_
  refine lv_imul hx hb dX16_feed_2_74 ?_
  refine W.eq (g2 := F0 m 75 ls [.int 8, .long g1, .int 0, .ref h1]) rfl ?_
  refine lv_lshr (v := _) hx hb dX16_feed_2_75 rfl ?_
  refine lv_topl (fun y5 _ => ?_)
  refine lv_l2i (v := _) hx hb dX16_feed_2_76 rfl ?_
  refine lv_topi (fun y6 _ => ?_)
  refine lv_i2b (v := _) hx hb dX16_feed_2_77 rfl ?_
  refine lv_topi (fun y7 _ => ?_)
  refine va_bast hx hb hK hP hD hS 1 0 rfl rfl (by unfold vp_in; decide) dX16_feed_2_78 (fun H locs hP hD hS => ?_)
  have hP : va_P (dC, dI) vwCl [(h0, .inr (16, [.int 0, m1, .ref h1, .int 1, .int 0, m5, m6, m7, m8, m9, m10, m11, m12, m13, m14, m15, m16, .null, m18, m19, m20, m21, m22, m23, m24, m25, m26, .int 0, m28, m29, .int 0, .int 0, .int 0, m33, m34, m35, .int 0, m37, m38, m39, m40, m41, m42, m43, m44, m45, m46, m47, m48, m49, .int 0, m51, m52, m53, m54, m55, m56, m57, m58, m59, m60, m61, m62, m63, m64, m65, m66, m67, m68, m69, m70, m71, m72, m73, m74, m75, m76, m77, m78, m79, m80, m81, m82, m83, m84, m85, m86, m87, m88, m89, m90, m91, .int 0, .int 0, m94, m95, m96, m97, m98, m99, m100, m101, m102, m103, m104, m105, m106, m107, m108, m109, .long 0, .long 0, .int 0, m113, m114, m115, m116, m117, m118, m119, m120, m121, m122])), (h1, .inl (cB, 1500, .inl (upd f1 0 (vp_nar .byte y7))))] H := hP
  have hD : va_D A [(h0, .inr (16, [.int 0, m1, .ref h1, .int 1, .int 0, m5, m6, m7, m8, m9, m10, m11, m12, m13, m14, m15, m16, .null, m18, m19, m20, m21, m22, m23, m24, m25, m26, .int 0, m28, m29, .int 0, .int 0, .int 0, m33, m34, m35, .int 0, m37, m38, m39, m40, m41, m42, m43, m44, m45, m46, m47, m48, m49, .int 0, m51, m52, m53, m54, m55, m56, m57, m58, m59, m60, m61, m62, m63, m64, m65, m66, m67, m68, m69, m70, m71, m72, m73, m74, m75, m76, m77, m78, m79, m80, m81, m82, m83, m84, m85, m86, m87, m88, m89, m90, m91, .int 0, .int 0, m94, m95, m96, m97, m98, m99, m100, m101, m102, m103, m104, m105, m106, m107, m108, m109, .long 0, .long 0, .int 0, m113, m114, m115, m116, m117, m118, m119, m120, m121, m122])), (h1, .inl (cB, 1500, .inl (upd f1 0 (vp_nar .byte y7))))] := hD
  refine lv_iinc (k := 0) (v := 0) (lv' := [(4, .int 0), (0, .ref h0), (1, .long g1), (3, .int 2)]) hx hb dX16_feed_2_79 hl rfl (by decide) (by decide) rfl (fun ls hl => ?_)
  refine lv_goto (tgt := 42) hx hb dX16_feed_2_82 (by decide) ?_
  refine lv_iload hx hb dX16_feed_2_42 (lv_at hl 0 rfl) ?_
  refine lv_if_lt (tgt := 85) hx hb dX16_feed_2_44 (by decide) (fun h9 => absurd h9 (by decide)) (fun _ => ?_)
  refine lv_aload_n hx hb dX16_feed_2_47 rfl (lv_at hl 1 rfl) ?_
  refine va_get (D := (dC, dI)) (ci := 16) (v := .int 0) (C := RX16) (T := TX16) (N := 123) hx hb hts wh_X16_feed_2_X16 hown hK hP 0 rfl rfl 0 (by decide) (hts (.fieldLink RX16 1 "StreamHouseModel" "code" "I") (wm_X16_feed_2 5 rfl)) (fun _ h9 => h9) rfl dX16_feed_2_48 ?_
  refine lv_if_ne (tgt := 85) hx hb dX16_feed_2_51 (by decide) (fun h9 => absurd (by decide) h9) (fun _ => ?_)
  refine lv_aload_n hx hb dX16_feed_2_54 rfl (lv_at hl 1 rfl) ?_
  refine va_get (D := (dC, dI)) (ci := 16) (v := .ref h1) (C := RX16) (T := TX16) (N := 123) hx hb hts wh_X16_feed_2_X16 hown hK hP 0 rfl rfl 2 (by decide) (hts (.fieldLink RX16 20 "StreamHouseModel" "tape" "[B") (wm_X16_feed_2 6 rfl)) (fun _ h9 => h9) rfl dX16_feed_2_55 ?_
  refine lv_aload_n hx hb dX16_feed_2_58 rfl (lv_at hl 1 rfl) ?_
  refine lv_dup hx hb dX16_feed_2_59 rfl ?_
  refine va_get (D := (dC, dI)) (ci := 16) (v := .int 1) (C := RX16) (T := TX16) (N := 123) hx hb hts wh_X16_feed_2_X16 hown hK hP 0 rfl rfl 3 (by decide) (hts (.fieldLink RX16 972 "StreamHouseModel" "taped" "I") (wm_X16_feed_2 4 rfl)) (fun _ h9 => h9) rfl dX16_feed_2_60 ?_
  refine lv_dup_x1 hx hb dX16_feed_2_63 rfl rfl ?_
  refine lv_iconst (v := 1) hx hb dX16_feed_2_64 (by decide) ?_
  refine lv_iadd hx hb dX16_feed_2_65 ?_
  refine W.eq (g2 := F0 m 66 ls [.int 2, .ref h0, .int 1, .ref h1]) rfl ?_
  refine va_put (D := (dC, dI)) (ci := 16) (v := .int 2) (ty := .int) (C := RX16) (T := TX16) (N := 123) hx hb hts wh_X16_feed_2_X16 tyX16 tyX16_ok nmX16 hown hK hP hD hS 0 rfl rfl 3 (by decide) (hts (.fieldLink RX16 972 "StreamHouseModel" "taped" "I") (wm_X16_feed_2 4 rfl)) (fun _ h9 => h9) rfl (by decide +kernel) rfl rfl (Nat.le_of_ble_eq_true rfl) dX16_feed_2_66 (fun H locs hP hD hS => ?_)
  have hP : va_P (dC, dI) vwCl [(h0, .inr (16, [.int 0, m1, .ref h1, .int 2, .int 0, m5, m6, m7, m8, m9, m10, m11, m12, m13, m14, m15, m16, .null, m18, m19, m20, m21, m22, m23, m24, m25, m26, .int 0, m28, m29, .int 0, .int 0, .int 0, m33, m34, m35, .int 0, m37, m38, m39, m40, m41, m42, m43, m44, m45, m46, m47, m48, m49, .int 0, m51, m52, m53, m54, m55, m56, m57, m58, m59, m60, m61, m62, m63, m64, m65, m66, m67, m68, m69, m70, m71, m72, m73, m74, m75, m76, m77, m78, m79, m80, m81, m82, m83, m84, m85, m86, m87, m88, m89, m90, m91, .int 0, .int 0, m94, m95, m96, m97, m98, m99, m100, m101, m102, m103, m104, m105, m106, m107, m108, m109, .long 0, .long 0, .int 0, m113, m114, m115, m116, m117, m118, m119, m120, m121, m122])), (h1, .inl (cB, 1500, .inl (upd f1 0 (vp_nar .byte y7))))] H := hP
  have hD : va_D A [(h0, .inr (16, [.int 0, m1, .ref h1, .int 2, .int 0, m5, m6, m7, m8, m9, m10, m11, m12, m13, m14, m15, m16, .null, m18, m19, m20, m21, m22, m23, m24, m25, m26, .int 0, m28, m29, .int 0, .int 0, .int 0, m33, m34, m35, .int 0, m37, m38, m39, m40, m41, m42, m43, m44, m45, m46, m47, m48, m49, .int 0, m51, m52, m53, m54, m55, m56, m57, m58, m59, m60, m61, m62, m63, m64, m65, m66, m67, m68, m69, m70, m71, m72, m73, m74, m75, m76, m77, m78, m79, m80, m81, m82, m83, m84, m85, m86, m87, m88, m89, m90, m91, .int 0, .int 0, m94, m95, m96, m97, m98, m99, m100, m101, m102, m103, m104, m105, m106, m107, m108, m109, .long 0, .long 0, .int 0, m113, m114, m115, m116, m117, m118, m119, m120, m121, m122])), (h1, .inl (cB, 1500, .inl (upd f1 0 (vp_nar .byte y7))))] := hD
  refine lv_lload_n hx hb dX16_feed_2_69 rfl (lv_at hl 2 rfl) ?_
  refine lv_bipush (v := 8) hx hb dX16_feed_2_70 (by decide) ?_
  refine lv_iload hx hb dX16_feed_2_72 (lv_at hl 0 rfl) ?_
  refine lv_imul hx hb dX16_feed_2_74 ?_
  refine W.eq (g2 := F0 m 75 ls [.int 0, .long g1, .int 1, .ref h1]) rfl ?_
  refine lv_lshr (v := _) hx hb dX16_feed_2_75 rfl ?_
  refine lv_topl (fun y8 _ => ?_)
  refine lv_l2i (v := _) hx hb dX16_feed_2_76 rfl ?_
  refine lv_topi (fun y9 _ => ?_)
  refine lv_i2b (v := _) hx hb dX16_feed_2_77 rfl ?_
  refine lv_topi (fun y10 _ => ?_)
  refine va_bast hx hb hK hP hD hS 1 0 rfl rfl (by unfold vp_in; decide) dX16_feed_2_78 (fun H locs hP hD hS => ?_)
  have hP : va_P (dC, dI) vwCl [(h0, .inr (16, [.int 0, m1, .ref h1, .int 2, .int 0, m5, m6, m7, m8, m9, m10, m11, m12, m13, m14, m15, m16, .null, m18, m19, m20, m21, m22, m23, m24, m25, m26, .int 0, m28, m29, .int 0, .int 0, .int 0, m33, m34, m35, .int 0, m37, m38, m39, m40, m41, m42, m43, m44, m45, m46, m47, m48, m49, .int 0, m51, m52, m53, m54, m55, m56, m57, m58, m59, m60, m61, m62, m63, m64, m65, m66, m67, m68, m69, m70, m71, m72, m73, m74, m75, m76, m77, m78, m79, m80, m81, m82, m83, m84, m85, m86, m87, m88, m89, m90, m91, .int 0, .int 0, m94, m95, m96, m97, m98, m99, m100, m101, m102, m103, m104, m105, m106, m107, m108, m109, .long 0, .long 0, .int 0, m113, m114, m115, m116, m117, m118, m119, m120, m121, m122])), (h1, .inl (cB, 1500, .inl (upd (upd f1 0 (vp_nar .byte y7)) 1 (vp_nar .byte y10))))] H := hP
  have hD : va_D A [(h0, .inr (16, [.int 0, m1, .ref h1, .int 2, .int 0, m5, m6, m7, m8, m9, m10, m11, m12, m13, m14, m15, m16, .null, m18, m19, m20, m21, m22, m23, m24, m25, m26, .int 0, m28, m29, .int 0, .int 0, .int 0, m33, m34, m35, .int 0, m37, m38, m39, m40, m41, m42, m43, m44, m45, m46, m47, m48, m49, .int 0, m51, m52, m53, m54, m55, m56, m57, m58, m59, m60, m61, m62, m63, m64, m65, m66, m67, m68, m69, m70, m71, m72, m73, m74, m75, m76, m77, m78, m79, m80, m81, m82, m83, m84, m85, m86, m87, m88, m89, m90, m91, .int 0, .int 0, m94, m95, m96, m97, m98, m99, m100, m101, m102, m103, m104, m105, m106, m107, m108, m109, .long 0, .long 0, .int 0, m113, m114, m115, m116, m117, m118, m119, m120, m121, m122])), (h1, .inl (cB, 1500, .inl (upd (upd f1 0 (vp_nar .byte y7)) 1 (vp_nar .byte y10))))] := hD
  refine lv_iinc (k := 0) (v := (-1)) (lv' := [(4, .int ((-1))), (0, .ref h0), (1, .long g1), (3, .int 2)]) hx hb dX16_feed_2_79 hl rfl (by decide) (by decide) rfl (fun ls hl => ?_)
  refine lv_goto (tgt := 42) hx hb dX16_feed_2_82 (by decide) ?_
  refine lv_iload hx hb dX16_feed_2_42 (lv_at hl 0 rfl) ?_
  refine lv_if_lt (tgt := 85) hx hb dX16_feed_2_44 (by decide) (fun _ => ?_) (fun h9 => absurd (by decide) h9)
  refine lv_aload_n hx hb dX16_feed_2_85 rfl (lv_at hl 1 rfl) ?_
  refine va_get (D := (dC, dI)) (ci := 16) (v := .int 0) (C := RX16) (T := TX16) (N := 123) hx hb hts wh_X16_feed_2_X16 hown hK hP 0 rfl rfl 0 (by decide) (hts (.fieldLink RX16 1 "StreamHouseModel" "code" "I") (wm_X16_feed_2 5 rfl)) (fun _ h9 => h9) rfl dX16_feed_2_86 ?_
  refine lv_if_le (tgt := 96) hx hb dX16_feed_2_89 (by decide) (fun _ => ?_) (fun h9 => absurd (by decide) h9)
  refine lv_aload_n hx hb dX16_feed_2_96 rfl (lv_at hl 1 rfl) ?_
  refine va_get (D := (dC, dI)) (ci := 16) (v := .int 2) (C := RX16) (T := TX16) (N := 123) hx hb hts wh_X16_feed_2_X16 hown hK hP 0 rfl rfl 3 (by decide) (hts (.fieldLink RX16 972 "StreamHouseModel" "taped" "I") (wm_X16_feed_2 4 rfl)) (fun _ h9 => h9) rfl dX16_feed_2_97 ?_
  have hP9 := hP.sub (ws' := [(h0, .inr (16, [.int 0, m1, .ref h1, .int 2, .int 0, m5, m6, m7, m8, m9, m10, m11, m12, m13, m14, m15, m16, .null, m18, m19, m20, m21, m22, m23, m24, m25, m26, .int 0, m28, m29, .int 0, .int 0, .int 0, m33, m34, m35, .int 0, m37, m38, m39, m40, m41, m42, m43, m44, m45, m46, m47, m48, m49, .int 0, m51, m52, m53, m54, m55, m56, m57, m58, m59, m60, m61, m62, m63, m64, m65, m66, m67, m68, m69, m70, m71, m72, m73, m74, m75, m76, m77, m78, m79, m80, m81, m82, m83, m84, m85, m86, m87, m88, m89, m90, m91, .int 0, .int 0, m94, m95, m96, m97, m98, m99, m100, m101, m102, m103, m104, m105, m106, m107, m108, m109, .long 0, .long 0, .int 0, m113, m114, m115, m116, m117, m118, m119, m120, m121, m122]))]) [0] rfl
  have hD9 := hD.sub (ws' := [(h0, .inr (16, [.int 0, m1, .ref h1, .int 2, .int 0, m5, m6, m7, m8, m9, m10, m11, m12, m13, m14, m15, m16, .null, m18, m19, m20, m21, m22, m23, m24, m25, m26, .int 0, m28, m29, .int 0, .int 0, .int 0, m33, m34, m35, .int 0, m37, m38, m39, m40, m41, m42, m43, m44, m45, m46, m47, m48, m49, .int 0, m51, m52, m53, m54, m55, m56, m57, m58, m59, m60, m61, m62, m63, m64, m65, m66, m67, m68, m69, m70, m71, m72, m73, m74, m75, m76, m77, m78, m79, m80, m81, m82, m83, m84, m85, m86, m87, m88, m89, m90, m91, .int 0, .int 0, m94, m95, m96, m97, m98, m99, m100, m101, m102, m103, m104, m105, m106, m107, m108, m109, .long 0, .long 0, .int 0, m113, m114, m115, m116, m117, m118, m119, m120, m121, m122]))]) [0] (by decide) rfl
  have hK9 := hK.sub (tys' := []) [] rfl
  refine W.widen (k := 0) (n := 0) (by decide) (by decide) ?_
  exact W.iret (v := 2) hx hb hr (fun t ht hW => ⟨⟨2, (), rfl, rfl, by rw [ht]; exact hP9, va_K.moved hW.alike hK9, hD9⟩, hS.F ht⟩) hS.2.2 dX16_feed_2_100

abbrev ar_X16_feed_3 (dC : Nat → ClassId) (dI : Nat → Nat → Nat) (A : Nat → Prop) (h0 h1 : Nat) (g1 : Int64) (cB : ClassId) (f1 : Nat → Int32) (m0 m1 m5 m6 m7 m8 m9 m10 m11 m12 m13 m14 m15 m16 m18 m19 m20 m21 m22 m23 m24 m25 m26 m28 m29 m33 m34 m35 m37 m38 m39 m40 m41 m42 m43 m44 m45 m46 m47 m48 m49 m51 m52 m53 m54 m55 m56 m57 m58 m59 m60 m61 m62 m63 m64 m65 m66 m67 m68 m69 m70 m71 m72 m73 m74 m75 m76 m77 m78 m79 m80 m81 m82 m83 m84 m85 m86 m87 m88 m89 m90 m91 m94 m95 m96 m97 m98 m99 m100 m101 m102 m103 m104 m105 m106 m107 m108 m109 m113 m114 m115 m116 m117 m118 m119 m120 m121 m122 : Value) (_ : Unit) (t : State) : Prop := va_P (dC, dI) vwCl [(h0, .inr (16, [.int 0, m1, .ref h1, .int 3, .int 0, m5, m6, m7, m8, m9, m10, m11, m12, m13, m14, m15, m16, .null, m18, m19, m20, m21, m22, m23, m24, m25, m26, .int 0, m28, m29, .int 0, .int 0, .int 0, m33, m34, m35, .int 0, m37, m38, m39, m40, m41, m42, m43, m44, m45, m46, m47, m48, m49, .int 0, m51, m52, m53, m54, m55, m56, m57, m58, m59, m60, m61, m62, m63, m64, m65, m66, m67, m68, m69, m70, m71, m72, m73, m74, m75, m76, m77, m78, m79, m80, m81, m82, m83, m84, m85, m86, m87, m88, m89, m90, m91, .int 0, .int 0, m94, m95, m96, m97, m98, m99, m100, m101, m102, m103, m104, m105, m106, m107, m108, m109, .long 0, .long 0, .int 0, m113, m114, m115, m116, m117, m118, m119, m120, m121, m122]))] t.heap ∧ va_K (dC, dI) vwCl [] t ∧ va_D A [(h0, .inr (16, [.int 0, m1, .ref h1, .int 3, .int 0, m5, m6, m7, m8, m9, m10, m11, m12, m13, m14, m15, m16, .null, m18, m19, m20, m21, m22, m23, m24, m25, m26, .int 0, m28, m29, .int 0, .int 0, .int 0, m33, m34, m35, .int 0, m37, m38, m39, m40, m41, m42, m43, m44, m45, m46, m47, m48, m49, .int 0, m51, m52, m53, m54, m55, m56, m57, m58, m59, m60, m61, m62, m63, m64, m65, m66, m67, m68, m69, m70, m71, m72, m73, m74, m75, m76, m77, m78, m79, m80, m81, m82, m83, m84, m85, m86, m87, m88, m89, m90, m91, .int 0, .int 0, m94, m95, m96, m97, m98, m99, m100, m101, m102, m103, m104, m105, m106, m107, m108, m109, .long 0, .long 0, .int 0, m113, m114, m115, m116, m117, m118, m119, m120, m121, m122]))]
theorem dX16_feed_3_0 : decode cX16_feed 0 = .ok (.aload_n 0, 1) := by decide +kernel
theorem dX16_feed_3_1 : decode cX16_feed 1 = .ok (.iload_n 3, 1) := by decide +kernel
theorem dX16_feed_3_2 : decode cX16_feed 2 = .ok (.i2l, 1) := by decide +kernel
theorem dX16_feed_3_3 : decode cX16_feed 3 = .ok (.lconst 1, 1) := by decide +kernel
theorem dX16_feed_3_4 : decode cX16_feed 4 = .ok (.ldc2_w 250, 3) := by decide +kernel
theorem dX16_feed_3_7 : decode cX16_feed 7 = .ok (.invokestatic 45, 3) := by decide +kernel
theorem dX16_feed_3_10 : decode cX16_feed 10 = .ok (.ifCond .ne 7, 3) := by decide +kernel
theorem dX16_feed_3_17 : decode cX16_feed 17 = .ok (.aload_n 0, 1) := by decide +kernel
theorem dX16_feed_3_18 : decode cX16_feed 18 = .ok (.getfield 972, 3) := by decide +kernel
theorem dX16_feed_3_21 : decode cX16_feed 21 = .ok (.iload_n 3, 1) := by decide +kernel
theorem dX16_feed_3_22 : decode cX16_feed 22 = .ok (.iadd, 1) := by decide +kernel
theorem dX16_feed_3_23 : decode cX16_feed 23 = .ok (.sipush 1500, 3) := by decide +kernel
theorem dX16_feed_3_26 : decode cX16_feed 26 = .ok (.if_icmp .le 7, 3) := by decide +kernel
theorem dX16_feed_3_33 : decode cX16_feed 33 = .ok (.iconst 0, 1) := by decide +kernel
theorem dX16_feed_3_34 : decode cX16_feed 34 = .ok (.putfield 1, 3) := by decide +kernel
theorem dX16_feed_3_37 : decode cX16_feed 37 = .ok (.iload_n 3, 1) := by decide +kernel
theorem dX16_feed_3_38 : decode cX16_feed 38 = .ok (.iconst 1, 1) := by decide +kernel
theorem dX16_feed_3_39 : decode cX16_feed 39 = .ok (.isub, 1) := by decide +kernel
theorem dX16_feed_3_40 : decode cX16_feed 40 = .ok (.istore 4, 2) := by decide +kernel
theorem dX16_feed_3_42 : decode cX16_feed 42 = .ok (.iload 4, 2) := by decide +kernel
theorem dX16_feed_3_44 : decode cX16_feed 44 = .ok (.ifCond .lt 41, 3) := by decide +kernel
theorem dX16_feed_3_47 : decode cX16_feed 47 = .ok (.aload_n 0, 1) := by decide +kernel
theorem dX16_feed_3_48 : decode cX16_feed 48 = .ok (.getfield 1, 3) := by decide +kernel
theorem dX16_feed_3_51 : decode cX16_feed 51 = .ok (.ifCond .ne 34, 3) := by decide +kernel
theorem dX16_feed_3_54 : decode cX16_feed 54 = .ok (.aload_n 0, 1) := by decide +kernel
theorem dX16_feed_3_55 : decode cX16_feed 55 = .ok (.getfield 20, 3) := by decide +kernel
theorem dX16_feed_3_58 : decode cX16_feed 58 = .ok (.aload_n 0, 1) := by decide +kernel
theorem dX16_feed_3_59 : decode cX16_feed 59 = .ok (.dup, 1) := by decide +kernel
theorem dX16_feed_3_60 : decode cX16_feed 60 = .ok (.getfield 972, 3) := by decide +kernel
theorem dX16_feed_3_63 : decode cX16_feed 63 = .ok (.dup_x1, 1) := by decide +kernel
theorem dX16_feed_3_64 : decode cX16_feed 64 = .ok (.iconst 1, 1) := by decide +kernel
theorem dX16_feed_3_65 : decode cX16_feed 65 = .ok (.iadd, 1) := by decide +kernel
theorem dX16_feed_3_66 : decode cX16_feed 66 = .ok (.putfield 972, 3) := by decide +kernel
theorem dX16_feed_3_69 : decode cX16_feed 69 = .ok (.lload_n 1, 1) := by decide +kernel
theorem dX16_feed_3_70 : decode cX16_feed 70 = .ok (.bipush 8, 2) := by decide +kernel
theorem dX16_feed_3_72 : decode cX16_feed 72 = .ok (.iload 4, 2) := by decide +kernel
theorem dX16_feed_3_74 : decode cX16_feed 74 = .ok (.imul, 1) := by decide +kernel
theorem dX16_feed_3_75 : decode cX16_feed 75 = .ok (.lshr, 1) := by decide +kernel
theorem dX16_feed_3_76 : decode cX16_feed 76 = .ok (.l2i, 1) := by decide +kernel
theorem dX16_feed_3_77 : decode cX16_feed 77 = .ok (.i2b, 1) := by decide +kernel
theorem dX16_feed_3_78 : decode cX16_feed 78 = .ok (.bastore, 1) := by decide +kernel
theorem dX16_feed_3_79 : decode cX16_feed 79 = .ok (.iinc 4 (-1), 3) := by decide +kernel
theorem dX16_feed_3_82 : decode cX16_feed 82 = .ok (.goto (-40), 3) := by decide +kernel
theorem dX16_feed_3_85 : decode cX16_feed 85 = .ok (.aload_n 0, 1) := by decide +kernel
theorem dX16_feed_3_86 : decode cX16_feed 86 = .ok (.getfield 1, 3) := by decide +kernel
theorem dX16_feed_3_89 : decode cX16_feed 89 = .ok (.ifCond .le 7, 3) := by decide +kernel
theorem dX16_feed_3_96 : decode cX16_feed 96 = .ok (.aload_n 0, 1) := by decide +kernel
theorem dX16_feed_3_97 : decode cX16_feed 97 = .ok (.getfield 972, 3) := by decide +kernel
theorem dX16_feed_3_100 : decode cX16_feed 100 = .ok (.ireturn, 1) := by decide +kernel
def ww_X16_feed_3 : List Cond := [.constantLong RX16 250 8, .initialized RX16, .methodLink RX16 45 yX16_within, .static yX16_within, .fieldLink RX16 972 "StreamHouseModel" "taped" "I", .fieldLink RX16 1 "StreamHouseModel" "code" "I", .fieldLink RX16 20 "StreamHouseModel" "tape" "[B"]
def wv_X16_feed_3 : List Cond := .code yX16_feed cX16_feed 5 (some .int) :: (ww_X16_feed_3 ++ (wv_X16_within_1 ++ (u_ws RX16 TX16 123 ++ [])))
theorem wm_X16_feed_3 {w : Cond} (i : Nat) (h : ww_X16_feed_3[i]? = some w) : w ∈ wv_X16_feed_3 := List.mem_cons_of_mem _ (List.mem_append_left _ (List.mem_of_getElem? h))
set_option maxRecDepth 100000 in
theorem gw_X16_feed_3 : wv_X16_feed_3.all goodWord = true := by decide +kernel
theorem wg_X16_feed_3_X16_within_1 : GoodIn wv_X16_feed_3 wv_X16_within_1 := goodIn_sub (fun w h => List.mem_cons_of_mem _ (List.mem_append_right _ (List.mem_append_left _ h))) gw_X16_within_1
theorem wt_X16_feed_3_X16_within_1 : GoodIn wv_X16_feed_3 (va_wsS RX16 45 yX16_within wv_X16_within_1) := goodIn_app (goodIn_sub (fun w h => by simp only [List.mem_cons, List.not_mem_nil, or_false] at h; rcases h with rfl | rfl | rfl <;> first | exact wm_X16_feed_3 2 rfl | exact wm_X16_feed_3 3 rfl | exact wm_X16_feed_3 1 rfl) (by decide +kernel)) wg_X16_feed_3_X16_within_1
theorem wh_X16_feed_3_X16 : ∀ w ∈ u_ws RX16 TX16 123, w ∈ wv_X16_feed_3 := fun w h => List.mem_cons_of_mem _ (List.mem_append_right _ (List.mem_append_right _ (List.mem_append_left _ h)))
set_option maxHeartbeats 4000000 in
set_option maxRecDepth 100000 in
/-- feed(g, 3) of the fresh reference -/
theorem r_X16_feed_3 (l : Launch) (dC : Nat → ClassId) (dI : Nat → Nat → Nat) (h0 h1 : Nat) (g1 : Int64) (cB : ClassId) (f1 : Nat → Int32) (m0 m1 m5 m6 m7 m8 m9 m10 m11 m12 m13 m14 m15 m16 m18 m19 m20 m21 m22 m23 m24 m25 m26 m28 m29 m33 m34 m35 m37 m38 m39 m40 m41 m42 m43 m44 m45 m46 m47 m48 m49 m51 m52 m53 m54 m55 m56 m57 m58 m59 m60 m61 m62 m63 m64 m65 m66 m67 m68 m69 m70 m71 m72 m73 m74 m75 m76 m77 m78 m79 m80 m81 m82 m83 m84 m85 m86 m87 m88 m89 m90 m91 m94 m95 m96 m97 m98 m99 m100 m101 m102 m103 m104 m105 m106 m107 m108 m109 m113 m114 m115 m116 m117 m118 m119 m120 m121 m122 : Value) (sz : Nat) : Met l yX16_feed wv_X16_feed_3 ({ frames := 1, cells := 0, slots := 0, locals := 25 }) (va_Pc [.ref h0, .long g1, .int 3] (fun U => U.heap.size = sz ∧ va_P (dC, dI) vwCl [(h0, .inr (16, [m0, m1, .ref h1, .int 0, .int 0, m5, m6, m7, m8, m9, m10, m11, m12, m13, m14, m15, m16, .null, m18, m19, m20, m21, m22, m23, m24, m25, m26, .int 0, m28, m29, .int 0, .int 0, .int 0, m33, m34, m35, .int 0, m37, m38, m39, m40, m41, m42, m43, m44, m45, m46, m47, m48, m49, .int 0, m51, m52, m53, m54, m55, m56, m57, m58, m59, m60, m61, m62, m63, m64, m65, m66, m67, m68, m69, m70, m71, m72, m73, m74, m75, m76, m77, m78, m79, m80, m81, m82, m83, m84, m85, m86, m87, m88, m89, m90, m91, .int 0, .int 0, m94, m95, m96, m97, m98, m99, m100, m101, m102, m103, m104, m105, m106, m107, m108, m109, .long 0, .long 0, .int 0, m113, m114, m115, m116, m117, m118, m119, m120, m121, m122])), (h1, .inl (cB, 1500, .inl f1))] U.heap ∧ va_K (dC, dI) vwCl [(cB, .byte)] U ∧ va_D (fun _ => True) [(h0, .inr (16, [m0, m1, .ref h1, .int 0, .int 0, m5, m6, m7, m8, m9, m10, m11, m12, m13, m14, m15, m16, .null, m18, m19, m20, m21, m22, m23, m24, m25, m26, .int 0, m28, m29, .int 0, .int 0, .int 0, m33, m34, m35, .int 0, m37, m38, m39, m40, m41, m42, m43, m44, m45, m46, m47, m48, m49, .int 0, m51, m52, m53, m54, m55, m56, m57, m58, m59, m60, m61, m62, m63, m64, m65, m66, m67, m68, m69, m70, m71, m72, m73, m74, m75, m76, m77, m78, m79, m80, m81, m82, m83, m84, m85, m86, m87, m88, m89, m90, m91, .int 0, .int 0, m94, m95, m96, m97, m98, m99, m100, m101, m102, m103, m104, m105, m106, m107, m108, m109, .long 0, .long 0, .int 0, m113, m114, m115, m116, m117, m118, m119, m120, m121, m122])), (h1, .inl (cB, 1500, .inl f1))])) (va_Qi (fun r (_ : Unit) => r = 3) (ar_X16_feed_3 dC dI (va_A [(h0, .inr (16, [m0, m1, .ref h1, .int 0, .int 0, m5, m6, m7, m8, m9, m10, m11, m12, m13, m14, m15, m16, .null, m18, m19, m20, m21, m22, m23, m24, m25, m26, .int 0, m28, m29, .int 0, .int 0, .int 0, m33, m34, m35, .int 0, m37, m38, m39, m40, m41, m42, m43, m44, m45, m46, m47, m48, m49, .int 0, m51, m52, m53, m54, m55, m56, m57, m58, m59, m60, m61, m62, m63, m64, m65, m66, m67, m68, m69, m70, m71, m72, m73, m74, m75, m76, m77, m78, m79, m80, m81, m82, m83, m84, m85, m86, m87, m88, m89, m90, m91, .int 0, .int 0, m94, m95, m96, m97, m98, m99, m100, m101, m102, m103, m104, m105, m106, m107, m108, m109, .long 0, .long 0, .int 0, m113, m114, m115, m116, m117, m118, m119, m120, m121, m122])), (h1, .inl (cB, 1500, .inl f1))] sz) h0 h1 g1 cB f1 m0 m1 m5 m6 m7 m8 m9 m10 m11 m12 m13 m14 m15 m16 m18 m19 m20 m21 m22 m23 m24 m25 m26 m28 m29 m33 m34 m35 m37 m38 m39 m40 m41 m42 m43 m44 m45 m46 m47 m48 m49 m51 m52 m53 m54 m55 m56 m57 m58 m59 m60 m61 m62 m63 m64 m65 m66 m67 m68 m69 m70 m71 m72 m73 m74 m75 m76 m77 m78 m79 m80 m81 m82 m83 m84 m85 m86 m87 m88 m89 m90 m91 m94 m95 m96 m97 m98 m99 m100 m101 m102 m103 m104 m105 m106 m107 m108 m109 m113 m114 m115 m116 m117 m118 m119 m120 m121 m122) (va_A [(h0, .inr (16, [m0, m1, .ref h1, .int 0, .int 0, m5, m6, m7, m8, m9, m10, m11, m12, m13, m14, m15, m16, .null, m18, m19, m20, m21, m22, m23, m24, m25, m26, .int 0, m28, m29, .int 0, .int 0, .int 0, m33, m34, m35, .int 0, m37, m38, m39, m40, m41, m42, m43, m44, m45, m46, m47, m48, m49, .int 0, m51, m52, m53, m54, m55, m56, m57, m58, m59, m60, m61, m62, m63, m64, m65, m66, m67, m68, m69, m70, m71, m72, m73, m74, m75, m76, m77, m78, m79, m80, m81, m82, m83, m84, m85, m86, m87, m88, m89, m90, m91, .int 0, .int 0, m94, m95, m96, m97, m98, m99, m100, m101, m102, m103, m104, m105, m106, m107, m108, m109, .long 0, .long 0, .int 0, m113, m114, m115, m116, m117, m118, m119, m120, m121, m122])), (h1, .inl (cB, 1500, .inl f1))] sz)) 0 0 (va_A [(h0, .inr (16, [m0, m1, .ref h1, .int 0, .int 0, m5, m6, m7, m8, m9, m10, m11, m12, m13, m14, m15, m16, .null, m18, m19, m20, m21, m22, m23, m24, m25, m26, .int 0, m28, m29, .int 0, .int 0, .int 0, m33, m34, m35, .int 0, m37, m38, m39, m40, m41, m42, m43, m44, m45, m46, m47, m48, m49, .int 0, m51, m52, m53, m54, m55, m56, m57, m58, m59, m60, m61, m62, m63, m64, m65, m66, m67, m68, m69, m70, m71, m72, m73, m74, m75, m76, m77, m78, m79, m80, m81, m82, m83, m84, m85, m86, m87, m88, m89, m90, m91, .int 0, .int 0, m94, m95, m96, m97, m98, m99, m100, m101, m102, m103, m104, m105, m106, m107, m108, m109, .long 0, .long 0, .int 0, m113, m114, m115, m116, m117, m118, m119, m120, m121, m122])), (h1, .inl (cB, 1500, .inl f1))] sz) := by
  refine Met.ofW (cc := cX16_feed) (maxL := 5) (ret := (some .int)) (by decide) rfl ?_
  intro p e s m args below meth c s₁ B hml hv
  obtain ⟨rfl, hsz, hP, hK, hD0⟩ := hv
  have hx := B.exec
  have hb := B.bytes
  have hr := B.returns
  have hts := atoms_spec (ws := wv_X16_feed_3) B.pre
  have hown : s.vm.findClass RX16 = some m.cls := findClass_of_methodNamed B.named
  have hlocks := B.notSynchronized
  subst hsz
  have hD := hD0.self (sz := s.heap.size)
  generalize hAe : va_A [(h0, .inr (16, [m0, m1, .ref h1, .int 0, .int 0, m5, m6, m7, m8, m9, m10, m11, m12, m13, m14, m15, m16, .null, m18, m19, m20, m21, m22, m23, m24, m25, m26, .int 0, m28, m29, .int 0, .int 0, .int 0, m33, m34, m35, .int 0, m37, m38, m39, m40, m41, m42, m43, m44, m45, m46, m47, m48, m49, .int 0, m51, m52, m53, m54, m55, m56, m57, m58, m59, m60, m61, m62, m63, m64, m65, m66, m67, m68, m69, m70, m71, m72, m73, m74, m75, m76, m77, m78, m79, m80, m81, m82, m83, m84, m85, m86, m87, m88, m89, m90, m91, .int 0, .int 0, m94, m95, m96, m97, m98, m99, m100, m101, m102, m103, m104, m105, m106, m107, m108, m109, .long 0, .long 0, .int 0, m113, m114, m115, m116, m117, m118, m119, m120, m121, m122])), (h1, .inl (cB, 1500, .inl f1))] s.heap.size = A at hD ⊢
  have hA : ∀ q : Nat, s.heap.size ≤ q → A q := fun q h => by rw [← hAe]; exact Or.inr h
  have hS : va_S A s.heap s.heap [] := va_S.rf
  have hP : va_P (dC, dI) vwCl [(h0, .inr (16, [m0, m1, .ref h1, .int 0, .int 0, m5, m6, m7, m8, m9, m10, m11, m12, m13, m14, m15, m16, .null, m18, m19, m20, m21, m22, m23, m24, m25, m26, .int 0, m28, m29, .int 0, .int 0, .int 0, m33, m34, m35, .int 0, m37, m38, m39, m40, m41, m42, m43, m44, m45, m46, m47, m48, m49, .int 0, m51, m52, m53, m54, m55, m56, m57, m58, m59, m60, m61, m62, m63, m64, m65, m66, m67, m68, m69, m70, m71, m72, m73, m74, m75, m76, m77, m78, m79, m80, m81, m82, m83, m84, m85, m86, m87, m88, m89, m90, m91, .int 0, .int 0, m94, m95, m96, m97, m98, m99, m100, m101, m102, m103, m104, m105, m106, m107, m108, m109, .long 0, .long 0, .int 0, m113, m114, m115, m116, m117, m118, m119, m120, m121, m122])), (h1, .inl (cB, 1500, .inl f1))] s.heap := hP
  have hl := lv_entry ([.ref h0, .long g1, .int 3]) (n := 5) (Nat.le_of_ble_eq_true rfl)
  rw [lg_entry_eq]
  generalize (lg_sl ([.ref h0, .long g1, .int 3]) ++ List.replicate (5 - (lg_sl ([.ref h0, .long g1, .int 3])).length) Slot.unset).toArray = ls at hl ⊢
  have hl : lv_has ls 5 [(0, .ref h0), (1, .long g1), (3, .int 3)] := hl
  refine lv_aload_n hx hb dX16_feed_3_0 rfl (lv_at hl 0 rfl) ?_
  refine lv_iload_n hx hb dX16_feed_3_1 rfl (lv_at hl 2 rfl) ?_
  refine lv_i2l (v := 3) hx hb dX16_feed_3_2 (by decide) ?_
  refine lv_lconst (v := 1) hx hb dX16_feed_3_3 (by decide) ?_
  refine lv_ldc2 hx hb hown (hts (.constantLong RX16 250 8) (wm_X16_feed_3 0 rfl)) dX16_feed_3_4 ?_
  have hPc := hP.sub (ws' := []) [] rfl
  have hDc := hD.sub (ws' := []) [] (by decide) rfl
  have hKc := hK.sub (tys' := []) [] rfl
  have hFc := va_free (wc := []) hD hS hA [] rfl
  have h_1 : 0 ≤ 0 := by decide
  have h_2 : 0 ≤ 0 := by decide
  refine va_calli (va_runS (As := [.long 3, .long 1, .long 8]) (rest := [.ref h0]) ⟨hx, hb, hml, hown, hts⟩ (r_X16_within_1 l dC dI 3 1 8 _) (va_cwS 3 hts wt_X16_feed_3_X16_within_1 rfl rfl rfl (by decide +kernel) ⟨Nat.le_of_ble_eq_true rfl, Nat.le_of_ble_eq_true rfl⟩) ⟨fun a U g mk q => by obtain ⟨q0, q1, qP, qK, qD, qp⟩ := q; exact ⟨q0, q1, qP, va_K.moved (u := U) (U := U.calling g mk a) (Vm.Alike.refl U.vm) qK, qD, qp⟩, fun U hU hW => ⟨rfl, by rw [hU], by rw [hU]; exact hPc, va_K.moved hW.alike hKc, hDc.weaken (fun _ _ _ _ => trivial), ⟨by decide, by decide⟩⟩⟩ rfl rfl hl.1 rfl (lv_room (Nat.le_of_ble_eq_true rfl)) dX16_feed_3_7 ⟨h_1, h_2⟩) hS (fun q _ h => hFc q h) hFc (fun y4 u3 t H1 locs ht hvm hw hB hz1 hk1 hS => ?_)
  obtain ⟨hP1, hK1, hD1⟩ := hB
  rw [ht] at hP1
  have hK1 := va_K.moved hvm.symm hK1
  obtain ⟨hP, hD⟩ := va_join (wr := [(h0, .inr (16, [m0, m1, .ref h1, .int 0, .int 0, m5, m6, m7, m8, m9, m10, m11, m12, m13, m14, m15, m16, .null, m18, m19, m20, m21, m22, m23, m24, m25, m26, .int 0, m28, m29, .int 0, .int 0, .int 0, m33, m34, m35, .int 0, m37, m38, m39, m40, m41, m42, m43, m44, m45, m46, m47, m48, m49, .int 0, m51, m52, m53, m54, m55, m56, m57, m58, m59, m60, m61, m62, m63, m64, m65, m66, m67, m68, m69, m70, m71, m72, m73, m74, m75, m76, m77, m78, m79, m80, m81, m82, m83, m84, m85, m86, m87, m88, m89, m90, m91, .int 0, .int 0, m94, m95, m96, m97, m98, m99, m100, m101, m102, m103, m104, m105, m106, m107, m108, m109, .long 0, .long 0, .int 0, m113, m114, m115, m116, m117, m118, m119, m120, m121, m122])), (h1, .inl (cB, 1500, .inl f1))]) (w1 := []) hP hD [] [0, 1] rfl rfl (by decide) (by decide) hk1 hFc hP1 hD1
  have hK := (hK.sub (tys' := [(cB, .byte)]) [0] rfl).app hK1
  generalize H1 = H at hP hS ⊢
  have hP : va_P (dC, dI) vwCl [(h0, .inr (16, [m0, m1, .ref h1, .int 0, .int 0, m5, m6, m7, m8, m9, m10, m11, m12, m13, m14, m15, m16, .null, m18, m19, m20, m21, m22, m23, m24, m25, m26, .int 0, m28, m29, .int 0, .int 0, .int 0, m33, m34, m35, .int 0, m37, m38, m39, m40, m41, m42, m43, m44, m45, m46, m47, m48, m49, .int 0, m51, m52, m53, m54, m55, m56, m57, m58, m59, m60, m61, m62, m63, m64, m65, m66, m67, m68, m69, m70, m71, m72, m73, m74, m75, m76, m77, m78, m79, m80, m81, m82, m83, m84, m85, m86, m87, m88, m89, m90, m91, .int 0, .int 0, m94, m95, m96, m97, m98, m99, m100, m101, m102, m103, m104, m105, m106, m107, m108, m109, .long 0, .long 0, .int 0, m113, m114, m115, m116, m117, m118, m119, m120, m121, m122])), (h1, .inl (cB, 1500, .inl f1))] H := hP
  have hD : va_D A [(h0, .inr (16, [m0, m1, .ref h1, .int 0, .int 0, m5, m6, m7, m8, m9, m10, m11, m12, m13, m14, m15, m16, .null, m18, m19, m20, m21, m22, m23, m24, m25, m26, .int 0, m28, m29, .int 0, .int 0, .int 0, m33, m34, m35, .int 0, m37, m38, m39, m40, m41, m42, m43, m44, m45, m46, m47, m48, m49, .int 0, m51, m52, m53, m54, m55, m56, m57, m58, m59, m60, m61, m62, m63, m64, m65, m66, m67, m68, m69, m70, m71, m72, m73, m74, m75, m76, m77, m78, m79, m80, m81, m82, m83, m84, m85, m86, m87, m88, m89, m90, m91, .int 0, .int 0, m94, m95, m96, m97, m98, m99, m100, m101, m102, m103, m104, m105, m106, m107, m108, m109, .long 0, .long 0, .int 0, m113, m114, m115, m116, m117, m118, m119, m120, m121, m122])), (h1, .inl (cB, 1500, .inl f1))] := hD
  have hK : va_K (dC, dI) vwCl [(cB, .byte)] s := hK
  refine W.widen (k := 0) (n := 0) (by decide) (by decide) ?_
  have hw : y4 = 1 := hw
  subst hw
  refine lv_if_ne (tgt := 17) hx hb dX16_feed_3_10 (by decide) (fun _ => ?_) (fun h9 => absurd h9 (by decide))
  refine lv_aload_n hx hb dX16_feed_3_17 rfl (lv_at hl 0 rfl) ?_
  refine va_get (D := (dC, dI)) (ci := 16) (v := .int 0) (C := RX16) (T := TX16) (N := 123) hx hb hts wh_X16_feed_3_X16 hown hK hP 0 rfl rfl 3 (by decide) (hts (.fieldLink RX16 972 "StreamHouseModel" "taped" "I") (wm_X16_feed_3 4 rfl)) (fun _ h9 => h9) rfl dX16_feed_3_18 ?_
  refine lv_iload_n hx hb dX16_feed_3_21 rfl (lv_at hl 2 rfl) ?_
  refine lv_iadd hx hb dX16_feed_3_22 ?_
  refine W.eq (g2 := F0 m 23 ls [.int 3, .ref h0]) rfl ?_
  refine lv_sipush (v := 1500) hx hb dX16_feed_3_23 (by decide) ?_
  refine lv_icmp_le (tgt := 33) hx hb dX16_feed_3_26 (by decide) (fun _ => ?_) (fun h9 => absurd (by decide) h9)
  refine lv_iconst (v := 0) hx hb dX16_feed_3_33 (by decide) ?_
  refine va_put (D := (dC, dI)) (ci := 16) (v := .int 0) (ty := .int) (C := RX16) (T := TX16) (N := 123) hx hb hts wh_X16_feed_3_X16 tyX16 tyX16_ok nmX16 hown hK hP hD hS 0 rfl rfl 0 (by decide) (hts (.fieldLink RX16 1 "StreamHouseModel" "code" "I") (wm_X16_feed_3 5 rfl)) (fun _ h9 => h9) rfl (by decide +kernel) rfl rfl (Nat.le_of_ble_eq_true rfl) dX16_feed_3_34 (fun H locs hP hD hS => ?_)
  have hP : va_P (dC, dI) vwCl [(h0, .inr (16, [.int 0, m1, .ref h1, .int 0, .int 0, m5, m6, m7, m8, m9, m10, m11, m12, m13, m14, m15, m16, .null, m18, m19, m20, m21, m22, m23, m24, m25, m26, .int 0, m28, m29, .int 0, .int 0, .int 0, m33, m34, m35, .int 0, m37, m38, m39, m40, m41, m42, m43, m44, m45, m46, m47, m48, m49, .int 0, m51, m52, m53, m54, m55, m56, m57, m58, m59, m60, m61, m62, m63, m64, m65, m66, m67, m68, m69, m70, m71, m72, m73, m74, m75, m76, m77, m78, m79, m80, m81, m82, m83, m84, m85, m86, m87, m88, m89, m90, m91, .int 0, .int 0, m94, m95, m96, m97, m98, m99, m100, m101, m102, m103, m104, m105, m106, m107, m108, m109, .long 0, .long 0, .int 0, m113, m114, m115, m116, m117, m118, m119, m120, m121, m122])), (h1, .inl (cB, 1500, .inl f1))] H := hP
  have hD : va_D A [(h0, .inr (16, [.int 0, m1, .ref h1, .int 0, .int 0, m5, m6, m7, m8, m9, m10, m11, m12, m13, m14, m15, m16, .null, m18, m19, m20, m21, m22, m23, m24, m25, m26, .int 0, m28, m29, .int 0, .int 0, .int 0, m33, m34, m35, .int 0, m37, m38, m39, m40, m41, m42, m43, m44, m45, m46, m47, m48, m49, .int 0, m51, m52, m53, m54, m55, m56, m57, m58, m59, m60, m61, m62, m63, m64, m65, m66, m67, m68, m69, m70, m71, m72, m73, m74, m75, m76, m77, m78, m79, m80, m81, m82, m83, m84, m85, m86, m87, m88, m89, m90, m91, .int 0, .int 0, m94, m95, m96, m97, m98, m99, m100, m101, m102, m103, m104, m105, m106, m107, m108, m109, .long 0, .long 0, .int 0, m113, m114, m115, m116, m117, m118, m119, m120, m121, m122])), (h1, .inl (cB, 1500, .inl f1))] := hD
  refine lv_iload_n hx hb dX16_feed_3_37 rfl (lv_at hl 2 rfl) ?_
  refine lv_iconst (v := 1) hx hb dX16_feed_3_38 (by decide) ?_
  refine lv_isub hx hb dX16_feed_3_39 ?_
  refine W.eq (g2 := F0 m 40 ls [.int 2]) rfl ?_
  refine lv_istore (lv' := [(4, .int 2), (0, .ref h0), (1, .long g1), (3, .int 3)]) hx hb dX16_feed_3_40 hl (by decide) rfl (fun ls hl => ?_)
  refine lv_iload hx hb dX16_feed_3_42 (lv_at hl 0 rfl) ?_
  refine lv_if_lt (tgt := 85) hx hb dX16_feed_3_44 (by decide) (fun h9 => absurd h9 (by decide)) (fun _ => ?_)
  refine lv_aload_n hx hb dX16_feed_3_47 rfl (lv_at hl 1 rfl) ?_
  refine va_get (D := (dC, dI)) (ci := 16) (v := .int 0) (C := RX16) (T := TX16) (N := 123) hx hb hts wh_X16_feed_3_X16 hown hK hP 0 rfl rfl 0 (by decide) (hts (.fieldLink RX16 1 "StreamHouseModel" "code" "I") (wm_X16_feed_3 5 rfl)) (fun _ h9 => h9) rfl dX16_feed_3_48 ?_
  refine lv_if_ne (tgt := 85) hx hb dX16_feed_3_51 (by decide) (fun h9 => absurd (by decide) h9) (fun _ => ?_)
  refine lv_aload_n hx hb dX16_feed_3_54 rfl (lv_at hl 1 rfl) ?_
  refine va_get (D := (dC, dI)) (ci := 16) (v := .ref h1) (C := RX16) (T := TX16) (N := 123) hx hb hts wh_X16_feed_3_X16 hown hK hP 0 rfl rfl 2 (by decide) (hts (.fieldLink RX16 20 "StreamHouseModel" "tape" "[B") (wm_X16_feed_3 6 rfl)) (fun _ h9 => h9) rfl dX16_feed_3_55 ?_
  refine lv_aload_n hx hb dX16_feed_3_58 rfl (lv_at hl 1 rfl) ?_
  refine lv_dup hx hb dX16_feed_3_59 rfl ?_
  refine va_get (D := (dC, dI)) (ci := 16) (v := .int 0) (C := RX16) (T := TX16) (N := 123) hx hb hts wh_X16_feed_3_X16 hown hK hP 0 rfl rfl 3 (by decide) (hts (.fieldLink RX16 972 "StreamHouseModel" "taped" "I") (wm_X16_feed_3 4 rfl)) (fun _ h9 => h9) rfl dX16_feed_3_60 ?_
  refine lv_dup_x1 hx hb dX16_feed_3_63 rfl rfl ?_
  refine lv_iconst (v := 1) hx hb dX16_feed_3_64 (by decide) ?_
  refine lv_iadd hx hb dX16_feed_3_65 ?_
  refine W.eq (g2 := F0 m 66 ls [.int 1, .ref h0, .int 0, .ref h1]) rfl ?_
  refine va_put (D := (dC, dI)) (ci := 16) (v := .int 1) (ty := .int) (C := RX16) (T := TX16) (N := 123) hx hb hts wh_X16_feed_3_X16 tyX16 tyX16_ok nmX16 hown hK hP hD hS 0 rfl rfl 3 (by decide) (hts (.fieldLink RX16 972 "StreamHouseModel" "taped" "I") (wm_X16_feed_3 4 rfl)) (fun _ h9 => h9) rfl (by decide +kernel) rfl rfl (Nat.le_of_ble_eq_true rfl) dX16_feed_3_66 (fun H locs hP hD hS => ?_)
  have hP : va_P (dC, dI) vwCl [(h0, .inr (16, [.int 0, m1, .ref h1, .int 1, .int 0, m5, m6, m7, m8, m9, m10, m11, m12, m13, m14, m15, m16, .null, m18, m19, m20, m21, m22, m23, m24, m25, m26, .int 0, m28, m29, .int 0, .int 0, .int 0, m33, m34, m35, .int 0, m37, m38, m39, m40, m41, m42, m43, m44, m45, m46, m47, m48, m49, .int 0, m51, m52, m53, m54, m55, m56, m57, m58, m59, m60, m61, m62, m63, m64, m65, m66, m67, m68, m69, m70, m71, m72, m73, m74, m75, m76, m77, m78, m79, m80, m81, m82, m83, m84, m85, m86, m87, m88, m89, m90, m91, .int 0, .int 0, m94, m95, m96, m97, m98, m99, m100, m101, m102, m103, m104, m105, m106, m107, m108, m109, .long 0, .long 0, .int 0, m113, m114, m115, m116, m117, m118, m119, m120, m121, m122])), (h1, .inl (cB, 1500, .inl f1))] H := hP
  have hD : va_D A [(h0, .inr (16, [.int 0, m1, .ref h1, .int 1, .int 0, m5, m6, m7, m8, m9, m10, m11, m12, m13, m14, m15, m16, .null, m18, m19, m20, m21, m22, m23, m24, m25, m26, .int 0, m28, m29, .int 0, .int 0, .int 0, m33, m34, m35, .int 0, m37, m38, m39, m40, m41, m42, m43, m44, m45, m46, m47, m48, m49, .int 0, m51, m52, m53, m54, m55, m56, m57, m58, m59, m60, m61, m62, m63, m64, m65, m66, m67, m68, m69, m70, m71, m72, m73, m74, m75, m76, m77, m78, m79, m80, m81, m82, m83, m84, m85, m86, m87, m88, m89, m90, m91, .int 0, .int 0, m94, m95, m96, m97, m98, m99, m100, m101, m102, m103, m104, m105, m106, m107, m108, m109, .long 0, .long 0, .int 0, m113, m114, m115, m116, m117, m118, m119, m120, m121, m122])), (h1, .inl (cB, 1500, .inl f1))] := hD
  refine lv_lload_n hx hb dX16_feed_3_69 rfl (lv_at hl 2 rfl) ?_
  refine lv_bipush (v := 8) hx hb dX16_feed_3_70 (by decide) ?_
  refine lv_iload hx hb dX16_feed_3_72 (lv_at hl 0 rfl) ?_
  refine lv_imul hx hb dX16_feed_3_74 ?_
  refine W.eq (g2 := F0 m 75 ls [.int 16, .long g1, .int 0, .ref h1]) rfl ?_
  refine lv_lshr (v := _) hx hb dX16_feed_3_75 rfl ?_
  refine lv_topl (fun y5 _ => ?_)
  refine lv_l2i (v := _) hx hb dX16_feed_3_76 rfl ?_
  refine lv_topi (fun y6 _ => ?_)
  refine lv_i2b (v := _) hx hb dX16_feed_3_77 rfl ?_
  refine lv_topi (fun y7 _ => ?_)
  refine va_bast hx hb hK hP hD hS 1 0 rfl rfl (by unfold vp_in; decide) dX16_feed_3_78 (fun H locs hP hD hS => ?_)
  have hP : va_P (dC, dI) vwCl [(h0, .inr (16, [.int 0, m1, .ref h1, .int 1, .int 0, m5, m6, m7, m8, m9, m10, m11, m12, m13, m14, m15, m16, .null, m18, m19, m20, m21, m22, m23, m24, m25, m26, .int 0, m28, m29, .int 0, .int 0, .int 0, m33, m34, m35, .int 0, m37, m38, m39, m40, m41, m42, m43, m44, m45, m46, m47, m48, m49, .int 0, m51, m52, m53, m54, m55, m56, m57, m58, m59, m60, m61, m62, m63, m64, m65, m66, m67, m68, m69, m70, m71, m72, m73, m74, m75, m76, m77, m78, m79, m80, m81, m82, m83, m84, m85, m86, m87, m88, m89, m90, m91, .int 0, .int 0, m94, m95, m96, m97, m98, m99, m100, m101, m102, m103, m104, m105, m106, m107, m108, m109, .long 0, .long 0, .int 0, m113, m114, m115, m116, m117, m118, m119, m120, m121, m122])), (h1, .inl (cB, 1500, .inl (upd f1 0 (vp_nar .byte y7))))] H := hP
  have hD : va_D A [(h0, .inr (16, [.int 0, m1, .ref h1, .int 1, .int 0, m5, m6, m7, m8, m9, m10, m11, m12, m13, m14, m15, m16, .null, m18, m19, m20, m21, m22, m23, m24, m25, m26, .int 0, m28, m29, .int 0, .int 0, .int 0, m33, m34, m35, .int 0, m37, m38, m39, m40, m41, m42, m43, m44, m45, m46, m47, m48, m49, .int 0, m51, m52, m53, m54, m55, m56, m57, m58, m59, m60, m61, m62, m63, m64, m65, m66, m67, m68, m69, m70, m71, m72, m73, m74, m75, m76, m77, m78, m79, m80, m81, m82, m83, m84, m85, m86, m87, m88, m89, m90, m91, .int 0, .int 0, m94, m95, m96, m97, m98, m99, m100, m101, m102, m103, m104, m105, m106, m107, m108, m109, .long 0, .long 0, .int 0, m113, m114, m115, m116, m117, m118, m119, m120, m121, m122])), (h1, .inl (cB, 1500, .inl (upd f1 0 (vp_nar .byte y7))))] := hD
  refine lv_iinc (k := 0) (v := 1) (lv' := [(4, .int 1), (0, .ref h0), (1, .long g1), (3, .int 3)]) hx hb dX16_feed_3_79 hl rfl (by decide) (by decide) rfl (fun ls hl => ?_)
  refine lv_goto (tgt := 42) hx hb dX16_feed_3_82 (by decide) ?_
  refine lv_iload hx hb dX16_feed_3_42 (lv_at hl 0 rfl) ?_
  refine lv_if_lt (tgt := 85) hx hb dX16_feed_3_44 (by decide) (fun h9 => absurd h9 (by decide)) (fun _ => ?_)
  refine lv_aload_n hx hb dX16_feed_3_47 rfl (lv_at hl 1 rfl) ?_
  refine va_get (D := (dC, dI)) (ci := 16) (v := .int 0) (C := RX16) (T := TX16) (N := 123) hx hb hts wh_X16_feed_3_X16 hown hK hP 0 rfl rfl 0 (by decide) (hts (.fieldLink RX16 1 "StreamHouseModel" "code" "I") (wm_X16_feed_3 5 rfl)) (fun _ h9 => h9) rfl dX16_feed_3_48 ?_
  refine lv_if_ne (tgt := 85) hx hb dX16_feed_3_51 (by decide) (fun h9 => absurd (by decide) h9) (fun _ => ?_)
  refine lv_aload_n hx hb dX16_feed_3_54 rfl (lv_at hl 1 rfl) ?_
  refine va_get (D := (dC, dI)) (ci := 16) (v := .ref h1) (C := RX16) (T := TX16) (N := 123) hx hb hts wh_X16_feed_3_X16 hown hK hP 0 rfl rfl 2 (by decide) (hts (.fieldLink RX16 20 "StreamHouseModel" "tape" "[B") (wm_X16_feed_3 6 rfl)) (fun _ h9 => h9) rfl dX16_feed_3_55 ?_
  refine lv_aload_n hx hb dX16_feed_3_58 rfl (lv_at hl 1 rfl) ?_
  refine lv_dup hx hb dX16_feed_3_59 rfl ?_
  refine va_get (D := (dC, dI)) (ci := 16) (v := .int 1) (C := RX16) (T := TX16) (N := 123) hx hb hts wh_X16_feed_3_X16 hown hK hP 0 rfl rfl 3 (by decide) (hts (.fieldLink RX16 972 "StreamHouseModel" "taped" "I") (wm_X16_feed_3 4 rfl)) (fun _ h9 => h9) rfl dX16_feed_3_60 ?_
  refine lv_dup_x1 hx hb dX16_feed_3_63 rfl rfl ?_
  refine lv_iconst (v := 1) hx hb dX16_feed_3_64 (by decide) ?_
  refine lv_iadd hx hb dX16_feed_3_65 ?_
  refine W.eq (g2 := F0 m 66 ls [.int 2, .ref h0, .int 1, .ref h1]) rfl ?_
  refine va_put (D := (dC, dI)) (ci := 16) (v := .int 2) (ty := .int) (C := RX16) (T := TX16) (N := 123) hx hb hts wh_X16_feed_3_X16 tyX16 tyX16_ok nmX16 hown hK hP hD hS 0 rfl rfl 3 (by decide) (hts (.fieldLink RX16 972 "StreamHouseModel" "taped" "I") (wm_X16_feed_3 4 rfl)) (fun _ h9 => h9) rfl (by decide +kernel) rfl rfl (Nat.le_of_ble_eq_true rfl) dX16_feed_3_66 (fun H locs hP hD hS => ?_)
  have hP : va_P (dC, dI) vwCl [(h0, .inr (16, [.int 0, m1, .ref h1, .int 2, .int 0, m5, m6, m7, m8, m9, m10, m11, m12, m13, m14, m15, m16, .null, m18, m19, m20, m21, m22, m23, m24, m25, m26, .int 0, m28, m29, .int 0, .int 0, .int 0, m33, m34, m35, .int 0, m37, m38, m39, m40, m41, m42, m43, m44, m45, m46, m47, m48, m49, .int 0, m51, m52, m53, m54, m55, m56, m57, m58, m59, m60, m61, m62, m63, m64, m65, m66, m67, m68, m69, m70, m71, m72, m73, m74, m75, m76, m77, m78, m79, m80, m81, m82, m83, m84, m85, m86, m87, m88, m89, m90, m91, .int 0, .int 0, m94, m95, m96, m97, m98, m99, m100, m101, m102, m103, m104, m105, m106, m107, m108, m109, .long 0, .long 0, .int 0, m113, m114, m115, m116, m117, m118, m119, m120, m121, m122])), (h1, .inl (cB, 1500, .inl (upd f1 0 (vp_nar .byte y7))))] H := hP
  have hD : va_D A [(h0, .inr (16, [.int 0, m1, .ref h1, .int 2, .int 0, m5, m6, m7, m8, m9, m10, m11, m12, m13, m14, m15, m16, .null, m18, m19, m20, m21, m22, m23, m24, m25, m26, .int 0, m28, m29, .int 0, .int 0, .int 0, m33, m34, m35, .int 0, m37, m38, m39, m40, m41, m42, m43, m44, m45, m46, m47, m48, m49, .int 0, m51, m52, m53, m54, m55, m56, m57, m58, m59, m60, m61, m62, m63, m64, m65, m66, m67, m68, m69, m70, m71, m72, m73, m74, m75, m76, m77, m78, m79, m80, m81, m82, m83, m84, m85, m86, m87, m88, m89, m90, m91, .int 0, .int 0, m94, m95, m96, m97, m98, m99, m100, m101, m102, m103, m104, m105, m106, m107, m108, m109, .long 0, .long 0, .int 0, m113, m114, m115, m116, m117, m118, m119, m120, m121, m122])), (h1, .inl (cB, 1500, .inl (upd f1 0 (vp_nar .byte y7))))] := hD
  refine lv_lload_n hx hb dX16_feed_3_69 rfl (lv_at hl 2 rfl) ?_
  refine lv_bipush (v := 8) hx hb dX16_feed_3_70 (by decide) ?_
  refine lv_iload hx hb dX16_feed_3_72 (lv_at hl 0 rfl) ?_
  refine lv_imul hx hb dX16_feed_3_74 ?_
  refine W.eq (g2 := F0 m 75 ls [.int 8, .long g1, .int 1, .ref h1]) rfl ?_
  refine lv_lshr (v := _) hx hb dX16_feed_3_75 rfl ?_
  refine lv_topl (fun y8 _ => ?_)
  refine lv_l2i (v := _) hx hb dX16_feed_3_76 rfl ?_
  refine lv_topi (fun y9 _ => ?_)
  refine lv_i2b (v := _) hx hb dX16_feed_3_77 rfl ?_
  refine lv_topi (fun y10 _ => ?_)
  refine va_bast hx hb hK hP hD hS 1 0 rfl rfl (by unfold vp_in; decide) dX16_feed_3_78 (fun H locs hP hD hS => ?_)
  have hP : va_P (dC, dI) vwCl [(h0, .inr (16, [.int 0, m1, .ref h1, .int 2, .int 0, m5, m6, m7, m8, m9, m10, m11, m12, m13, m14, m15, m16, .null, m18, m19, m20, m21, m22, m23, m24, m25, m26, .int 0, m28, m29, .int 0, .int 0, .int 0, m33, m34, m35, .int 0, m37, m38, m39, m40, m41, m42, m43, m44, m45, m46, m47, m48, m49, .int 0, m51, m52, m53, m54, m55, m56, m57, m58, m59, m60, m61, m62, m63, m64, m65, m66, m67, m68, m69, m70, m71, m72, m73, m74, m75, m76, m77, m78, m79, m80, m81, m82, m83, m84, m85, m86, m87, m88, m89, m90, m91, .int 0, .int 0, m94, m95, m96, m97, m98, m99, m100, m101, m102, m103, m104, m105, m106, m107, m108, m109, .long 0, .long 0, .int 0, m113, m114, m115, m116, m117, m118, m119, m120, m121, m122])), (h1, .inl (cB, 1500, .inl (upd (upd f1 0 (vp_nar .byte y7)) 1 (vp_nar .byte y10))))] H := hP
  have hD : va_D A [(h0, .inr (16, [.int 0, m1, .ref h1, .int 2, .int 0, m5, m6, m7, m8, m9, m10, m11, m12, m13, m14, m15, m16, .null, m18, m19, m20, m21, m22, m23, m24, m25, m26, .int 0, m28, m29, .int 0, .int 0, .int 0, m33, m34, m35, .int 0, m37, m38, m39, m40, m41, m42, m43, m44, m45, m46, m47, m48, m49, .int 0, m51, m52, m53, m54, m55, m56, m57, m58, m59, m60, m61, m62, m63, m64, m65, m66, m67, m68, m69, m70, m71, m72, m73, m74, m75, m76, m77, m78, m79, m80, m81, m82, m83, m84, m85, m86, m87, m88, m89, m90, m91, .int 0, .int 0, m94, m95, m96, m97, m98, m99, m100, m101, m102, m103, m104, m105, m106, m107, m108, m109, .long 0, .long 0, .int 0, m113, m114, m115, m116, m117, m118, m119, m120, m121, m122])), (h1, .inl (cB, 1500, .inl (upd (upd f1 0 (vp_nar .byte y7)) 1 (vp_nar .byte y10))))] := hD
  refine lv_iinc (k := 0) (v := 0) (lv' := [(4, .int 0), (0, .ref h0), (1, .long g1), (3, .int 3)]) hx hb dX16_feed_3_79 hl rfl (by decide) (by decide) rfl (fun ls hl => ?_)
  refine lv_goto (tgt := 42) hx hb dX16_feed_3_82 (by decide) ?_
  refine lv_iload hx hb dX16_feed_3_42 (lv_at hl 0 rfl) ?_
  refine lv_if_lt (tgt := 85) hx hb dX16_feed_3_44 (by decide) (fun h9 => absurd h9 (by decide)) (fun _ => ?_)
  refine lv_aload_n hx hb dX16_feed_3_47 rfl (lv_at hl 1 rfl) ?_
  refine va_get (D := (dC, dI)) (ci := 16) (v := .int 0) (C := RX16) (T := TX16) (N := 123) hx hb hts wh_X16_feed_3_X16 hown hK hP 0 rfl rfl 0 (by decide) (hts (.fieldLink RX16 1 "StreamHouseModel" "code" "I") (wm_X16_feed_3 5 rfl)) (fun _ h9 => h9) rfl dX16_feed_3_48 ?_
  refine lv_if_ne (tgt := 85) hx hb dX16_feed_3_51 (by decide) (fun h9 => absurd (by decide) h9) (fun _ => ?_)
  refine lv_aload_n hx hb dX16_feed_3_54 rfl (lv_at hl 1 rfl) ?_
  refine va_get (D := (dC, dI)) (ci := 16) (v := .ref h1) (C := RX16) (T := TX16) (N := 123) hx hb hts wh_X16_feed_3_X16 hown hK hP 0 rfl rfl 2 (by decide) (hts (.fieldLink RX16 20 "StreamHouseModel" "tape" "[B") (wm_X16_feed_3 6 rfl)) (fun _ h9 => h9) rfl dX16_feed_3_55 ?_
  refine lv_aload_n hx hb dX16_feed_3_58 rfl (lv_at hl 1 rfl) ?_
  refine lv_dup hx hb dX16_feed_3_59 rfl ?_
  refine va_get (D := (dC, dI)) (ci := 16) (v := .int 2) (C := RX16) (T := TX16) (N := 123) hx hb hts wh_X16_feed_3_X16 hown hK hP 0 rfl rfl 3 (by decide) (hts (.fieldLink RX16 972 "StreamHouseModel" "taped" "I") (wm_X16_feed_3 4 rfl)) (fun _ h9 => h9) rfl dX16_feed_3_60 ?_
  refine lv_dup_x1 hx hb dX16_feed_3_63 rfl rfl ?_
  refine lv_iconst (v := 1) hx hb dX16_feed_3_64 (by decide) ?_
  refine lv_iadd hx hb dX16_feed_3_65 ?_
  refine W.eq (g2 := F0 m 66 ls [.int 3, .ref h0, .int 2, .ref h1]) rfl ?_
  refine va_put (D := (dC, dI)) (ci := 16) (v := .int 3) (ty := .int) (C := RX16) (T := TX16) (N := 123) hx hb hts wh_X16_feed_3_X16 tyX16 tyX16_ok nmX16 hown hK hP hD hS 0 rfl rfl 3 (by decide) (hts (.fieldLink RX16 972 "StreamHouseModel" "taped" "I") (wm_X16_feed_3 4 rfl)) (fun _ h9 => h9) rfl (by decide +kernel) rfl rfl (Nat.le_of_ble_eq_true rfl) dX16_feed_3_66 (fun H locs hP hD hS => ?_)
  have hP : va_P (dC, dI) vwCl [(h0, .inr (16, [.int 0, m1, .ref h1, .int 3, .int 0, m5, m6, m7, m8, m9, m10, m11, m12, m13, m14, m15, m16, .null, m18, m19, m20, m21, m22, m23, m24, m25, m26, .int 0, m28, m29, .int 0, .int 0, .int 0, m33, m34, m35, .int 0, m37, m38, m39, m40, m41, m42, m43, m44, m45, m46, m47, m48, m49, .int 0, m51, m52, m53, m54, m55, m56, m57, m58, m59, m60, m61, m62, m63, m64, m65, m66, m67, m68, m69, m70, m71, m72, m73, m74, m75, m76, m77, m78, m79, m80, m81, m82, m83, m84, m85, m86, m87, m88, m89, m90, m91, .int 0, .int 0, m94, m95, m96, m97, m98, m99, m100, m101, m102, m103, m104, m105, m106, m107, m108, m109, .long 0, .long 0, .int 0, m113, m114, m115, m116, m117, m118, m119, m120, m121, m122])), (h1, .inl (cB, 1500, .inl (upd (upd f1 0 (vp_nar .byte y7)) 1 (vp_nar .byte y10))))] H := hP
  have hD : va_D A [(h0, .inr (16, [.int 0, m1, .ref h1, .int 3, .int 0, m5, m6, m7, m8, m9, m10, m11, m12, m13, m14, m15, m16, .null, m18, m19, m20, m21, m22, m23, m24, m25, m26, .int 0, m28, m29, .int 0, .int 0, .int 0, m33, m34, m35, .int 0, m37, m38, m39, m40, m41, m42, m43, m44, m45, m46, m47, m48, m49, .int 0, m51, m52, m53, m54, m55, m56, m57, m58, m59, m60, m61, m62, m63, m64, m65, m66, m67, m68, m69, m70, m71, m72, m73, m74, m75, m76, m77, m78, m79, m80, m81, m82, m83, m84, m85, m86, m87, m88, m89, m90, m91, .int 0, .int 0, m94, m95, m96, m97, m98, m99, m100, m101, m102, m103, m104, m105, m106, m107, m108, m109, .long 0, .long 0, .int 0, m113, m114, m115, m116, m117, m118, m119, m120, m121, m122])), (h1, .inl (cB, 1500, .inl (upd (upd f1 0 (vp_nar .byte y7)) 1 (vp_nar .byte y10))))] := hD
  refine lv_lload_n hx hb dX16_feed_3_69 rfl (lv_at hl 2 rfl) ?_
  refine lv_bipush (v := 8) hx hb dX16_feed_3_70 (by decide) ?_
  refine lv_iload hx hb dX16_feed_3_72 (lv_at hl 0 rfl) ?_
  refine lv_imul hx hb dX16_feed_3_74 ?_
  refine W.eq (g2 := F0 m 75 ls [.int 0, .long g1, .int 2, .ref h1]) rfl ?_
  refine lv_lshr (v := _) hx hb dX16_feed_3_75 rfl ?_
  refine lv_topl (fun y11 _ => ?_)
  refine lv_l2i (v := _) hx hb dX16_feed_3_76 rfl ?_
  refine lv_topi (fun y12 _ => ?_)
  refine lv_i2b (v := _) hx hb dX16_feed_3_77 rfl ?_
  refine lv_topi (fun y13 _ => ?_)
  refine va_bast hx hb hK hP hD hS 1 0 rfl rfl (by unfold vp_in; decide) dX16_feed_3_78 (fun H locs hP hD hS => ?_)
  have hP : va_P (dC, dI) vwCl [(h0, .inr (16, [.int 0, m1, .ref h1, .int 3, .int 0, m5, m6, m7, m8, m9, m10, m11, m12, m13, m14, m15, m16, .null, m18, m19, m20, m21, m22, m23, m24, m25, m26, .int 0, m28, m29, .int 0, .int 0, .int 0, m33, m34, m35, .int 0, m37, m38, m39, m40, m41, m42, m43, m44, m45, m46, m47, m48, m49, .int 0, m51, m52, m53, m54, m55, m56, m57, m58, m59, m60, m61, m62, m63, m64, m65, m66, m67, m68, m69, m70, m71, m72, m73, m74, m75, m76, m77, m78, m79, m80, m81, m82, m83, m84, m85, m86, m87, m88, m89, m90, m91, .int 0, .int 0, m94, m95, m96, m97, m98, m99, m100, m101, m102, m103, m104, m105, m106, m107, m108, m109, .long 0, .long 0, .int 0, m113, m114, m115, m116, m117, m118, m119, m120, m121, m122])), (h1, .inl (cB, 1500, .inl (upd (upd (upd f1 0 (vp_nar .byte y7)) 1 (vp_nar .byte y10)) 2 (vp_nar .byte y13))))] H := hP
  have hD : va_D A [(h0, .inr (16, [.int 0, m1, .ref h1, .int 3, .int 0, m5, m6, m7, m8, m9, m10, m11, m12, m13, m14, m15, m16, .null, m18, m19, m20, m21, m22, m23, m24, m25, m26, .int 0, m28, m29, .int 0, .int 0, .int 0, m33, m34, m35, .int 0, m37, m38, m39, m40, m41, m42, m43, m44, m45, m46, m47, m48, m49, .int 0, m51, m52, m53, m54, m55, m56, m57, m58, m59, m60, m61, m62, m63, m64, m65, m66, m67, m68, m69, m70, m71, m72, m73, m74, m75, m76, m77, m78, m79, m80, m81, m82, m83, m84, m85, m86, m87, m88, m89, m90, m91, .int 0, .int 0, m94, m95, m96, m97, m98, m99, m100, m101, m102, m103, m104, m105, m106, m107, m108, m109, .long 0, .long 0, .int 0, m113, m114, m115, m116, m117, m118, m119, m120, m121, m122])), (h1, .inl (cB, 1500, .inl (upd (upd (upd f1 0 (vp_nar .byte y7)) 1 (vp_nar .byte y10)) 2 (vp_nar .byte y13))))] := hD
  refine lv_iinc (k := 0) (v := (-1)) (lv' := [(4, .int ((-1))), (0, .ref h0), (1, .long g1), (3, .int 3)]) hx hb dX16_feed_3_79 hl rfl (by decide) (by decide) rfl (fun ls hl => ?_)
  refine lv_goto (tgt := 42) hx hb dX16_feed_3_82 (by decide) ?_
  refine lv_iload hx hb dX16_feed_3_42 (lv_at hl 0 rfl) ?_
  refine lv_if_lt (tgt := 85) hx hb dX16_feed_3_44 (by decide) (fun _ => ?_) (fun h9 => absurd (by decide) h9)
  refine lv_aload_n hx hb dX16_feed_3_85 rfl (lv_at hl 1 rfl) ?_
  refine va_get (D := (dC, dI)) (ci := 16) (v := .int 0) (C := RX16) (T := TX16) (N := 123) hx hb hts wh_X16_feed_3_X16 hown hK hP 0 rfl rfl 0 (by decide) (hts (.fieldLink RX16 1 "StreamHouseModel" "code" "I") (wm_X16_feed_3 5 rfl)) (fun _ h9 => h9) rfl dX16_feed_3_86 ?_
  refine lv_if_le (tgt := 96) hx hb dX16_feed_3_89 (by decide) (fun _ => ?_) (fun h9 => absurd (by decide) h9)
  refine lv_aload_n hx hb dX16_feed_3_96 rfl (lv_at hl 1 rfl) ?_
  refine va_get (D := (dC, dI)) (ci := 16) (v := .int 3) (C := RX16) (T := TX16) (N := 123) hx hb hts wh_X16_feed_3_X16 hown hK hP 0 rfl rfl 3 (by decide) (hts (.fieldLink RX16 972 "StreamHouseModel" "taped" "I") (wm_X16_feed_3 4 rfl)) (fun _ h9 => h9) rfl dX16_feed_3_97 ?_
  have hP9 := hP.sub (ws' := [(h0, .inr (16, [.int 0, m1, .ref h1, .int 3, .int 0, m5, m6, m7, m8, m9, m10, m11, m12, m13, m14, m15, m16, .null, m18, m19, m20, m21, m22, m23, m24, m25, m26, .int 0, m28, m29, .int 0, .int 0, .int 0, m33, m34, m35, .int 0, m37, m38, m39, m40, m41, m42, m43, m44, m45, m46, m47, m48, m49, .int 0, m51, m52, m53, m54, m55, m56, m57, m58, m59, m60, m61, m62, m63, m64, m65, m66, m67, m68, m69, m70, m71, m72, m73, m74, m75, m76, m77, m78, m79, m80, m81, m82, m83, m84, m85, m86, m87, m88, m89, m90, m91, .int 0, .int 0, m94, m95, m96, m97, m98, m99, m100, m101, m102, m103, m104, m105, m106, m107, m108, m109, .long 0, .long 0, .int 0, m113, m114, m115, m116, m117, m118, m119, m120, m121, m122]))]) [0] rfl
  have hD9 := hD.sub (ws' := [(h0, .inr (16, [.int 0, m1, .ref h1, .int 3, .int 0, m5, m6, m7, m8, m9, m10, m11, m12, m13, m14, m15, m16, .null, m18, m19, m20, m21, m22, m23, m24, m25, m26, .int 0, m28, m29, .int 0, .int 0, .int 0, m33, m34, m35, .int 0, m37, m38, m39, m40, m41, m42, m43, m44, m45, m46, m47, m48, m49, .int 0, m51, m52, m53, m54, m55, m56, m57, m58, m59, m60, m61, m62, m63, m64, m65, m66, m67, m68, m69, m70, m71, m72, m73, m74, m75, m76, m77, m78, m79, m80, m81, m82, m83, m84, m85, m86, m87, m88, m89, m90, m91, .int 0, .int 0, m94, m95, m96, m97, m98, m99, m100, m101, m102, m103, m104, m105, m106, m107, m108, m109, .long 0, .long 0, .int 0, m113, m114, m115, m116, m117, m118, m119, m120, m121, m122]))]) [0] (by decide) rfl
  have hK9 := hK.sub (tys' := []) [] rfl
  refine W.widen (k := 0) (n := 0) (by decide) (by decide) ?_
  exact W.iret (v := 3) hx hb hr (fun t ht hW => ⟨⟨3, (), rfl, rfl, by rw [ht]; exact hP9, va_K.moved hW.alike hK9, hD9⟩, hS.F ht⟩) hS.2.2 dX16_feed_3_100

abbrev ar_X16_feed_4 (dC : Nat → ClassId) (dI : Nat → Nat → Nat) (A : Nat → Prop) (h0 h1 : Nat) (g1 : Int64) (cB : ClassId) (f1 : Nat → Int32) (m0 m1 m5 m6 m7 m8 m9 m10 m11 m12 m13 m14 m15 m16 m18 m19 m20 m21 m22 m23 m24 m25 m26 m28 m29 m33 m34 m35 m37 m38 m39 m40 m41 m42 m43 m44 m45 m46 m47 m48 m49 m51 m52 m53 m54 m55 m56 m57 m58 m59 m60 m61 m62 m63 m64 m65 m66 m67 m68 m69 m70 m71 m72 m73 m74 m75 m76 m77 m78 m79 m80 m81 m82 m83 m84 m85 m86 m87 m88 m89 m90 m91 m94 m95 m96 m97 m98 m99 m100 m101 m102 m103 m104 m105 m106 m107 m108 m109 m113 m114 m115 m116 m117 m118 m119 m120 m121 m122 : Value) (_ : Unit) (t : State) : Prop := va_P (dC, dI) vwCl [(h0, .inr (16, [.int 0, m1, .ref h1, .int 4, .int 0, m5, m6, m7, m8, m9, m10, m11, m12, m13, m14, m15, m16, .null, m18, m19, m20, m21, m22, m23, m24, m25, m26, .int 0, m28, m29, .int 0, .int 0, .int 0, m33, m34, m35, .int 0, m37, m38, m39, m40, m41, m42, m43, m44, m45, m46, m47, m48, m49, .int 0, m51, m52, m53, m54, m55, m56, m57, m58, m59, m60, m61, m62, m63, m64, m65, m66, m67, m68, m69, m70, m71, m72, m73, m74, m75, m76, m77, m78, m79, m80, m81, m82, m83, m84, m85, m86, m87, m88, m89, m90, m91, .int 0, .int 0, m94, m95, m96, m97, m98, m99, m100, m101, m102, m103, m104, m105, m106, m107, m108, m109, .long 0, .long 0, .int 0, m113, m114, m115, m116, m117, m118, m119, m120, m121, m122]))] t.heap ∧ va_K (dC, dI) vwCl [] t ∧ va_D A [(h0, .inr (16, [.int 0, m1, .ref h1, .int 4, .int 0, m5, m6, m7, m8, m9, m10, m11, m12, m13, m14, m15, m16, .null, m18, m19, m20, m21, m22, m23, m24, m25, m26, .int 0, m28, m29, .int 0, .int 0, .int 0, m33, m34, m35, .int 0, m37, m38, m39, m40, m41, m42, m43, m44, m45, m46, m47, m48, m49, .int 0, m51, m52, m53, m54, m55, m56, m57, m58, m59, m60, m61, m62, m63, m64, m65, m66, m67, m68, m69, m70, m71, m72, m73, m74, m75, m76, m77, m78, m79, m80, m81, m82, m83, m84, m85, m86, m87, m88, m89, m90, m91, .int 0, .int 0, m94, m95, m96, m97, m98, m99, m100, m101, m102, m103, m104, m105, m106, m107, m108, m109, .long 0, .long 0, .int 0, m113, m114, m115, m116, m117, m118, m119, m120, m121, m122]))]
theorem dX16_feed_4_0 : decode cX16_feed 0 = .ok (.aload_n 0, 1) := by decide +kernel
theorem dX16_feed_4_1 : decode cX16_feed 1 = .ok (.iload_n 3, 1) := by decide +kernel
theorem dX16_feed_4_2 : decode cX16_feed 2 = .ok (.i2l, 1) := by decide +kernel
theorem dX16_feed_4_3 : decode cX16_feed 3 = .ok (.lconst 1, 1) := by decide +kernel
theorem dX16_feed_4_4 : decode cX16_feed 4 = .ok (.ldc2_w 250, 3) := by decide +kernel
theorem dX16_feed_4_7 : decode cX16_feed 7 = .ok (.invokestatic 45, 3) := by decide +kernel
theorem dX16_feed_4_10 : decode cX16_feed 10 = .ok (.ifCond .ne 7, 3) := by decide +kernel
theorem dX16_feed_4_17 : decode cX16_feed 17 = .ok (.aload_n 0, 1) := by decide +kernel
theorem dX16_feed_4_18 : decode cX16_feed 18 = .ok (.getfield 972, 3) := by decide +kernel
theorem dX16_feed_4_21 : decode cX16_feed 21 = .ok (.iload_n 3, 1) := by decide +kernel
theorem dX16_feed_4_22 : decode cX16_feed 22 = .ok (.iadd, 1) := by decide +kernel
theorem dX16_feed_4_23 : decode cX16_feed 23 = .ok (.sipush 1500, 3) := by decide +kernel
theorem dX16_feed_4_26 : decode cX16_feed 26 = .ok (.if_icmp .le 7, 3) := by decide +kernel
theorem dX16_feed_4_33 : decode cX16_feed 33 = .ok (.iconst 0, 1) := by decide +kernel
theorem dX16_feed_4_34 : decode cX16_feed 34 = .ok (.putfield 1, 3) := by decide +kernel
theorem dX16_feed_4_37 : decode cX16_feed 37 = .ok (.iload_n 3, 1) := by decide +kernel
theorem dX16_feed_4_38 : decode cX16_feed 38 = .ok (.iconst 1, 1) := by decide +kernel
theorem dX16_feed_4_39 : decode cX16_feed 39 = .ok (.isub, 1) := by decide +kernel
theorem dX16_feed_4_40 : decode cX16_feed 40 = .ok (.istore 4, 2) := by decide +kernel
theorem dX16_feed_4_42 : decode cX16_feed 42 = .ok (.iload 4, 2) := by decide +kernel
theorem dX16_feed_4_44 : decode cX16_feed 44 = .ok (.ifCond .lt 41, 3) := by decide +kernel
theorem dX16_feed_4_47 : decode cX16_feed 47 = .ok (.aload_n 0, 1) := by decide +kernel
theorem dX16_feed_4_48 : decode cX16_feed 48 = .ok (.getfield 1, 3) := by decide +kernel
theorem dX16_feed_4_51 : decode cX16_feed 51 = .ok (.ifCond .ne 34, 3) := by decide +kernel
theorem dX16_feed_4_54 : decode cX16_feed 54 = .ok (.aload_n 0, 1) := by decide +kernel
theorem dX16_feed_4_55 : decode cX16_feed 55 = .ok (.getfield 20, 3) := by decide +kernel
theorem dX16_feed_4_58 : decode cX16_feed 58 = .ok (.aload_n 0, 1) := by decide +kernel
theorem dX16_feed_4_59 : decode cX16_feed 59 = .ok (.dup, 1) := by decide +kernel
theorem dX16_feed_4_60 : decode cX16_feed 60 = .ok (.getfield 972, 3) := by decide +kernel
theorem dX16_feed_4_63 : decode cX16_feed 63 = .ok (.dup_x1, 1) := by decide +kernel
theorem dX16_feed_4_64 : decode cX16_feed 64 = .ok (.iconst 1, 1) := by decide +kernel
theorem dX16_feed_4_65 : decode cX16_feed 65 = .ok (.iadd, 1) := by decide +kernel
theorem dX16_feed_4_66 : decode cX16_feed 66 = .ok (.putfield 972, 3) := by decide +kernel
theorem dX16_feed_4_69 : decode cX16_feed 69 = .ok (.lload_n 1, 1) := by decide +kernel
theorem dX16_feed_4_70 : decode cX16_feed 70 = .ok (.bipush 8, 2) := by decide +kernel
theorem dX16_feed_4_72 : decode cX16_feed 72 = .ok (.iload 4, 2) := by decide +kernel
theorem dX16_feed_4_74 : decode cX16_feed 74 = .ok (.imul, 1) := by decide +kernel
theorem dX16_feed_4_75 : decode cX16_feed 75 = .ok (.lshr, 1) := by decide +kernel
theorem dX16_feed_4_76 : decode cX16_feed 76 = .ok (.l2i, 1) := by decide +kernel
theorem dX16_feed_4_77 : decode cX16_feed 77 = .ok (.i2b, 1) := by decide +kernel
theorem dX16_feed_4_78 : decode cX16_feed 78 = .ok (.bastore, 1) := by decide +kernel
theorem dX16_feed_4_79 : decode cX16_feed 79 = .ok (.iinc 4 (-1), 3) := by decide +kernel
theorem dX16_feed_4_82 : decode cX16_feed 82 = .ok (.goto (-40), 3) := by decide +kernel
theorem dX16_feed_4_85 : decode cX16_feed 85 = .ok (.aload_n 0, 1) := by decide +kernel
theorem dX16_feed_4_86 : decode cX16_feed 86 = .ok (.getfield 1, 3) := by decide +kernel
theorem dX16_feed_4_89 : decode cX16_feed 89 = .ok (.ifCond .le 7, 3) := by decide +kernel
theorem dX16_feed_4_96 : decode cX16_feed 96 = .ok (.aload_n 0, 1) := by decide +kernel
theorem dX16_feed_4_97 : decode cX16_feed 97 = .ok (.getfield 972, 3) := by decide +kernel
theorem dX16_feed_4_100 : decode cX16_feed 100 = .ok (.ireturn, 1) := by decide +kernel
def ww_X16_feed_4 : List Cond := [.constantLong RX16 250 8, .initialized RX16, .methodLink RX16 45 yX16_within, .static yX16_within, .fieldLink RX16 972 "StreamHouseModel" "taped" "I", .fieldLink RX16 1 "StreamHouseModel" "code" "I", .fieldLink RX16 20 "StreamHouseModel" "tape" "[B"]
def wv_X16_feed_4 : List Cond := .code yX16_feed cX16_feed 5 (some .int) :: (ww_X16_feed_4 ++ (wv_X16_within_1 ++ (u_ws RX16 TX16 123 ++ [])))
theorem wm_X16_feed_4 {w : Cond} (i : Nat) (h : ww_X16_feed_4[i]? = some w) : w ∈ wv_X16_feed_4 := List.mem_cons_of_mem _ (List.mem_append_left _ (List.mem_of_getElem? h))
set_option maxRecDepth 100000 in
theorem gw_X16_feed_4 : wv_X16_feed_4.all goodWord = true := by decide +kernel
theorem wg_X16_feed_4_X16_within_1 : GoodIn wv_X16_feed_4 wv_X16_within_1 := goodIn_sub (fun w h => List.mem_cons_of_mem _ (List.mem_append_right _ (List.mem_append_left _ h))) gw_X16_within_1
theorem wt_X16_feed_4_X16_within_1 : GoodIn wv_X16_feed_4 (va_wsS RX16 45 yX16_within wv_X16_within_1) := goodIn_app (goodIn_sub (fun w h => by simp only [List.mem_cons, List.not_mem_nil, or_false] at h; rcases h with rfl | rfl | rfl <;> first | exact wm_X16_feed_4 2 rfl | exact wm_X16_feed_4 3 rfl | exact wm_X16_feed_4 1 rfl) (by decide +kernel)) wg_X16_feed_4_X16_within_1
theorem wh_X16_feed_4_X16 : ∀ w ∈ u_ws RX16 TX16 123, w ∈ wv_X16_feed_4 := fun w h => List.mem_cons_of_mem _ (List.mem_append_right _ (List.mem_append_right _ (List.mem_append_left _ h)))
set_option maxHeartbeats 4000000 in
set_option maxRecDepth 100000 in
/-- feed(g, 4) of the fresh reference -/
theorem r_X16_feed_4 (l : Launch) (dC : Nat → ClassId) (dI : Nat → Nat → Nat) (h0 h1 : Nat) (g1 : Int64) (cB : ClassId) (f1 : Nat → Int32) (m0 m1 m5 m6 m7 m8 m9 m10 m11 m12 m13 m14 m15 m16 m18 m19 m20 m21 m22 m23 m24 m25 m26 m28 m29 m33 m34 m35 m37 m38 m39 m40 m41 m42 m43 m44 m45 m46 m47 m48 m49 m51 m52 m53 m54 m55 m56 m57 m58 m59 m60 m61 m62 m63 m64 m65 m66 m67 m68 m69 m70 m71 m72 m73 m74 m75 m76 m77 m78 m79 m80 m81 m82 m83 m84 m85 m86 m87 m88 m89 m90 m91 m94 m95 m96 m97 m98 m99 m100 m101 m102 m103 m104 m105 m106 m107 m108 m109 m113 m114 m115 m116 m117 m118 m119 m120 m121 m122 : Value) (sz : Nat) : Met l yX16_feed wv_X16_feed_4 ({ frames := 1, cells := 0, slots := 0, locals := 25 }) (va_Pc [.ref h0, .long g1, .int 4] (fun U => U.heap.size = sz ∧ va_P (dC, dI) vwCl [(h0, .inr (16, [m0, m1, .ref h1, .int 0, .int 0, m5, m6, m7, m8, m9, m10, m11, m12, m13, m14, m15, m16, .null, m18, m19, m20, m21, m22, m23, m24, m25, m26, .int 0, m28, m29, .int 0, .int 0, .int 0, m33, m34, m35, .int 0, m37, m38, m39, m40, m41, m42, m43, m44, m45, m46, m47, m48, m49, .int 0, m51, m52, m53, m54, m55, m56, m57, m58, m59, m60, m61, m62, m63, m64, m65, m66, m67, m68, m69, m70, m71, m72, m73, m74, m75, m76, m77, m78, m79, m80, m81, m82, m83, m84, m85, m86, m87, m88, m89, m90, m91, .int 0, .int 0, m94, m95, m96, m97, m98, m99, m100, m101, m102, m103, m104, m105, m106, m107, m108, m109, .long 0, .long 0, .int 0, m113, m114, m115, m116, m117, m118, m119, m120, m121, m122])), (h1, .inl (cB, 1500, .inl f1))] U.heap ∧ va_K (dC, dI) vwCl [(cB, .byte)] U ∧ va_D (fun _ => True) [(h0, .inr (16, [m0, m1, .ref h1, .int 0, .int 0, m5, m6, m7, m8, m9, m10, m11, m12, m13, m14, m15, m16, .null, m18, m19, m20, m21, m22, m23, m24, m25, m26, .int 0, m28, m29, .int 0, .int 0, .int 0, m33, m34, m35, .int 0, m37, m38, m39, m40, m41, m42, m43, m44, m45, m46, m47, m48, m49, .int 0, m51, m52, m53, m54, m55, m56, m57, m58, m59, m60, m61, m62, m63, m64, m65, m66, m67, m68, m69, m70, m71, m72, m73, m74, m75, m76, m77, m78, m79, m80, m81, m82, m83, m84, m85, m86, m87, m88, m89, m90, m91, .int 0, .int 0, m94, m95, m96, m97, m98, m99, m100, m101, m102, m103, m104, m105, m106, m107, m108, m109, .long 0, .long 0, .int 0, m113, m114, m115, m116, m117, m118, m119, m120, m121, m122])), (h1, .inl (cB, 1500, .inl f1))])) (va_Qi (fun r (_ : Unit) => r = 4) (ar_X16_feed_4 dC dI (va_A [(h0, .inr (16, [m0, m1, .ref h1, .int 0, .int 0, m5, m6, m7, m8, m9, m10, m11, m12, m13, m14, m15, m16, .null, m18, m19, m20, m21, m22, m23, m24, m25, m26, .int 0, m28, m29, .int 0, .int 0, .int 0, m33, m34, m35, .int 0, m37, m38, m39, m40, m41, m42, m43, m44, m45, m46, m47, m48, m49, .int 0, m51, m52, m53, m54, m55, m56, m57, m58, m59, m60, m61, m62, m63, m64, m65, m66, m67, m68, m69, m70, m71, m72, m73, m74, m75, m76, m77, m78, m79, m80, m81, m82, m83, m84, m85, m86, m87, m88, m89, m90, m91, .int 0, .int 0, m94, m95, m96, m97, m98, m99, m100, m101, m102, m103, m104, m105, m106, m107, m108, m109, .long 0, .long 0, .int 0, m113, m114, m115, m116, m117, m118, m119, m120, m121, m122])), (h1, .inl (cB, 1500, .inl f1))] sz) h0 h1 g1 cB f1 m0 m1 m5 m6 m7 m8 m9 m10 m11 m12 m13 m14 m15 m16 m18 m19 m20 m21 m22 m23 m24 m25 m26 m28 m29 m33 m34 m35 m37 m38 m39 m40 m41 m42 m43 m44 m45 m46 m47 m48 m49 m51 m52 m53 m54 m55 m56 m57 m58 m59 m60 m61 m62 m63 m64 m65 m66 m67 m68 m69 m70 m71 m72 m73 m74 m75 m76 m77 m78 m79 m80 m81 m82 m83 m84 m85 m86 m87 m88 m89 m90 m91 m94 m95 m96 m97 m98 m99 m100 m101 m102 m103 m104 m105 m106 m107 m108 m109 m113 m114 m115 m116 m117 m118 m119 m120 m121 m122) (va_A [(h0, .inr (16, [m0, m1, .ref h1, .int 0, .int 0, m5, m6, m7, m8, m9, m10, m11, m12, m13, m14, m15, m16, .null, m18, m19, m20, m21, m22, m23, m24, m25, m26, .int 0, m28, m29, .int 0, .int 0, .int 0, m33, m34, m35, .int 0, m37, m38, m39, m40, m41, m42, m43, m44, m45, m46, m47, m48, m49, .int 0, m51, m52, m53, m54, m55, m56, m57, m58, m59, m60, m61, m62, m63, m64, m65, m66, m67, m68, m69, m70, m71, m72, m73, m74, m75, m76, m77, m78, m79, m80, m81, m82, m83, m84, m85, m86, m87, m88, m89, m90, m91, .int 0, .int 0, m94, m95, m96, m97, m98, m99, m100, m101, m102, m103, m104, m105, m106, m107, m108, m109, .long 0, .long 0, .int 0, m113, m114, m115, m116, m117, m118, m119, m120, m121, m122])), (h1, .inl (cB, 1500, .inl f1))] sz)) 0 0 (va_A [(h0, .inr (16, [m0, m1, .ref h1, .int 0, .int 0, m5, m6, m7, m8, m9, m10, m11, m12, m13, m14, m15, m16, .null, m18, m19, m20, m21, m22, m23, m24, m25, m26, .int 0, m28, m29, .int 0, .int 0, .int 0, m33, m34, m35, .int 0, m37, m38, m39, m40, m41, m42, m43, m44, m45, m46, m47, m48, m49, .int 0, m51, m52, m53, m54, m55, m56, m57, m58, m59, m60, m61, m62, m63, m64, m65, m66, m67, m68, m69, m70, m71, m72, m73, m74, m75, m76, m77, m78, m79, m80, m81, m82, m83, m84, m85, m86, m87, m88, m89, m90, m91, .int 0, .int 0, m94, m95, m96, m97, m98, m99, m100, m101, m102, m103, m104, m105, m106, m107, m108, m109, .long 0, .long 0, .int 0, m113, m114, m115, m116, m117, m118, m119, m120, m121, m122])), (h1, .inl (cB, 1500, .inl f1))] sz) := by
  refine Met.ofW (cc := cX16_feed) (maxL := 5) (ret := (some .int)) (by decide) rfl ?_
  intro p e s m args below meth c s₁ B hml hv
  obtain ⟨rfl, hsz, hP, hK, hD0⟩ := hv
  have hx := B.exec
  have hb := B.bytes
  have hr := B.returns
  have hts := atoms_spec (ws := wv_X16_feed_4) B.pre
  have hown : s.vm.findClass RX16 = some m.cls := findClass_of_methodNamed B.named
  have hlocks := B.notSynchronized
  subst hsz
  have hD := hD0.self (sz := s.heap.size)
  generalize hAe : va_A [(h0, .inr (16, [m0, m1, .ref h1, .int 0, .int 0, m5, m6, m7, m8, m9, m10, m11, m12, m13, m14, m15, m16, .null, m18, m19, m20, m21, m22, m23, m24, m25, m26, .int 0, m28, m29, .int 0, .int 0, .int 0, m33, m34, m35, .int 0, m37, m38, m39, m40, m41, m42, m43, m44, m45, m46, m47, m48, m49, .int 0, m51, m52, m53, m54, m55, m56, m57, m58, m59, m60, m61, m62, m63, m64, m65, m66, m67, m68, m69, m70, m71, m72, m73, m74, m75, m76, m77, m78, m79, m80, m81, m82, m83, m84, m85, m86, m87, m88, m89, m90, m91, .int 0, .int 0, m94, m95, m96, m97, m98, m99, m100, m101, m102, m103, m104, m105, m106, m107, m108, m109, .long 0, .long 0, .int 0, m113, m114, m115, m116, m117, m118, m119, m120, m121, m122])), (h1, .inl (cB, 1500, .inl f1))] s.heap.size = A at hD ⊢
  have hA : ∀ q : Nat, s.heap.size ≤ q → A q := fun q h => by rw [← hAe]; exact Or.inr h
  have hS : va_S A s.heap s.heap [] := va_S.rf
  have hP : va_P (dC, dI) vwCl [(h0, .inr (16, [m0, m1, .ref h1, .int 0, .int 0, m5, m6, m7, m8, m9, m10, m11, m12, m13, m14, m15, m16, .null, m18, m19, m20, m21, m22, m23, m24, m25, m26, .int 0, m28, m29, .int 0, .int 0, .int 0, m33, m34, m35, .int 0, m37, m38, m39, m40, m41, m42, m43, m44, m45, m46, m47, m48, m49, .int 0, m51, m52, m53, m54, m55, m56, m57, m58, m59, m60, m61, m62, m63, m64, m65, m66, m67, m68, m69, m70, m71, m72, m73, m74, m75, m76, m77, m78, m79, m80, m81, m82, m83, m84, m85, m86, m87, m88, m89, m90, m91, .int 0, .int 0, m94, m95, m96, m97, m98, m99, m100, m101, m102, m103, m104, m105, m106, m107, m108, m109, .long 0, .long 0, .int 0, m113, m114, m115, m116, m117, m118, m119, m120, m121, m122])), (h1, .inl (cB, 1500, .inl f1))] s.heap := hP
  have hl := lv_entry ([.ref h0, .long g1, .int 4]) (n := 5) (Nat.le_of_ble_eq_true rfl)
  rw [lg_entry_eq]
  generalize (lg_sl ([.ref h0, .long g1, .int 4]) ++ List.replicate (5 - (lg_sl ([.ref h0, .long g1, .int 4])).length) Slot.unset).toArray = ls at hl ⊢
  have hl : lv_has ls 5 [(0, .ref h0), (1, .long g1), (3, .int 4)] := hl
  refine lv_aload_n hx hb dX16_feed_4_0 rfl (lv_at hl 0 rfl) ?_
  refine lv_iload_n hx hb dX16_feed_4_1 rfl (lv_at hl 2 rfl) ?_
  refine lv_i2l (v := 4) hx hb dX16_feed_4_2 (by decide) ?_
  refine lv_lconst (v := 1) hx hb dX16_feed_4_3 (by decide) ?_
  refine lv_ldc2 hx hb hown (hts (.constantLong RX16 250 8) (wm_X16_feed_4 0 rfl)) dX16_feed_4_4 ?_
  have hPc := hP.sub (ws' := []) [] rfl
  have hDc := hD.sub (ws' := []) [] (by decide) rfl
  have hKc := hK.sub (tys' := []) [] rfl
  have hFc := va_free (wc := []) hD hS hA [] rfl
  have h_1 : 0 ≤ 0 := by decide
  have h_2 : 0 ≤ 0 := by decide
  refine va_calli (va_runS (As := [.long 4, .long 1, .long 8]) (rest := [.ref h0]) ⟨hx, hb, hml, hown, hts⟩ (r_X16_within_1 l dC dI 4 1 8 _) (va_cwS 3 hts wt_X16_feed_4_X16_within_1 rfl rfl rfl (by decide +kernel) ⟨Nat.le_of_ble_eq_true rfl, Nat.le_of_ble_eq_true rfl⟩) ⟨fun a U g mk q => by obtain ⟨q0, q1, qP, qK, qD, qp⟩ := q; exact ⟨q0, q1, qP, va_K.moved (u := U) (U := U.calling g mk a) (Vm.Alike.refl U.vm) qK, qD, qp⟩, fun U hU hW => ⟨rfl, by rw [hU], by rw [hU]; exact hPc, va_K.moved hW.alike hKc, hDc.weaken (fun _ _ _ _ => trivial), ⟨by decide, by decide⟩⟩⟩ rfl rfl hl.1 rfl (lv_room (Nat.le_of_ble_eq_true rfl)) dX16_feed_4_7 ⟨h_1, h_2⟩) hS (fun q _ h => hFc q h) hFc (fun y4 u3 t H1 locs ht hvm hw hB hz1 hk1 hS => ?_)
  obtain ⟨hP1, hK1, hD1⟩ := hB
  rw [ht] at hP1
  have hK1 := va_K.moved hvm.symm hK1
  obtain ⟨hP, hD⟩ := va_join (wr := [(h0, .inr (16, [m0, m1, .ref h1, .int 0, .int 0, m5, m6, m7, m8, m9, m10, m11, m12, m13, m14, m15, m16, .null, m18, m19, m20, m21, m22, m23, m24, m25, m26, .int 0, m28, m29, .int 0, .int 0, .int 0, m33, m34, m35, .int 0, m37, m38, m39, m40, m41, m42, m43, m44, m45, m46, m47, m48, m49, .int 0, m51, m52, m53, m54, m55, m56, m57, m58, m59, m60, m61, m62, m63, m64, m65, m66, m67, m68, m69, m70, m71, m72, m73, m74, m75, m76, m77, m78, m79, m80, m81, m82, m83, m84, m85, m86, m87, m88, m89, m90, m91, .int 0, .int 0, m94, m95, m96, m97, m98, m99, m100, m101, m102, m103, m104, m105, m106, m107, m108, m109, .long 0, .long 0, .int 0, m113, m114, m115, m116, m117, m118, m119, m120, m121, m122])), (h1, .inl (cB, 1500, .inl f1))]) (w1 := []) hP hD [] [0, 1] rfl rfl (by decide) (by decide) hk1 hFc hP1 hD1
  have hK := (hK.sub (tys' := [(cB, .byte)]) [0] rfl).app hK1
  generalize H1 = H at hP hS ⊢
  have hP : va_P (dC, dI) vwCl [(h0, .inr (16, [m0, m1, .ref h1, .int 0, .int 0, m5, m6, m7, m8, m9, m10, m11, m12, m13, m14, m15, m16, .null, m18, m19, m20, m21, m22, m23, m24, m25, m26, .int 0, m28, m29, .int 0, .int 0, .int 0, m33, m34, m35, .int 0, m37, m38, m39, m40, m41, m42, m43, m44, m45, m46, m47, m48, m49, .int 0, m51, m52, m53, m54, m55, m56, m57, m58, m59, m60, m61, m62, m63, m64, m65, m66, m67, m68, m69, m70, m71, m72, m73, m74, m75, m76, m77, m78, m79, m80, m81, m82, m83, m84, m85, m86, m87, m88, m89, m90, m91, .int 0, .int 0, m94, m95, m96, m97, m98, m99, m100, m101, m102, m103, m104, m105, m106, m107, m108, m109, .long 0, .long 0, .int 0, m113, m114, m115, m116, m117, m118, m119, m120, m121, m122])), (h1, .inl (cB, 1500, .inl f1))] H := hP
  have hD : va_D A [(h0, .inr (16, [m0, m1, .ref h1, .int 0, .int 0, m5, m6, m7, m8, m9, m10, m11, m12, m13, m14, m15, m16, .null, m18, m19, m20, m21, m22, m23, m24, m25, m26, .int 0, m28, m29, .int 0, .int 0, .int 0, m33, m34, m35, .int 0, m37, m38, m39, m40, m41, m42, m43, m44, m45, m46, m47, m48, m49, .int 0, m51, m52, m53, m54, m55, m56, m57, m58, m59, m60, m61, m62, m63, m64, m65, m66, m67, m68, m69, m70, m71, m72, m73, m74, m75, m76, m77, m78, m79, m80, m81, m82, m83, m84, m85, m86, m87, m88, m89, m90, m91, .int 0, .int 0, m94, m95, m96, m97, m98, m99, m100, m101, m102, m103, m104, m105, m106, m107, m108, m109, .long 0, .long 0, .int 0, m113, m114, m115, m116, m117, m118, m119, m120, m121, m122])), (h1, .inl (cB, 1500, .inl f1))] := hD
  have hK : va_K (dC, dI) vwCl [(cB, .byte)] s := hK
  refine W.widen (k := 0) (n := 0) (by decide) (by decide) ?_
  have hw : y4 = 1 := hw
  subst hw
  refine lv_if_ne (tgt := 17) hx hb dX16_feed_4_10 (by decide) (fun _ => ?_) (fun h9 => absurd h9 (by decide))
  refine lv_aload_n hx hb dX16_feed_4_17 rfl (lv_at hl 0 rfl) ?_
  refine va_get (D := (dC, dI)) (ci := 16) (v := .int 0) (C := RX16) (T := TX16) (N := 123) hx hb hts wh_X16_feed_4_X16 hown hK hP 0 rfl rfl 3 (by decide) (hts (.fieldLink RX16 972 "StreamHouseModel" "taped" "I") (wm_X16_feed_4 4 rfl)) (fun _ h9 => h9) rfl dX16_feed_4_18 ?_
  refine lv_iload_n hx hb dX16_feed_4_21 rfl (lv_at hl 2 rfl) ?_
  refine lv_iadd hx hb dX16_feed_4_22 ?_
  refine W.eq (g2 := F0 m 23 ls [.int 4, .ref h0]) rfl ?_
  refine lv_sipush (v := 1500) hx hb dX16_feed_4_23 (by decide) ?_
  refine lv_icmp_le (tgt := 33) hx hb dX16_feed_4_26 (by decide) (fun _ => ?_) (fun h9 => absurd (by decide) h9)
  refine lv_iconst (v := 0) hx hb dX16_feed_4_33 (by decide) ?_
  refine va_put (D := (dC, dI)) (ci := 16) (v := .int 0) (ty := .int) (C := RX16) (T := TX16) (N := 123) hx hb hts wh_X16_feed_4_X16 tyX16 tyX16_ok nmX16 hown hK hP hD hS 0 rfl rfl 0 (by decide) (hts (.fieldLink RX16 1 "StreamHouseModel" "code" "I") (wm_X16_feed_4 5 rfl)) (fun _ h9 => h9) rfl (by decide +kernel) rfl rfl (Nat.le_of_ble_eq_true rfl) dX16_feed_4_34 (fun H locs hP hD hS => ?_)
  have hP : va_P (dC, dI) vwCl [(h0, .inr (16, [.int 0, m1, .ref h1, .int 0, .int 0, m5, m6, m7, m8, m9, m10, m11, m12, m13, m14, m15, m16, .null, m18, m19, m20, m21, m22, m23, m24, m25, m26, .int 0, m28, m29, .int 0, .int 0, .int 0, m33, m34, m35, .int 0, m37, m38, m39, m40, m41, m42, m43, m44, m45, m46, m47, m48, m49, .int 0, m51, m52, m53, m54, m55, m56, m57, m58, m59, m60, m61, m62, m63, m64, m65, m66, m67, m68, m69, m70, m71, m72, m73, m74, m75, m76, m77, m78, m79, m80, m81, m82, m83, m84, m85, m86, m87, m88, m89, m90, m91, .int 0, .int 0, m94, m95, m96, m97, m98, m99, m100, m101, m102, m103, m104, m105, m106, m107, m108, m109, .long 0, .long 0, .int 0, m113, m114, m115, m116, m117, m118, m119, m120, m121, m122])), (h1, .inl (cB, 1500, .inl f1))] H := hP
  have hD : va_D A [(h0, .inr (16, [.int 0, m1, .ref h1, .int 0, .int 0, m5, m6, m7, m8, m9, m10, m11, m12, m13, m14, m15, m16, .null, m18, m19, m20, m21, m22, m23, m24, m25, m26, .int 0, m28, m29, .int 0, .int 0, .int 0, m33, m34, m35, .int 0, m37, m38, m39, m40, m41, m42, m43, m44, m45, m46, m47, m48, m49, .int 0, m51, m52, m53, m54, m55, m56, m57, m58, m59, m60, m61, m62, m63, m64, m65, m66, m67, m68, m69, m70, m71, m72, m73, m74, m75, m76, m77, m78, m79, m80, m81, m82, m83, m84, m85, m86, m87, m88, m89, m90, m91, .int 0, .int 0, m94, m95, m96, m97, m98, m99, m100, m101, m102, m103, m104, m105, m106, m107, m108, m109, .long 0, .long 0, .int 0, m113, m114, m115, m116, m117, m118, m119, m120, m121, m122])), (h1, .inl (cB, 1500, .inl f1))] := hD
  refine lv_iload_n hx hb dX16_feed_4_37 rfl (lv_at hl 2 rfl) ?_
  refine lv_iconst (v := 1) hx hb dX16_feed_4_38 (by decide) ?_
  refine lv_isub hx hb dX16_feed_4_39 ?_
  refine W.eq (g2 := F0 m 40 ls [.int 3]) rfl ?_
  refine lv_istore (lv' := [(4, .int 3), (0, .ref h0), (1, .long g1), (3, .int 4)]) hx hb dX16_feed_4_40 hl (by decide) rfl (fun ls hl => ?_)
  refine lv_iload hx hb dX16_feed_4_42 (lv_at hl 0 rfl) ?_
  refine lv_if_lt (tgt := 85) hx hb dX16_feed_4_44 (by decide) (fun h9 => absurd h9 (by decide)) (fun _ => ?_)
  refine lv_aload_n hx hb dX16_feed_4_47 rfl (lv_at hl 1 rfl) ?_
  refine va_get (D := (dC, dI)) (ci := 16) (v := .int 0) (C := RX16) (T := TX16) (N := 123) hx hb hts wh_X16_feed_4_X16 hown hK hP 0 rfl rfl 0 (by decide) (hts (.fieldLink RX16 1 "StreamHouseModel" "code" "I") (wm_X16_feed_4 5 rfl)) (fun _ h9 => h9) rfl dX16_feed_4_48 ?_
  refine lv_if_ne (tgt := 85) hx hb dX16_feed_4_51 (by decide) (fun h9 => absurd (by decide) h9) (fun _ => ?_)
  refine lv_aload_n hx hb dX16_feed_4_54 rfl (lv_at hl 1 rfl) ?_
  refine va_get (D := (dC, dI)) (ci := 16) (v := .ref h1) (C := RX16) (T := TX16) (N := 123) hx hb hts wh_X16_feed_4_X16 hown hK hP 0 rfl rfl 2 (by decide) (hts (.fieldLink RX16 20 "StreamHouseModel" "tape" "[B") (wm_X16_feed_4 6 rfl)) (fun _ h9 => h9) rfl dX16_feed_4_55 ?_
  refine lv_aload_n hx hb dX16_feed_4_58 rfl (lv_at hl 1 rfl) ?_
  refine lv_dup hx hb dX16_feed_4_59 rfl ?_
  refine va_get (D := (dC, dI)) (ci := 16) (v := .int 0) (C := RX16) (T := TX16) (N := 123) hx hb hts wh_X16_feed_4_X16 hown hK hP 0 rfl rfl 3 (by decide) (hts (.fieldLink RX16 972 "StreamHouseModel" "taped" "I") (wm_X16_feed_4 4 rfl)) (fun _ h9 => h9) rfl dX16_feed_4_60 ?_
  refine lv_dup_x1 hx hb dX16_feed_4_63 rfl rfl ?_
  refine lv_iconst (v := 1) hx hb dX16_feed_4_64 (by decide) ?_
  refine lv_iadd hx hb dX16_feed_4_65 ?_
  refine W.eq (g2 := F0 m 66 ls [.int 1, .ref h0, .int 0, .ref h1]) rfl ?_
  refine va_put (D := (dC, dI)) (ci := 16) (v := .int 1) (ty := .int) (C := RX16) (T := TX16) (N := 123) hx hb hts wh_X16_feed_4_X16 tyX16 tyX16_ok nmX16 hown hK hP hD hS 0 rfl rfl 3 (by decide) (hts (.fieldLink RX16 972 "StreamHouseModel" "taped" "I") (wm_X16_feed_4 4 rfl)) (fun _ h9 => h9) rfl (by decide +kernel) rfl rfl (Nat.le_of_ble_eq_true rfl) dX16_feed_4_66 (fun H locs hP hD hS => ?_)
  have hP : va_P (dC, dI) vwCl [(h0, .inr (16, [.int 0, m1, .ref h1, .int 1, .int 0, m5, m6, m7, m8, m9, m10, m11, m12, m13, m14, m15, m16, .null, m18, m19, m20, m21, m22, m23, m24, m25, m26, .int 0, m28, m29, .int 0, .int 0, .int 0, m33, m34, m35, .int 0, m37, m38, m39, m40, m41, m42, m43, m44, m45, m46, m47, m48, m49, .int 0, m51, m52, m53, m54, m55, m56, m57, m58, m59, m60, m61, m62, m63, m64, m65, m66, m67, m68, m69, m70, m71, m72, m73, m74, m75, m76, m77, m78, m79, m80, m81, m82, m83, m84, m85, m86, m87, m88, m89, m90, m91, .int 0, .int 0, m94, m95, m96, m97, m98, m99, m100, m101, m102, m103, m104, m105, m106, m107, m108, m109, .long 0, .long 0, .int 0, m113, m114, m115, m116, m117, m118, m119, m120, m121, m122])), (h1, .inl (cB, 1500, .inl f1))] H := hP
  have hD : va_D A [(h0, .inr (16, [.int 0, m1, .ref h1, .int 1, .int 0, m5, m6, m7, m8, m9, m10, m11, m12, m13, m14, m15, m16, .null, m18, m19, m20, m21, m22, m23, m24, m25, m26, .int 0, m28, m29, .int 0, .int 0, .int 0, m33, m34, m35, .int 0, m37, m38, m39, m40, m41, m42, m43, m44, m45, m46, m47, m48, m49, .int 0, m51, m52, m53, m54, m55, m56, m57, m58, m59, m60, m61, m62, m63, m64, m65, m66, m67, m68, m69, m70, m71, m72, m73, m74, m75, m76, m77, m78, m79, m80, m81, m82, m83, m84, m85, m86, m87, m88, m89, m90, m91, .int 0, .int 0, m94, m95, m96, m97, m98, m99, m100, m101, m102, m103, m104, m105, m106, m107, m108, m109, .long 0, .long 0, .int 0, m113, m114, m115, m116, m117, m118, m119, m120, m121, m122])), (h1, .inl (cB, 1500, .inl f1))] := hD
  refine lv_lload_n hx hb dX16_feed_4_69 rfl (lv_at hl 2 rfl) ?_
  refine lv_bipush (v := 8) hx hb dX16_feed_4_70 (by decide) ?_
  refine lv_iload hx hb dX16_feed_4_72 (lv_at hl 0 rfl) ?_
  refine lv_imul hx hb dX16_feed_4_74 ?_
  refine W.eq (g2 := F0 m 75 ls [.int 24, .long g1, .int 0, .ref h1]) rfl ?_
  refine lv_lshr (v := _) hx hb dX16_feed_4_75 rfl ?_
  refine lv_topl (fun y5 _ => ?_)
  refine lv_l2i (v := _) hx hb dX16_feed_4_76 rfl ?_
  refine lv_topi (fun y6 _ => ?_)
  refine lv_i2b (v := _) hx hb dX16_feed_4_77 rfl ?_
  refine lv_topi (fun y7 _ => ?_)
  refine va_bast hx hb hK hP hD hS 1 0 rfl rfl (by unfold vp_in; decide) dX16_feed_4_78 (fun H locs hP hD hS => ?_)
  have hP : va_P (dC, dI) vwCl [(h0, .inr (16, [.int 0, m1, .ref h1, .int 1, .int 0, m5, m6, m7, m8, m9, m10, m11, m12, m13, m14, m15, m16, .null, m18, m19, m20, m21, m22, m23, m24, m25, m26, .int 0, m28, m29, .int 0, .int 0, .int 0, m33, m34, m35, .int 0, m37, m38, m39, m40, m41, m42, m43, m44, m45, m46, m47, m48, m49, .int 0, m51, m52, m53, m54, m55, m56, m57, m58, m59, m60, m61, m62, m63, m64, m65, m66, m67, m68, m69, m70, m71, m72, m73, m74, m75, m76, m77, m78, m79, m80, m81, m82, m83, m84, m85, m86, m87, m88, m89, m90, m91, .int 0, .int 0, m94, m95, m96, m97, m98, m99, m100, m101, m102, m103, m104, m105, m106, m107, m108, m109, .long 0, .long 0, .int 0, m113, m114, m115, m116, m117, m118, m119, m120, m121, m122])), (h1, .inl (cB, 1500, .inl (upd f1 0 (vp_nar .byte y7))))] H := hP
  have hD : va_D A [(h0, .inr (16, [.int 0, m1, .ref h1, .int 1, .int 0, m5, m6, m7, m8, m9, m10, m11, m12, m13, m14, m15, m16, .null, m18, m19, m20, m21, m22, m23, m24, m25, m26, .int 0, m28, m29, .int 0, .int 0, .int 0, m33, m34, m35, .int 0, m37, m38, m39, m40, m41, m42, m43, m44, m45, m46, m47, m48, m49, .int 0, m51, m52, m53, m54, m55, m56, m57, m58, m59, m60, m61, m62, m63, m64, m65, m66, m67, m68, m69, m70, m71, m72, m73, m74, m75, m76, m77, m78, m79, m80, m81, m82, m83, m84, m85, m86, m87, m88, m89, m90, m91, .int 0, .int 0, m94, m95, m96, m97, m98, m99, m100, m101, m102, m103, m104, m105, m106, m107, m108, m109, .long 0, .long 0, .int 0, m113, m114, m115, m116, m117, m118, m119, m120, m121, m122])), (h1, .inl (cB, 1500, .inl (upd f1 0 (vp_nar .byte y7))))] := hD
  refine lv_iinc (k := 0) (v := 2) (lv' := [(4, .int 2), (0, .ref h0), (1, .long g1), (3, .int 4)]) hx hb dX16_feed_4_79 hl rfl (by decide) (by decide) rfl (fun ls hl => ?_)
  refine lv_goto (tgt := 42) hx hb dX16_feed_4_82 (by decide) ?_
  refine lv_iload hx hb dX16_feed_4_42 (lv_at hl 0 rfl) ?_
  refine lv_if_lt (tgt := 85) hx hb dX16_feed_4_44 (by decide) (fun h9 => absurd h9 (by decide)) (fun _ => ?_)
  refine lv_aload_n hx hb dX16_feed_4_47 rfl (lv_at hl 1 rfl) ?_
  refine va_get (D := (dC, dI)) (ci := 16) (v := .int 0) (C := RX16) (T := TX16) (N := 123) hx hb hts wh_X16_feed_4_X16 hown hK hP 0 rfl rfl 0 (by decide) (hts (.fieldLink RX16 1 "StreamHouseModel" "code" "I") (wm_X16_feed_4 5 rfl)) (fun _ h9 => h9) rfl dX16_feed_4_48 ?_
  refine lv_if_ne (tgt := 85) hx hb dX16_feed_4_51 (by decide) (fun h9 => absurd (by decide) h9) (fun _ => ?_)
  refine lv_aload_n hx hb dX16_feed_4_54 rfl (lv_at hl 1 rfl) ?_
  refine va_get (D := (dC, dI)) (ci := 16) (v := .ref h1) (C := RX16) (T := TX16) (N := 123) hx hb hts wh_X16_feed_4_X16 hown hK hP 0 rfl rfl 2 (by decide) (hts (.fieldLink RX16 20 "StreamHouseModel" "tape" "[B") (wm_X16_feed_4 6 rfl)) (fun _ h9 => h9) rfl dX16_feed_4_55 ?_
  refine lv_aload_n hx hb dX16_feed_4_58 rfl (lv_at hl 1 rfl) ?_
  refine lv_dup hx hb dX16_feed_4_59 rfl ?_
  refine va_get (D := (dC, dI)) (ci := 16) (v := .int 1) (C := RX16) (T := TX16) (N := 123) hx hb hts wh_X16_feed_4_X16 hown hK hP 0 rfl rfl 3 (by decide) (hts (.fieldLink RX16 972 "StreamHouseModel" "taped" "I") (wm_X16_feed_4 4 rfl)) (fun _ h9 => h9) rfl dX16_feed_4_60 ?_
  refine lv_dup_x1 hx hb dX16_feed_4_63 rfl rfl ?_
  refine lv_iconst (v := 1) hx hb dX16_feed_4_64 (by decide) ?_
  refine lv_iadd hx hb dX16_feed_4_65 ?_
  refine W.eq (g2 := F0 m 66 ls [.int 2, .ref h0, .int 1, .ref h1]) rfl ?_
  refine va_put (D := (dC, dI)) (ci := 16) (v := .int 2) (ty := .int) (C := RX16) (T := TX16) (N := 123) hx hb hts wh_X16_feed_4_X16 tyX16 tyX16_ok nmX16 hown hK hP hD hS 0 rfl rfl 3 (by decide) (hts (.fieldLink RX16 972 "StreamHouseModel" "taped" "I") (wm_X16_feed_4 4 rfl)) (fun _ h9 => h9) rfl (by decide +kernel) rfl rfl (Nat.le_of_ble_eq_true rfl) dX16_feed_4_66 (fun H locs hP hD hS => ?_)
  have hP : va_P (dC, dI) vwCl [(h0, .inr (16, [.int 0, m1, .ref h1, .int 2, .int 0, m5, m6, m7, m8, m9, m10, m11, m12, m13, m14, m15, m16, .null, m18, m19, m20, m21, m22, m23, m24, m25, m26, .int 0, m28, m29, .int 0, .int 0, .int 0, m33, m34, m35, .int 0, m37, m38, m39, m40, m41, m42, m43, m44, m45, m46, m47, m48, m49, .int 0, m51, m52, m53, m54, m55, m56, m57, m58, m59, m60, m61, m62, m63, m64, m65, m66, m67, m68, m69, m70, m71, m72, m73, m74, m75, m76, m77, m78, m79, m80, m81, m82, m83, m84, m85, m86, m87, m88, m89, m90, m91, .int 0, .int 0, m94, m95, m96, m97, m98, m99, m100, m101, m102, m103, m104, m105, m106, m107, m108, m109, .long 0, .long 0, .int 0, m113, m114, m115, m116, m117, m118, m119, m120, m121, m122])), (h1, .inl (cB, 1500, .inl (upd f1 0 (vp_nar .byte y7))))] H := hP
  have hD : va_D A [(h0, .inr (16, [.int 0, m1, .ref h1, .int 2, .int 0, m5, m6, m7, m8, m9, m10, m11, m12, m13, m14, m15, m16, .null, m18, m19, m20, m21, m22, m23, m24, m25, m26, .int 0, m28, m29, .int 0, .int 0, .int 0, m33, m34, m35, .int 0, m37, m38, m39, m40, m41, m42, m43, m44, m45, m46, m47, m48, m49, .int 0, m51, m52, m53, m54, m55, m56, m57, m58, m59, m60, m61, m62, m63, m64, m65, m66, m67, m68, m69, m70, m71, m72, m73, m74, m75, m76, m77, m78, m79, m80, m81, m82, m83, m84, m85, m86, m87, m88, m89, m90, m91, .int 0, .int 0, m94, m95, m96, m97, m98, m99, m100, m101, m102, m103, m104, m105, m106, m107, m108, m109, .long 0, .long 0, .int 0, m113, m114, m115, m116, m117, m118, m119, m120, m121, m122])), (h1, .inl (cB, 1500, .inl (upd f1 0 (vp_nar .byte y7))))] := hD
  refine lv_lload_n hx hb dX16_feed_4_69 rfl (lv_at hl 2 rfl) ?_
  refine lv_bipush (v := 8) hx hb dX16_feed_4_70 (by decide) ?_
  refine lv_iload hx hb dX16_feed_4_72 (lv_at hl 0 rfl) ?_
  refine lv_imul hx hb dX16_feed_4_74 ?_
  refine W.eq (g2 := F0 m 75 ls [.int 16, .long g1, .int 1, .ref h1]) rfl ?_
  refine lv_lshr (v := _) hx hb dX16_feed_4_75 rfl ?_
  refine lv_topl (fun y8 _ => ?_)
  refine lv_l2i (v := _) hx hb dX16_feed_4_76 rfl ?_
  refine lv_topi (fun y9 _ => ?_)
  refine lv_i2b (v := _) hx hb dX16_feed_4_77 rfl ?_
  refine lv_topi (fun y10 _ => ?_)
  refine va_bast hx hb hK hP hD hS 1 0 rfl rfl (by unfold vp_in; decide) dX16_feed_4_78 (fun H locs hP hD hS => ?_)
  have hP : va_P (dC, dI) vwCl [(h0, .inr (16, [.int 0, m1, .ref h1, .int 2, .int 0, m5, m6, m7, m8, m9, m10, m11, m12, m13, m14, m15, m16, .null, m18, m19, m20, m21, m22, m23, m24, m25, m26, .int 0, m28, m29, .int 0, .int 0, .int 0, m33, m34, m35, .int 0, m37, m38, m39, m40, m41, m42, m43, m44, m45, m46, m47, m48, m49, .int 0, m51, m52, m53, m54, m55, m56, m57, m58, m59, m60, m61, m62, m63, m64, m65, m66, m67, m68, m69, m70, m71, m72, m73, m74, m75, m76, m77, m78, m79, m80, m81, m82, m83, m84, m85, m86, m87, m88, m89, m90, m91, .int 0, .int 0, m94, m95, m96, m97, m98, m99, m100, m101, m102, m103, m104, m105, m106, m107, m108, m109, .long 0, .long 0, .int 0, m113, m114, m115, m116, m117, m118, m119, m120, m121, m122])), (h1, .inl (cB, 1500, .inl (upd (upd f1 0 (vp_nar .byte y7)) 1 (vp_nar .byte y10))))] H := hP
  have hD : va_D A [(h0, .inr (16, [.int 0, m1, .ref h1, .int 2, .int 0, m5, m6, m7, m8, m9, m10, m11, m12, m13, m14, m15, m16, .null, m18, m19, m20, m21, m22, m23, m24, m25, m26, .int 0, m28, m29, .int 0, .int 0, .int 0, m33, m34, m35, .int 0, m37, m38, m39, m40, m41, m42, m43, m44, m45, m46, m47, m48, m49, .int 0, m51, m52, m53, m54, m55, m56, m57, m58, m59, m60, m61, m62, m63, m64, m65, m66, m67, m68, m69, m70, m71, m72, m73, m74, m75, m76, m77, m78, m79, m80, m81, m82, m83, m84, m85, m86, m87, m88, m89, m90, m91, .int 0, .int 0, m94, m95, m96, m97, m98, m99, m100, m101, m102, m103, m104, m105, m106, m107, m108, m109, .long 0, .long 0, .int 0, m113, m114, m115, m116, m117, m118, m119, m120, m121, m122])), (h1, .inl (cB, 1500, .inl (upd (upd f1 0 (vp_nar .byte y7)) 1 (vp_nar .byte y10))))] := hD
  refine lv_iinc (k := 0) (v := 1) (lv' := [(4, .int 1), (0, .ref h0), (1, .long g1), (3, .int 4)]) hx hb dX16_feed_4_79 hl rfl (by decide) (by decide) rfl (fun ls hl => ?_)
  refine lv_goto (tgt := 42) hx hb dX16_feed_4_82 (by decide) ?_
  refine lv_iload hx hb dX16_feed_4_42 (lv_at hl 0 rfl) ?_
  refine lv_if_lt (tgt := 85) hx hb dX16_feed_4_44 (by decide) (fun h9 => absurd h9 (by decide)) (fun _ => ?_)
  refine lv_aload_n hx hb dX16_feed_4_47 rfl (lv_at hl 1 rfl) ?_
  refine va_get (D := (dC, dI)) (ci := 16) (v := .int 0) (C := RX16) (T := TX16) (N := 123) hx hb hts wh_X16_feed_4_X16 hown hK hP 0 rfl rfl 0 (by decide) (hts (.fieldLink RX16 1 "StreamHouseModel" "code" "I") (wm_X16_feed_4 5 rfl)) (fun _ h9 => h9) rfl dX16_feed_4_48 ?_
  refine lv_if_ne (tgt := 85) hx hb dX16_feed_4_51 (by decide) (fun h9 => absurd (by decide) h9) (fun _ => ?_)
  refine lv_aload_n hx hb dX16_feed_4_54 rfl (lv_at hl 1 rfl) ?_
  refine va_get (D := (dC, dI)) (ci := 16) (v := .ref h1) (C := RX16) (T := TX16) (N := 123) hx hb hts wh_X16_feed_4_X16 hown hK hP 0 rfl rfl 2 (by decide) (hts (.fieldLink RX16 20 "StreamHouseModel" "tape" "[B") (wm_X16_feed_4 6 rfl)) (fun _ h9 => h9) rfl dX16_feed_4_55 ?_
  refine lv_aload_n hx hb dX16_feed_4_58 rfl (lv_at hl 1 rfl) ?_
  refine lv_dup hx hb dX16_feed_4_59 rfl ?_
  refine va_get (D := (dC, dI)) (ci := 16) (v := .int 2) (C := RX16) (T := TX16) (N := 123) hx hb hts wh_X16_feed_4_X16 hown hK hP 0 rfl rfl 3 (by decide) (hts (.fieldLink RX16 972 "StreamHouseModel" "taped" "I") (wm_X16_feed_4 4 rfl)) (fun _ h9 => h9) rfl dX16_feed_4_60 ?_
  refine lv_dup_x1 hx hb dX16_feed_4_63 rfl rfl ?_
  refine lv_iconst (v := 1) hx hb dX16_feed_4_64 (by decide) ?_
  refine lv_iadd hx hb dX16_feed_4_65 ?_
  refine W.eq (g2 := F0 m 66 ls [.int 3, .ref h0, .int 2, .ref h1]) rfl ?_
  refine va_put (D := (dC, dI)) (ci := 16) (v := .int 3) (ty := .int) (C := RX16) (T := TX16) (N := 123) hx hb hts wh_X16_feed_4_X16 tyX16 tyX16_ok nmX16 hown hK hP hD hS 0 rfl rfl 3 (by decide) (hts (.fieldLink RX16 972 "StreamHouseModel" "taped" "I") (wm_X16_feed_4 4 rfl)) (fun _ h9 => h9) rfl (by decide +kernel) rfl rfl (Nat.le_of_ble_eq_true rfl) dX16_feed_4_66 (fun H locs hP hD hS => ?_)
  have hP : va_P (dC, dI) vwCl [(h0, .inr (16, [.int 0, m1, .ref h1, .int 3, .int 0, m5, m6, m7, m8, m9, m10, m11, m12, m13, m14, m15, m16, .null, m18, m19, m20, m21, m22, m23, m24, m25, m26, .int 0, m28, m29, .int 0, .int 0, .int 0, m33, m34, m35, .int 0, m37, m38, m39, m40, m41, m42, m43, m44, m45, m46, m47, m48, m49, .int 0, m51, m52, m53, m54, m55, m56, m57, m58, m59, m60, m61, m62, m63, m64, m65, m66, m67, m68, m69, m70, m71, m72, m73, m74, m75, m76, m77, m78, m79, m80, m81, m82, m83, m84, m85, m86, m87, m88, m89, m90, m91, .int 0, .int 0, m94, m95, m96, m97, m98, m99, m100, m101, m102, m103, m104, m105, m106, m107, m108, m109, .long 0, .long 0, .int 0, m113, m114, m115, m116, m117, m118, m119, m120, m121, m122])), (h1, .inl (cB, 1500, .inl (upd (upd f1 0 (vp_nar .byte y7)) 1 (vp_nar .byte y10))))] H := hP
  have hD : va_D A [(h0, .inr (16, [.int 0, m1, .ref h1, .int 3, .int 0, m5, m6, m7, m8, m9, m10, m11, m12, m13, m14, m15, m16, .null, m18, m19, m20, m21, m22, m23, m24, m25, m26, .int 0, m28, m29, .int 0, .int 0, .int 0, m33, m34, m35, .int 0, m37, m38, m39, m40, m41, m42, m43, m44, m45, m46, m47, m48, m49, .int 0, m51, m52, m53, m54, m55, m56, m57, m58, m59, m60, m61, m62, m63, m64, m65, m66, m67, m68, m69, m70, m71, m72, m73, m74, m75, m76, m77, m78, m79, m80, m81, m82, m83, m84, m85, m86, m87, m88, m89, m90, m91, .int 0, .int 0, m94, m95, m96, m97, m98, m99, m100, m101, m102, m103, m104, m105, m106, m107, m108, m109, .long 0, .long 0, .int 0, m113, m114, m115, m116, m117, m118, m119, m120, m121, m122])), (h1, .inl (cB, 1500, .inl (upd (upd f1 0 (vp_nar .byte y7)) 1 (vp_nar .byte y10))))] := hD
  refine lv_lload_n hx hb dX16_feed_4_69 rfl (lv_at hl 2 rfl) ?_
  refine lv_bipush (v := 8) hx hb dX16_feed_4_70 (by decide) ?_
  refine lv_iload hx hb dX16_feed_4_72 (lv_at hl 0 rfl) ?_
  refine lv_imul hx hb dX16_feed_4_74 ?_
  refine W.eq (g2 := F0 m 75 ls [.int 8, .long g1, .int 2, .ref h1]) rfl ?_
  refine lv_lshr (v := _) hx hb dX16_feed_4_75 rfl ?_
  refine lv_topl (fun y11 _ => ?_)
  refine lv_l2i (v := _) hx hb dX16_feed_4_76 rfl ?_
  refine lv_topi (fun y12 _ => ?_)
  refine lv_i2b (v := _) hx hb dX16_feed_4_77 rfl ?_
  refine lv_topi (fun y13 _ => ?_)
  refine va_bast hx hb hK hP hD hS 1 0 rfl rfl (by unfold vp_in; decide) dX16_feed_4_78 (fun H locs hP hD hS => ?_)
  have hP : va_P (dC, dI) vwCl [(h0, .inr (16, [.int 0, m1, .ref h1, .int 3, .int 0, m5, m6, m7, m8, m9, m10, m11, m12, m13, m14, m15, m16, .null, m18, m19, m20, m21, m22, m23, m24, m25, m26, .int 0, m28, m29, .int 0, .int 0, .int 0, m33, m34, m35, .int 0, m37, m38, m39, m40, m41, m42, m43, m44, m45, m46, m47, m48, m49, .int 0, m51, m52, m53, m54, m55, m56, m57, m58, m59, m60, m61, m62, m63, m64, m65, m66, m67, m68, m69, m70, m71, m72, m73, m74, m75, m76, m77, m78, m79, m80, m81, m82, m83, m84, m85, m86, m87, m88, m89, m90, m91, .int 0, .int 0, m94, m95, m96, m97, m98, m99, m100, m101, m102, m103, m104, m105, m106, m107, m108, m109, .long 0, .long 0, .int 0, m113, m114, m115, m116, m117, m118, m119, m120, m121, m122])), (h1, .inl (cB, 1500, .inl (upd (upd (upd f1 0 (vp_nar .byte y7)) 1 (vp_nar .byte y10)) 2 (vp_nar .byte y13))))] H := hP
  have hD : va_D A [(h0, .inr (16, [.int 0, m1, .ref h1, .int 3, .int 0, m5, m6, m7, m8, m9, m10, m11, m12, m13, m14, m15, m16, .null, m18, m19, m20, m21, m22, m23, m24, m25, m26, .int 0, m28, m29, .int 0, .int 0, .int 0, m33, m34, m35, .int 0, m37, m38, m39, m40, m41, m42, m43, m44, m45, m46, m47, m48, m49, .int 0, m51, m52, m53, m54, m55, m56, m57, m58, m59, m60, m61, m62, m63, m64, m65, m66, m67, m68, m69, m70, m71, m72, m73, m74, m75, m76, m77, m78, m79, m80, m81, m82, m83, m84, m85, m86, m87, m88, m89, m90, m91, .int 0, .int 0, m94, m95, m96, m97, m98, m99, m100, m101, m102, m103, m104, m105, m106, m107, m108, m109, .long 0, .long 0, .int 0, m113, m114, m115, m116, m117, m118, m119, m120, m121, m122])), (h1, .inl (cB, 1500, .inl (upd (upd (upd f1 0 (vp_nar .byte y7)) 1 (vp_nar .byte y10)) 2 (vp_nar .byte y13))))] := hD
  refine lv_iinc (k := 0) (v := 0) (lv' := [(4, .int 0), (0, .ref h0), (1, .long g1), (3, .int 4)]) hx hb dX16_feed_4_79 hl rfl (by decide) (by decide) rfl (fun ls hl => ?_)
  refine lv_goto (tgt := 42) hx hb dX16_feed_4_82 (by decide) ?_
  refine lv_iload hx hb dX16_feed_4_42 (lv_at hl 0 rfl) ?_
  refine lv_if_lt (tgt := 85) hx hb dX16_feed_4_44 (by decide) (fun h9 => absurd h9 (by decide)) (fun _ => ?_)
  refine lv_aload_n hx hb dX16_feed_4_47 rfl (lv_at hl 1 rfl) ?_
  refine va_get (D := (dC, dI)) (ci := 16) (v := .int 0) (C := RX16) (T := TX16) (N := 123) hx hb hts wh_X16_feed_4_X16 hown hK hP 0 rfl rfl 0 (by decide) (hts (.fieldLink RX16 1 "StreamHouseModel" "code" "I") (wm_X16_feed_4 5 rfl)) (fun _ h9 => h9) rfl dX16_feed_4_48 ?_
  refine lv_if_ne (tgt := 85) hx hb dX16_feed_4_51 (by decide) (fun h9 => absurd (by decide) h9) (fun _ => ?_)
  refine lv_aload_n hx hb dX16_feed_4_54 rfl (lv_at hl 1 rfl) ?_
  refine va_get (D := (dC, dI)) (ci := 16) (v := .ref h1) (C := RX16) (T := TX16) (N := 123) hx hb hts wh_X16_feed_4_X16 hown hK hP 0 rfl rfl 2 (by decide) (hts (.fieldLink RX16 20 "StreamHouseModel" "tape" "[B") (wm_X16_feed_4 6 rfl)) (fun _ h9 => h9) rfl dX16_feed_4_55 ?_
  refine lv_aload_n hx hb dX16_feed_4_58 rfl (lv_at hl 1 rfl) ?_
  refine lv_dup hx hb dX16_feed_4_59 rfl ?_
  refine va_get (D := (dC, dI)) (ci := 16) (v := .int 3) (C := RX16) (T := TX16) (N := 123) hx hb hts wh_X16_feed_4_X16 hown hK hP 0 rfl rfl 3 (by decide) (hts (.fieldLink RX16 972 "StreamHouseModel" "taped" "I") (wm_X16_feed_4 4 rfl)) (fun _ h9 => h9) rfl dX16_feed_4_60 ?_
  refine lv_dup_x1 hx hb dX16_feed_4_63 rfl rfl ?_
  refine lv_iconst (v := 1) hx hb dX16_feed_4_64 (by decide) ?_
  refine lv_iadd hx hb dX16_feed_4_65 ?_
  refine W.eq (g2 := F0 m 66 ls [.int 4, .ref h0, .int 3, .ref h1]) rfl ?_
  refine va_put (D := (dC, dI)) (ci := 16) (v := .int 4) (ty := .int) (C := RX16) (T := TX16) (N := 123) hx hb hts wh_X16_feed_4_X16 tyX16 tyX16_ok nmX16 hown hK hP hD hS 0 rfl rfl 3 (by decide) (hts (.fieldLink RX16 972 "StreamHouseModel" "taped" "I") (wm_X16_feed_4 4 rfl)) (fun _ h9 => h9) rfl (by decide +kernel) rfl rfl (Nat.le_of_ble_eq_true rfl) dX16_feed_4_66 (fun H locs hP hD hS => ?_)
  have hP : va_P (dC, dI) vwCl [(h0, .inr (16, [.int 0, m1, .ref h1, .int 4, .int 0, m5, m6, m7, m8, m9, m10, m11, m12, m13, m14, m15, m16, .null, m18, m19, m20, m21, m22, m23, m24, m25, m26, .int 0, m28, m29, .int 0, .int 0, .int 0, m33, m34, m35, .int 0, m37, m38, m39, m40, m41, m42, m43, m44, m45, m46, m47, m48, m49, .int 0, m51, m52, m53, m54, m55, m56, m57, m58, m59, m60, m61, m62, m63, m64, m65, m66, m67, m68, m69, m70, m71, m72, m73, m74, m75, m76, m77, m78, m79, m80, m81, m82, m83, m84, m85, m86, m87, m88, m89, m90, m91, .int 0, .int 0, m94, m95, m96, m97, m98, m99, m100, m101, m102, m103, m104, m105, m106, m107, m108, m109, .long 0, .long 0, .int 0, m113, m114, m115, m116, m117, m118, m119, m120, m121, m122])), (h1, .inl (cB, 1500, .inl (upd (upd (upd f1 0 (vp_nar .byte y7)) 1 (vp_nar .byte y10)) 2 (vp_nar .byte y13))))] H := hP
  have hD : va_D A [(h0, .inr (16, [.int 0, m1, .ref h1, .int 4, .int 0, m5, m6, m7, m8, m9, m10, m11, m12, m13, m14, m15, m16, .null, m18, m19, m20, m21, m22, m23, m24, m25, m26, .int 0, m28, m29, .int 0, .int 0, .int 0, m33, m34, m35, .int 0, m37, m38, m39, m40, m41, m42, m43, m44, m45, m46, m47, m48, m49, .int 0, m51, m52, m53, m54, m55, m56, m57, m58, m59, m60, m61, m62, m63, m64, m65, m66, m67, m68, m69, m70, m71, m72, m73, m74, m75, m76, m77, m78, m79, m80, m81, m82, m83, m84, m85, m86, m87, m88, m89, m90, m91, .int 0, .int 0, m94, m95, m96, m97, m98, m99, m100, m101, m102, m103, m104, m105, m106, m107, m108, m109, .long 0, .long 0, .int 0, m113, m114, m115, m116, m117, m118, m119, m120, m121, m122])), (h1, .inl (cB, 1500, .inl (upd (upd (upd f1 0 (vp_nar .byte y7)) 1 (vp_nar .byte y10)) 2 (vp_nar .byte y13))))] := hD
  refine lv_lload_n hx hb dX16_feed_4_69 rfl (lv_at hl 2 rfl) ?_
  refine lv_bipush (v := 8) hx hb dX16_feed_4_70 (by decide) ?_
  refine lv_iload hx hb dX16_feed_4_72 (lv_at hl 0 rfl) ?_
  refine lv_imul hx hb dX16_feed_4_74 ?_
  refine W.eq (g2 := F0 m 75 ls [.int 0, .long g1, .int 3, .ref h1]) rfl ?_
  refine lv_lshr (v := _) hx hb dX16_feed_4_75 rfl ?_
  refine lv_topl (fun y14 _ => ?_)
  refine lv_l2i (v := _) hx hb dX16_feed_4_76 rfl ?_
  refine lv_topi (fun y15 _ => ?_)
  refine lv_i2b (v := _) hx hb dX16_feed_4_77 rfl ?_
  refine lv_topi (fun y16 _ => ?_)
  refine va_bast hx hb hK hP hD hS 1 0 rfl rfl (by unfold vp_in; decide) dX16_feed_4_78 (fun H locs hP hD hS => ?_)
  have hP : va_P (dC, dI) vwCl [(h0, .inr (16, [.int 0, m1, .ref h1, .int 4, .int 0, m5, m6, m7, m8, m9, m10, m11, m12, m13, m14, m15, m16, .null, m18, m19, m20, m21, m22, m23, m24, m25, m26, .int 0, m28, m29, .int 0, .int 0, .int 0, m33, m34, m35, .int 0, m37, m38, m39, m40, m41, m42, m43, m44, m45, m46, m47, m48, m49, .int 0, m51, m52, m53, m54, m55, m56, m57, m58, m59, m60, m61, m62, m63, m64, m65, m66, m67, m68, m69, m70, m71, m72, m73, m74, m75, m76, m77, m78, m79, m80, m81, m82, m83, m84, m85, m86, m87, m88, m89, m90, m91, .int 0, .int 0, m94, m95, m96, m97, m98, m99, m100, m101, m102, m103, m104, m105, m106, m107, m108, m109, .long 0, .long 0, .int 0, m113, m114, m115, m116, m117, m118, m119, m120, m121, m122])), (h1, .inl (cB, 1500, .inl (upd (upd (upd (upd f1 0 (vp_nar .byte y7)) 1 (vp_nar .byte y10)) 2 (vp_nar .byte y13)) 3 (vp_nar .byte y16))))] H := hP
  have hD : va_D A [(h0, .inr (16, [.int 0, m1, .ref h1, .int 4, .int 0, m5, m6, m7, m8, m9, m10, m11, m12, m13, m14, m15, m16, .null, m18, m19, m20, m21, m22, m23, m24, m25, m26, .int 0, m28, m29, .int 0, .int 0, .int 0, m33, m34, m35, .int 0, m37, m38, m39, m40, m41, m42, m43, m44, m45, m46, m47, m48, m49, .int 0, m51, m52, m53, m54, m55, m56, m57, m58, m59, m60, m61, m62, m63, m64, m65, m66, m67, m68, m69, m70, m71, m72, m73, m74, m75, m76, m77, m78, m79, m80, m81, m82, m83, m84, m85, m86, m87, m88, m89, m90, m91, .int 0, .int 0, m94, m95, m96, m97, m98, m99, m100, m101, m102, m103, m104, m105, m106, m107, m108, m109, .long 0, .long 0, .int 0, m113, m114, m115, m116, m117, m118, m119, m120, m121, m122])), (h1, .inl (cB, 1500, .inl (upd (upd (upd (upd f1 0 (vp_nar .byte y7)) 1 (vp_nar .byte y10)) 2 (vp_nar .byte y13)) 3 (vp_nar .byte y16))))] := hD
  refine lv_iinc (k := 0) (v := (-1)) (lv' := [(4, .int ((-1))), (0, .ref h0), (1, .long g1), (3, .int 4)]) hx hb dX16_feed_4_79 hl rfl (by decide) (by decide) rfl (fun ls hl => ?_)
  refine lv_goto (tgt := 42) hx hb dX16_feed_4_82 (by decide) ?_
  refine lv_iload hx hb dX16_feed_4_42 (lv_at hl 0 rfl) ?_
  refine lv_if_lt (tgt := 85) hx hb dX16_feed_4_44 (by decide) (fun _ => ?_) (fun h9 => absurd (by decide) h9)
  refine lv_aload_n hx hb dX16_feed_4_85 rfl (lv_at hl 1 rfl) ?_
  refine va_get (D := (dC, dI)) (ci := 16) (v := .int 0) (C := RX16) (T := TX16) (N := 123) hx hb hts wh_X16_feed_4_X16 hown hK hP 0 rfl rfl 0 (by decide) (hts (.fieldLink RX16 1 "StreamHouseModel" "code" "I") (wm_X16_feed_4 5 rfl)) (fun _ h9 => h9) rfl dX16_feed_4_86 ?_
  refine lv_if_le (tgt := 96) hx hb dX16_feed_4_89 (by decide) (fun _ => ?_) (fun h9 => absurd (by decide) h9)
  refine lv_aload_n hx hb dX16_feed_4_96 rfl (lv_at hl 1 rfl) ?_
  refine va_get (D := (dC, dI)) (ci := 16) (v := .int 4) (C := RX16) (T := TX16) (N := 123) hx hb hts wh_X16_feed_4_X16 hown hK hP 0 rfl rfl 3 (by decide) (hts (.fieldLink RX16 972 "StreamHouseModel" "taped" "I") (wm_X16_feed_4 4 rfl)) (fun _ h9 => h9) rfl dX16_feed_4_97 ?_
  have hP9 := hP.sub (ws' := [(h0, .inr (16, [.int 0, m1, .ref h1, .int 4, .int 0, m5, m6, m7, m8, m9, m10, m11, m12, m13, m14, m15, m16, .null, m18, m19, m20, m21, m22, m23, m24, m25, m26, .int 0, m28, m29, .int 0, .int 0, .int 0, m33, m34, m35, .int 0, m37, m38, m39, m40, m41, m42, m43, m44, m45, m46, m47, m48, m49, .int 0, m51, m52, m53, m54, m55, m56, m57, m58, m59, m60, m61, m62, m63, m64, m65, m66, m67, m68, m69, m70, m71, m72, m73, m74, m75, m76, m77, m78, m79, m80, m81, m82, m83, m84, m85, m86, m87, m88, m89, m90, m91, .int 0, .int 0, m94, m95, m96, m97, m98, m99, m100, m101, m102, m103, m104, m105, m106, m107, m108, m109, .long 0, .long 0, .int 0, m113, m114, m115, m116, m117, m118, m119, m120, m121, m122]))]) [0] rfl
  have hD9 := hD.sub (ws' := [(h0, .inr (16, [.int 0, m1, .ref h1, .int 4, .int 0, m5, m6, m7, m8, m9, m10, m11, m12, m13, m14, m15, m16, .null, m18, m19, m20, m21, m22, m23, m24, m25, m26, .int 0, m28, m29, .int 0, .int 0, .int 0, m33, m34, m35, .int 0, m37, m38, m39, m40, m41, m42, m43, m44, m45, m46, m47, m48, m49, .int 0, m51, m52, m53, m54, m55, m56, m57, m58, m59, m60, m61, m62, m63, m64, m65, m66, m67, m68, m69, m70, m71, m72, m73, m74, m75, m76, m77, m78, m79, m80, m81, m82, m83, m84, m85, m86, m87, m88, m89, m90, m91, .int 0, .int 0, m94, m95, m96, m97, m98, m99, m100, m101, m102, m103, m104, m105, m106, m107, m108, m109, .long 0, .long 0, .int 0, m113, m114, m115, m116, m117, m118, m119, m120, m121, m122]))]) [0] (by decide) rfl
  have hK9 := hK.sub (tys' := []) [] rfl
  refine W.widen (k := 0) (n := 0) (by decide) (by decide) ?_
  exact W.iret (v := 4) hx hb hr (fun t ht hW => ⟨⟨4, (), rfl, rfl, by rw [ht]; exact hP9, va_K.moved hW.alike hK9, hD9⟩, hS.F ht⟩) hS.2.2 dX16_feed_4_100

abbrev ar_X16_feed_5 (dC : Nat → ClassId) (dI : Nat → Nat → Nat) (A : Nat → Prop) (h0 h1 : Nat) (g1 : Int64) (cB : ClassId) (f1 : Nat → Int32) (m0 m1 m5 m6 m7 m8 m9 m10 m11 m12 m13 m14 m15 m16 m18 m19 m20 m21 m22 m23 m24 m25 m26 m28 m29 m33 m34 m35 m37 m38 m39 m40 m41 m42 m43 m44 m45 m46 m47 m48 m49 m51 m52 m53 m54 m55 m56 m57 m58 m59 m60 m61 m62 m63 m64 m65 m66 m67 m68 m69 m70 m71 m72 m73 m74 m75 m76 m77 m78 m79 m80 m81 m82 m83 m84 m85 m86 m87 m88 m89 m90 m91 m94 m95 m96 m97 m98 m99 m100 m101 m102 m103 m104 m105 m106 m107 m108 m109 m113 m114 m115 m116 m117 m118 m119 m120 m121 m122 : Value) (_ : Unit) (t : State) : Prop := va_P (dC, dI) vwCl [(h0, .inr (16, [.int 0, m1, .ref h1, .int 5, .int 0, m5, m6, m7, m8, m9, m10, m11, m12, m13, m14, m15, m16, .null, m18, m19, m20, m21, m22, m23, m24, m25, m26, .int 0, m28, m29, .int 0, .int 0, .int 0, m33, m34, m35, .int 0, m37, m38, m39, m40, m41, m42, m43, m44, m45, m46, m47, m48, m49, .int 0, m51, m52, m53, m54, m55, m56, m57, m58, m59, m60, m61, m62, m63, m64, m65, m66, m67, m68, m69, m70, m71, m72, m73, m74, m75, m76, m77, m78, m79, m80, m81, m82, m83, m84, m85, m86, m87, m88, m89, m90, m91, .int 0, .int 0, m94, m95, m96, m97, m98, m99, m100, m101, m102, m103, m104, m105, m106, m107, m108, m109, .long 0, .long 0, .int 0, m113, m114, m115, m116, m117, m118, m119, m120, m121, m122]))] t.heap ∧ va_K (dC, dI) vwCl [] t ∧ va_D A [(h0, .inr (16, [.int 0, m1, .ref h1, .int 5, .int 0, m5, m6, m7, m8, m9, m10, m11, m12, m13, m14, m15, m16, .null, m18, m19, m20, m21, m22, m23, m24, m25, m26, .int 0, m28, m29, .int 0, .int 0, .int 0, m33, m34, m35, .int 0, m37, m38, m39, m40, m41, m42, m43, m44, m45, m46, m47, m48, m49, .int 0, m51, m52, m53, m54, m55, m56, m57, m58, m59, m60, m61, m62, m63, m64, m65, m66, m67, m68, m69, m70, m71, m72, m73, m74, m75, m76, m77, m78, m79, m80, m81, m82, m83, m84, m85, m86, m87, m88, m89, m90, m91, .int 0, .int 0, m94, m95, m96, m97, m98, m99, m100, m101, m102, m103, m104, m105, m106, m107, m108, m109, .long 0, .long 0, .int 0, m113, m114, m115, m116, m117, m118, m119, m120, m121, m122]))]
theorem dX16_feed_5_0 : decode cX16_feed 0 = .ok (.aload_n 0, 1) := by decide +kernel
theorem dX16_feed_5_1 : decode cX16_feed 1 = .ok (.iload_n 3, 1) := by decide +kernel
theorem dX16_feed_5_2 : decode cX16_feed 2 = .ok (.i2l, 1) := by decide +kernel
theorem dX16_feed_5_3 : decode cX16_feed 3 = .ok (.lconst 1, 1) := by decide +kernel
theorem dX16_feed_5_4 : decode cX16_feed 4 = .ok (.ldc2_w 250, 3) := by decide +kernel
theorem dX16_feed_5_7 : decode cX16_feed 7 = .ok (.invokestatic 45, 3) := by decide +kernel
theorem dX16_feed_5_10 : decode cX16_feed 10 = .ok (.ifCond .ne 7, 3) := by decide +kernel
theorem dX16_feed_5_17 : decode cX16_feed 17 = .ok (.aload_n 0, 1) := by decide +kernel
theorem dX16_feed_5_18 : decode cX16_feed 18 = .ok (.getfield 972, 3) := by decide +kernel
theorem dX16_feed_5_21 : decode cX16_feed 21 = .ok (.iload_n 3, 1) := by decide +kernel
theorem dX16_feed_5_22 : decode cX16_feed 22 = .ok (.iadd, 1) := by decide +kernel
theorem dX16_feed_5_23 : decode cX16_feed 23 = .ok (.sipush 1500, 3) := by decide +kernel
theorem dX16_feed_5_26 : decode cX16_feed 26 = .ok (.if_icmp .le 7, 3) := by decide +kernel
theorem dX16_feed_5_33 : decode cX16_feed 33 = .ok (.iconst 0, 1) := by decide +kernel
theorem dX16_feed_5_34 : decode cX16_feed 34 = .ok (.putfield 1, 3) := by decide +kernel
theorem dX16_feed_5_37 : decode cX16_feed 37 = .ok (.iload_n 3, 1) := by decide +kernel
theorem dX16_feed_5_38 : decode cX16_feed 38 = .ok (.iconst 1, 1) := by decide +kernel
theorem dX16_feed_5_39 : decode cX16_feed 39 = .ok (.isub, 1) := by decide +kernel
theorem dX16_feed_5_40 : decode cX16_feed 40 = .ok (.istore 4, 2) := by decide +kernel
theorem dX16_feed_5_42 : decode cX16_feed 42 = .ok (.iload 4, 2) := by decide +kernel
theorem dX16_feed_5_44 : decode cX16_feed 44 = .ok (.ifCond .lt 41, 3) := by decide +kernel
theorem dX16_feed_5_47 : decode cX16_feed 47 = .ok (.aload_n 0, 1) := by decide +kernel
theorem dX16_feed_5_48 : decode cX16_feed 48 = .ok (.getfield 1, 3) := by decide +kernel
theorem dX16_feed_5_51 : decode cX16_feed 51 = .ok (.ifCond .ne 34, 3) := by decide +kernel
theorem dX16_feed_5_54 : decode cX16_feed 54 = .ok (.aload_n 0, 1) := by decide +kernel
theorem dX16_feed_5_55 : decode cX16_feed 55 = .ok (.getfield 20, 3) := by decide +kernel
theorem dX16_feed_5_58 : decode cX16_feed 58 = .ok (.aload_n 0, 1) := by decide +kernel
theorem dX16_feed_5_59 : decode cX16_feed 59 = .ok (.dup, 1) := by decide +kernel
theorem dX16_feed_5_60 : decode cX16_feed 60 = .ok (.getfield 972, 3) := by decide +kernel
theorem dX16_feed_5_63 : decode cX16_feed 63 = .ok (.dup_x1, 1) := by decide +kernel
theorem dX16_feed_5_64 : decode cX16_feed 64 = .ok (.iconst 1, 1) := by decide +kernel
theorem dX16_feed_5_65 : decode cX16_feed 65 = .ok (.iadd, 1) := by decide +kernel
theorem dX16_feed_5_66 : decode cX16_feed 66 = .ok (.putfield 972, 3) := by decide +kernel
theorem dX16_feed_5_69 : decode cX16_feed 69 = .ok (.lload_n 1, 1) := by decide +kernel
theorem dX16_feed_5_70 : decode cX16_feed 70 = .ok (.bipush 8, 2) := by decide +kernel
theorem dX16_feed_5_72 : decode cX16_feed 72 = .ok (.iload 4, 2) := by decide +kernel
theorem dX16_feed_5_74 : decode cX16_feed 74 = .ok (.imul, 1) := by decide +kernel
theorem dX16_feed_5_75 : decode cX16_feed 75 = .ok (.lshr, 1) := by decide +kernel
theorem dX16_feed_5_76 : decode cX16_feed 76 = .ok (.l2i, 1) := by decide +kernel
theorem dX16_feed_5_77 : decode cX16_feed 77 = .ok (.i2b, 1) := by decide +kernel
theorem dX16_feed_5_78 : decode cX16_feed 78 = .ok (.bastore, 1) := by decide +kernel
theorem dX16_feed_5_79 : decode cX16_feed 79 = .ok (.iinc 4 (-1), 3) := by decide +kernel
theorem dX16_feed_5_82 : decode cX16_feed 82 = .ok (.goto (-40), 3) := by decide +kernel
theorem dX16_feed_5_85 : decode cX16_feed 85 = .ok (.aload_n 0, 1) := by decide +kernel
theorem dX16_feed_5_86 : decode cX16_feed 86 = .ok (.getfield 1, 3) := by decide +kernel
theorem dX16_feed_5_89 : decode cX16_feed 89 = .ok (.ifCond .le 7, 3) := by decide +kernel
theorem dX16_feed_5_96 : decode cX16_feed 96 = .ok (.aload_n 0, 1) := by decide +kernel
theorem dX16_feed_5_97 : decode cX16_feed 97 = .ok (.getfield 972, 3) := by decide +kernel
theorem dX16_feed_5_100 : decode cX16_feed 100 = .ok (.ireturn, 1) := by decide +kernel
def ww_X16_feed_5 : List Cond := [.constantLong RX16 250 8, .initialized RX16, .methodLink RX16 45 yX16_within, .static yX16_within, .fieldLink RX16 972 "StreamHouseModel" "taped" "I", .fieldLink RX16 1 "StreamHouseModel" "code" "I", .fieldLink RX16 20 "StreamHouseModel" "tape" "[B"]
def wv_X16_feed_5 : List Cond := .code yX16_feed cX16_feed 5 (some .int) :: (ww_X16_feed_5 ++ (wv_X16_within_1 ++ (u_ws RX16 TX16 123 ++ [])))
theorem wm_X16_feed_5 {w : Cond} (i : Nat) (h : ww_X16_feed_5[i]? = some w) : w ∈ wv_X16_feed_5 := List.mem_cons_of_mem _ (List.mem_append_left _ (List.mem_of_getElem? h))
set_option maxRecDepth 100000 in
theorem gw_X16_feed_5 : wv_X16_feed_5.all goodWord = true := by decide +kernel
theorem wg_X16_feed_5_X16_within_1 : GoodIn wv_X16_feed_5 wv_X16_within_1 := goodIn_sub (fun w h => List.mem_cons_of_mem _ (List.mem_append_right _ (List.mem_append_left _ h))) gw_X16_within_1
theorem wt_X16_feed_5_X16_within_1 : GoodIn wv_X16_feed_5 (va_wsS RX16 45 yX16_within wv_X16_within_1) := goodIn_app (goodIn_sub (fun w h => by simp only [List.mem_cons, List.not_mem_nil, or_false] at h; rcases h with rfl | rfl | rfl <;> first | exact wm_X16_feed_5 2 rfl | exact wm_X16_feed_5 3 rfl | exact wm_X16_feed_5 1 rfl) (by decide +kernel)) wg_X16_feed_5_X16_within_1
theorem wh_X16_feed_5_X16 : ∀ w ∈ u_ws RX16 TX16 123, w ∈ wv_X16_feed_5 := fun w h => List.mem_cons_of_mem _ (List.mem_append_right _ (List.mem_append_right _ (List.mem_append_left _ h)))
set_option maxHeartbeats 4000000 in
set_option maxRecDepth 100000 in
/-- feed(g, 5) of the fresh reference -/
theorem r_X16_feed_5 (l : Launch) (dC : Nat → ClassId) (dI : Nat → Nat → Nat) (h0 h1 : Nat) (g1 : Int64) (cB : ClassId) (f1 : Nat → Int32) (m0 m1 m5 m6 m7 m8 m9 m10 m11 m12 m13 m14 m15 m16 m18 m19 m20 m21 m22 m23 m24 m25 m26 m28 m29 m33 m34 m35 m37 m38 m39 m40 m41 m42 m43 m44 m45 m46 m47 m48 m49 m51 m52 m53 m54 m55 m56 m57 m58 m59 m60 m61 m62 m63 m64 m65 m66 m67 m68 m69 m70 m71 m72 m73 m74 m75 m76 m77 m78 m79 m80 m81 m82 m83 m84 m85 m86 m87 m88 m89 m90 m91 m94 m95 m96 m97 m98 m99 m100 m101 m102 m103 m104 m105 m106 m107 m108 m109 m113 m114 m115 m116 m117 m118 m119 m120 m121 m122 : Value) (sz : Nat) : Met l yX16_feed wv_X16_feed_5 ({ frames := 1, cells := 0, slots := 0, locals := 25 }) (va_Pc [.ref h0, .long g1, .int 5] (fun U => U.heap.size = sz ∧ va_P (dC, dI) vwCl [(h0, .inr (16, [m0, m1, .ref h1, .int 0, .int 0, m5, m6, m7, m8, m9, m10, m11, m12, m13, m14, m15, m16, .null, m18, m19, m20, m21, m22, m23, m24, m25, m26, .int 0, m28, m29, .int 0, .int 0, .int 0, m33, m34, m35, .int 0, m37, m38, m39, m40, m41, m42, m43, m44, m45, m46, m47, m48, m49, .int 0, m51, m52, m53, m54, m55, m56, m57, m58, m59, m60, m61, m62, m63, m64, m65, m66, m67, m68, m69, m70, m71, m72, m73, m74, m75, m76, m77, m78, m79, m80, m81, m82, m83, m84, m85, m86, m87, m88, m89, m90, m91, .int 0, .int 0, m94, m95, m96, m97, m98, m99, m100, m101, m102, m103, m104, m105, m106, m107, m108, m109, .long 0, .long 0, .int 0, m113, m114, m115, m116, m117, m118, m119, m120, m121, m122])), (h1, .inl (cB, 1500, .inl f1))] U.heap ∧ va_K (dC, dI) vwCl [(cB, .byte)] U ∧ va_D (fun _ => True) [(h0, .inr (16, [m0, m1, .ref h1, .int 0, .int 0, m5, m6, m7, m8, m9, m10, m11, m12, m13, m14, m15, m16, .null, m18, m19, m20, m21, m22, m23, m24, m25, m26, .int 0, m28, m29, .int 0, .int 0, .int 0, m33, m34, m35, .int 0, m37, m38, m39, m40, m41, m42, m43, m44, m45, m46, m47, m48, m49, .int 0, m51, m52, m53, m54, m55, m56, m57, m58, m59, m60, m61, m62, m63, m64, m65, m66, m67, m68, m69, m70, m71, m72, m73, m74, m75, m76, m77, m78, m79, m80, m81, m82, m83, m84, m85, m86, m87, m88, m89, m90, m91, .int 0, .int 0, m94, m95, m96, m97, m98, m99, m100, m101, m102, m103, m104, m105, m106, m107, m108, m109, .long 0, .long 0, .int 0, m113, m114, m115, m116, m117, m118, m119, m120, m121, m122])), (h1, .inl (cB, 1500, .inl f1))])) (va_Qi (fun r (_ : Unit) => r = 5) (ar_X16_feed_5 dC dI (va_A [(h0, .inr (16, [m0, m1, .ref h1, .int 0, .int 0, m5, m6, m7, m8, m9, m10, m11, m12, m13, m14, m15, m16, .null, m18, m19, m20, m21, m22, m23, m24, m25, m26, .int 0, m28, m29, .int 0, .int 0, .int 0, m33, m34, m35, .int 0, m37, m38, m39, m40, m41, m42, m43, m44, m45, m46, m47, m48, m49, .int 0, m51, m52, m53, m54, m55, m56, m57, m58, m59, m60, m61, m62, m63, m64, m65, m66, m67, m68, m69, m70, m71, m72, m73, m74, m75, m76, m77, m78, m79, m80, m81, m82, m83, m84, m85, m86, m87, m88, m89, m90, m91, .int 0, .int 0, m94, m95, m96, m97, m98, m99, m100, m101, m102, m103, m104, m105, m106, m107, m108, m109, .long 0, .long 0, .int 0, m113, m114, m115, m116, m117, m118, m119, m120, m121, m122])), (h1, .inl (cB, 1500, .inl f1))] sz) h0 h1 g1 cB f1 m0 m1 m5 m6 m7 m8 m9 m10 m11 m12 m13 m14 m15 m16 m18 m19 m20 m21 m22 m23 m24 m25 m26 m28 m29 m33 m34 m35 m37 m38 m39 m40 m41 m42 m43 m44 m45 m46 m47 m48 m49 m51 m52 m53 m54 m55 m56 m57 m58 m59 m60 m61 m62 m63 m64 m65 m66 m67 m68 m69 m70 m71 m72 m73 m74 m75 m76 m77 m78 m79 m80 m81 m82 m83 m84 m85 m86 m87 m88 m89 m90 m91 m94 m95 m96 m97 m98 m99 m100 m101 m102 m103 m104 m105 m106 m107 m108 m109 m113 m114 m115 m116 m117 m118 m119 m120 m121 m122) (va_A [(h0, .inr (16, [m0, m1, .ref h1, .int 0, .int 0, m5, m6, m7, m8, m9, m10, m11, m12, m13, m14, m15, m16, .null, m18, m19, m20, m21, m22, m23, m24, m25, m26, .int 0, m28, m29, .int 0, .int 0, .int 0, m33, m34, m35, .int 0, m37, m38, m39, m40, m41, m42, m43, m44, m45, m46, m47, m48, m49, .int 0, m51, m52, m53, m54, m55, m56, m57, m58, m59, m60, m61, m62, m63, m64, m65, m66, m67, m68, m69, m70, m71, m72, m73, m74, m75, m76, m77, m78, m79, m80, m81, m82, m83, m84, m85, m86, m87, m88, m89, m90, m91, .int 0, .int 0, m94, m95, m96, m97, m98, m99, m100, m101, m102, m103, m104, m105, m106, m107, m108, m109, .long 0, .long 0, .int 0, m113, m114, m115, m116, m117, m118, m119, m120, m121, m122])), (h1, .inl (cB, 1500, .inl f1))] sz)) 0 0 (va_A [(h0, .inr (16, [m0, m1, .ref h1, .int 0, .int 0, m5, m6, m7, m8, m9, m10, m11, m12, m13, m14, m15, m16, .null, m18, m19, m20, m21, m22, m23, m24, m25, m26, .int 0, m28, m29, .int 0, .int 0, .int 0, m33, m34, m35, .int 0, m37, m38, m39, m40, m41, m42, m43, m44, m45, m46, m47, m48, m49, .int 0, m51, m52, m53, m54, m55, m56, m57, m58, m59, m60, m61, m62, m63, m64, m65, m66, m67, m68, m69, m70, m71, m72, m73, m74, m75, m76, m77, m78, m79, m80, m81, m82, m83, m84, m85, m86, m87, m88, m89, m90, m91, .int 0, .int 0, m94, m95, m96, m97, m98, m99, m100, m101, m102, m103, m104, m105, m106, m107, m108, m109, .long 0, .long 0, .int 0, m113, m114, m115, m116, m117, m118, m119, m120, m121, m122])), (h1, .inl (cB, 1500, .inl f1))] sz) := by
  refine Met.ofW (cc := cX16_feed) (maxL := 5) (ret := (some .int)) (by decide) rfl ?_
  intro p e s m args below meth c s₁ B hml hv
  obtain ⟨rfl, hsz, hP, hK, hD0⟩ := hv
  have hx := B.exec
  have hb := B.bytes
  have hr := B.returns
  have hts := atoms_spec (ws := wv_X16_feed_5) B.pre
  have hown : s.vm.findClass RX16 = some m.cls := findClass_of_methodNamed B.named
  have hlocks := B.notSynchronized
  subst hsz
  have hD := hD0.self (sz := s.heap.size)
  generalize hAe : va_A [(h0, .inr (16, [m0, m1, .ref h1, .int 0, .int 0, m5, m6, m7, m8, m9, m10, m11, m12, m13, m14, m15, m16, .null, m18, m19, m20, m21, m22, m23, m24, m25, m26, .int 0, m28, m29, .int 0, .int 0, .int 0, m33, m34, m35, .int 0, m37, m38, m39, m40, m41, m42, m43, m44, m45, m46, m47, m48, m49, .int 0, m51, m52, m53, m54, m55, m56, m57, m58, m59, m60, m61, m62, m63, m64, m65, m66, m67, m68, m69, m70, m71, m72, m73, m74, m75, m76, m77, m78, m79, m80, m81, m82, m83, m84, m85, m86, m87, m88, m89, m90, m91, .int 0, .int 0, m94, m95, m96, m97, m98, m99, m100, m101, m102, m103, m104, m105, m106, m107, m108, m109, .long 0, .long 0, .int 0, m113, m114, m115, m116, m117, m118, m119, m120, m121, m122])), (h1, .inl (cB, 1500, .inl f1))] s.heap.size = A at hD ⊢
  have hA : ∀ q : Nat, s.heap.size ≤ q → A q := fun q h => by rw [← hAe]; exact Or.inr h
  have hS : va_S A s.heap s.heap [] := va_S.rf
  have hP : va_P (dC, dI) vwCl [(h0, .inr (16, [m0, m1, .ref h1, .int 0, .int 0, m5, m6, m7, m8, m9, m10, m11, m12, m13, m14, m15, m16, .null, m18, m19, m20, m21, m22, m23, m24, m25, m26, .int 0, m28, m29, .int 0, .int 0, .int 0, m33, m34, m35, .int 0, m37, m38, m39, m40, m41, m42, m43, m44, m45, m46, m47, m48, m49, .int 0, m51, m52, m53, m54, m55, m56, m57, m58, m59, m60, m61, m62, m63, m64, m65, m66, m67, m68, m69, m70, m71, m72, m73, m74, m75, m76, m77, m78, m79, m80, m81, m82, m83, m84, m85, m86, m87, m88, m89, m90, m91, .int 0, .int 0, m94, m95, m96, m97, m98, m99, m100, m101, m102, m103, m104, m105, m106, m107, m108, m109, .long 0, .long 0, .int 0, m113, m114, m115, m116, m117, m118, m119, m120, m121, m122])), (h1, .inl (cB, 1500, .inl f1))] s.heap := hP
  have hl := lv_entry ([.ref h0, .long g1, .int 5]) (n := 5) (Nat.le_of_ble_eq_true rfl)
  rw [lg_entry_eq]
  generalize (lg_sl ([.ref h0, .long g1, .int 5]) ++ List.replicate (5 - (lg_sl ([.ref h0, .long g1, .int 5])).length) Slot.unset).toArray = ls at hl ⊢
  have hl : lv_has ls 5 [(0, .ref h0), (1, .long g1), (3, .int 5)] := hl
  refine lv_aload_n hx hb dX16_feed_5_0 rfl (lv_at hl 0 rfl) ?_
  refine lv_iload_n hx hb dX16_feed_5_1 rfl (lv_at hl 2 rfl) ?_
  refine lv_i2l (v := 5) hx hb dX16_feed_5_2 (by decide) ?_
  refine lv_lconst (v := 1) hx hb dX16_feed_5_3 (by decide) ?_
  refine lv_ldc2 hx hb hown (hts (.constantLong RX16 250 8) (wm_X16_feed_5 0 rfl)) dX16_feed_5_4 ?_
  have hPc := hP.sub (ws' := []) [] rfl
  have hDc := hD.sub (ws' := []) [] (by decide) rfl
  have hKc := hK.sub (tys' := []) [] rfl
  have hFc := va_free (wc := []) hD hS hA [] rfl
  have h_1 : 0 ≤ 0 := by decide
  have h_2 : 0 ≤ 0 := by decide
  refine va_calli (va_runS (As := [.long 5, .long 1, .long 8]) (rest := [.ref h0]) ⟨hx, hb, hml, hown, hts⟩ (r_X16_within_1 l dC dI 5 1 8 _) (va_cwS 3 hts wt_X16_feed_5_X16_within_1 rfl rfl rfl (by decide +kernel) ⟨Nat.le_of_ble_eq_true rfl, Nat.le_of_ble_eq_true rfl⟩) ⟨fun a U g mk q => by obtain ⟨q0, q1, qP, qK, qD, qp⟩ := q; exact ⟨q0, q1, qP, va_K.moved (u := U) (U := U.calling g mk a) (Vm.Alike.refl U.vm) qK, qD, qp⟩, fun U hU hW => ⟨rfl, by rw [hU], by rw [hU]; exact hPc, va_K.moved hW.alike hKc, hDc.weaken (fun _ _ _ _ => trivial), ⟨by decide, by decide⟩⟩⟩ rfl rfl hl.1 rfl (lv_room (Nat.le_of_ble_eq_true rfl)) dX16_feed_5_7 ⟨h_1, h_2⟩) hS (fun q _ h => hFc q h) hFc (fun y4 u3 t H1 locs ht hvm hw hB hz1 hk1 hS => ?_)
  obtain ⟨hP1, hK1, hD1⟩ := hB
  rw [ht] at hP1
  have hK1 := va_K.moved hvm.symm hK1
  obtain ⟨hP, hD⟩ := va_join (wr := [(h0, .inr (16, [m0, m1, .ref h1, .int 0, .int 0, m5, m6, m7, m8, m9, m10, m11, m12, m13, m14, m15, m16, .null, m18, m19, m20, m21, m22, m23, m24, m25, m26, .int 0, m28, m29, .int 0, .int 0, .int 0, m33, m34, m35, .int 0, m37, m38, m39, m40, m41, m42, m43, m44, m45, m46, m47, m48, m49, .int 0, m51, m52, m53, m54, m55, m56, m57, m58, m59, m60, m61, m62, m63, m64, m65, m66, m67, m68, m69, m70, m71, m72, m73, m74, m75, m76, m77, m78, m79, m80, m81, m82, m83, m84, m85, m86, m87, m88, m89, m90, m91, .int 0, .int 0, m94, m95, m96, m97, m98, m99, m100, m101, m102, m103, m104, m105, m106, m107, m108, m109, .long 0, .long 0, .int 0, m113, m114, m115, m116, m117, m118, m119, m120, m121, m122])), (h1, .inl (cB, 1500, .inl f1))]) (w1 := []) hP hD [] [0, 1] rfl rfl (by decide) (by decide) hk1 hFc hP1 hD1
  have hK := (hK.sub (tys' := [(cB, .byte)]) [0] rfl).app hK1
  generalize H1 = H at hP hS ⊢
  have hP : va_P (dC, dI) vwCl [(h0, .inr (16, [m0, m1, .ref h1, .int 0, .int 0, m5, m6, m7, m8, m9, m10, m11, m12, m13, m14, m15, m16, .null, m18, m19, m20, m21, m22, m23, m24, m25, m26, .int 0, m28, m29, .int 0, .int 0, .int 0, m33, m34, m35, .int 0, m37, m38, m39, m40, m41, m42, m43, m44, m45, m46, m47, m48, m49, .int 0, m51, m52, m53, m54, m55, m56, m57, m58, m59, m60, m61, m62, m63, m64, m65, m66, m67, m68, m69, m70, m71, m72, m73, m74, m75, m76, m77, m78, m79, m80, m81, m82, m83, m84, m85, m86, m87, m88, m89, m90, m91, .int 0, .int 0, m94, m95, m96, m97, m98, m99, m100, m101, m102, m103, m104, m105, m106, m107, m108, m109, .long 0, .long 0, .int 0, m113, m114, m115, m116, m117, m118, m119, m120, m121, m122])), (h1, .inl (cB, 1500, .inl f1))] H := hP
  have hD : va_D A [(h0, .inr (16, [m0, m1, .ref h1, .int 0, .int 0, m5, m6, m7, m8, m9, m10, m11, m12, m13, m14, m15, m16, .null, m18, m19, m20, m21, m22, m23, m24, m25, m26, .int 0, m28, m29, .int 0, .int 0, .int 0, m33, m34, m35, .int 0, m37, m38, m39, m40, m41, m42, m43, m44, m45, m46, m47, m48, m49, .int 0, m51, m52, m53, m54, m55, m56, m57, m58, m59, m60, m61, m62, m63, m64, m65, m66, m67, m68, m69, m70, m71, m72, m73, m74, m75, m76, m77, m78, m79, m80, m81, m82, m83, m84, m85, m86, m87, m88, m89, m90, m91, .int 0, .int 0, m94, m95, m96, m97, m98, m99, m100, m101, m102, m103, m104, m105, m106, m107, m108, m109, .long 0, .long 0, .int 0, m113, m114, m115, m116, m117, m118, m119, m120, m121, m122])), (h1, .inl (cB, 1500, .inl f1))] := hD
  have hK : va_K (dC, dI) vwCl [(cB, .byte)] s := hK
  refine W.widen (k := 0) (n := 0) (by decide) (by decide) ?_
  have hw : y4 = 1 := hw
  subst hw
  refine lv_if_ne (tgt := 17) hx hb dX16_feed_5_10 (by decide) (fun _ => ?_) (fun h9 => absurd h9 (by decide))
  refine lv_aload_n hx hb dX16_feed_5_17 rfl (lv_at hl 0 rfl) ?_
  refine va_get (D := (dC, dI)) (ci := 16) (v := .int 0) (C := RX16) (T := TX16) (N := 123) hx hb hts wh_X16_feed_5_X16 hown hK hP 0 rfl rfl 3 (by decide) (hts (.fieldLink RX16 972 "StreamHouseModel" "taped" "I") (wm_X16_feed_5 4 rfl)) (fun _ h9 => h9) rfl dX16_feed_5_18 ?_
  refine lv_iload_n hx hb dX16_feed_5_21 rfl (lv_at hl 2 rfl) ?_
  refine lv_iadd hx hb dX16_feed_5_22 ?_
  refine W.eq (g2 := F0 m 23 ls [.int 5, .ref h0]) rfl ?_
  refine lv_sipush (v := 1500) hx hb dX16_feed_5_23 (by decide) ?_
  refine lv_icmp_le (tgt := 33) hx hb dX16_feed_5_26 (by decide) (fun _ => ?_) (fun h9 => absurd (by decide) h9)
  refine lv_iconst (v := 0) hx hb dX16_feed_5_33 (by decide) ?_
  refine va_put (D := (dC, dI)) (ci := 16) (v := .int 0) (ty := .int) (C := RX16) (T := TX16) (N := 123) hx hb hts wh_X16_feed_5_X16 tyX16 tyX16_ok nmX16 hown hK hP hD hS 0 rfl rfl 0 (by decide) (hts (.fieldLink RX16 1 "StreamHouseModel" "code" "I") (wm_X16_feed_5 5 rfl)) (fun _ h9 => h9) rfl (by decide +kernel) rfl rfl (Nat.le_of_ble_eq_true rfl) dX16_feed_5_34 (fun H locs hP hD hS => ?_)
  have hP : va_P (dC, dI) vwCl [(h0, .inr (16, [.int 0, m1, .ref h1, .int 0, .int 0, m5, m6, m7, m8, m9, m10, m11, m12, m13, m14, m15, m16, .null, m18, m19, m20, m21, m22, m23, m24, m25, m26, .int 0, m28, m29, .int 0, .int 0, .int 0, m33, m34, m35, .int 0, m37, m38, m39, m40, m41, m42, m43, m44, m45, m46, m47, m48, m49, .int 0, m51, m52, m53, m54, m55, m56, m57, m58, m59, m60, m61, m62, m63, m64, m65, m66, m67, m68, m69, m70, m71, m72, m73, m74, m75, m76, m77, m78, m79, m80, m81, m82, m83, m84, m85, m86, m87, m88, m89, m90, m91, .int 0, .int 0, m94, m95, m96, m97, m98, m99, m100, m101, m102, m103, m104, m105, m106, m107, m108, m109, .long 0, .long 0, .int 0, m113, m114, m115, m116, m117, m118, m119, m120, m121, m122])), (h1, .inl (cB, 1500, .inl f1))] H := hP
  have hD : va_D A [(h0, .inr (16, [.int 0, m1, .ref h1, .int 0, .int 0, m5, m6, m7, m8, m9, m10, m11, m12, m13, m14, m15, m16, .null, m18, m19, m20, m21, m22, m23, m24, m25, m26, .int 0, m28, m29, .int 0, .int 0, .int 0, m33, m34, m35, .int 0, m37, m38, m39, m40, m41, m42, m43, m44, m45, m46, m47, m48, m49, .int 0, m51, m52, m53, m54, m55, m56, m57, m58, m59, m60, m61, m62, m63, m64, m65, m66, m67, m68, m69, m70, m71, m72, m73, m74, m75, m76, m77, m78, m79, m80, m81, m82, m83, m84, m85, m86, m87, m88, m89, m90, m91, .int 0, .int 0, m94, m95, m96, m97, m98, m99, m100, m101, m102, m103, m104, m105, m106, m107, m108, m109, .long 0, .long 0, .int 0, m113, m114, m115, m116, m117, m118, m119, m120, m121, m122])), (h1, .inl (cB, 1500, .inl f1))] := hD
  refine lv_iload_n hx hb dX16_feed_5_37 rfl (lv_at hl 2 rfl) ?_
  refine lv_iconst (v := 1) hx hb dX16_feed_5_38 (by decide) ?_
  refine lv_isub hx hb dX16_feed_5_39 ?_
  refine W.eq (g2 := F0 m 40 ls [.int 4]) rfl ?_
  refine lv_istore (lv' := [(4, .int 4), (0, .ref h0), (1, .long g1), (3, .int 5)]) hx hb dX16_feed_5_40 hl (by decide) rfl (fun ls hl => ?_)
  refine lv_iload hx hb dX16_feed_5_42 (lv_at hl 0 rfl) ?_
  refine lv_if_lt (tgt := 85) hx hb dX16_feed_5_44 (by decide) (fun h9 => absurd h9 (by decide)) (fun _ => ?_)
  refine lv_aload_n hx hb dX16_feed_5_47 rfl (lv_at hl 1 rfl) ?_
  refine va_get (D := (dC, dI)) (ci := 16) (v := .int 0) (C := RX16) (T := TX16) (N := 123) hx hb hts wh_X16_feed_5_X16 hown hK hP 0 rfl rfl 0 (by decide) (hts (.fieldLink RX16 1 "StreamHouseModel" "code" "I") (wm_X16_feed_5 5 rfl)) (fun _ h9 => h9) rfl dX16_feed_5_48 ?_
  refine lv_if_ne (tgt := 85) hx hb dX16_feed_5_51 (by decide) (fun h9 => absurd (by decide) h9) (fun _ => ?_)
  refine lv_aload_n hx hb dX16_feed_5_54 rfl (lv_at hl 1 rfl) ?_
  refine va_get (D := (dC, dI)) (ci := 16) (v := .ref h1) (C := RX16) (T := TX16) (N := 123) hx hb hts wh_X16_feed_5_X16 hown hK hP 0 rfl rfl 2 (by decide) (hts (.fieldLink RX16 20 "StreamHouseModel" "tape" "[B") (wm_X16_feed_5 6 rfl)) (fun _ h9 => h9) rfl dX16_feed_5_55 ?_
  refine lv_aload_n hx hb dX16_feed_5_58 rfl (lv_at hl 1 rfl) ?_
  refine lv_dup hx hb dX16_feed_5_59 rfl ?_
  refine va_get (D := (dC, dI)) (ci := 16) (v := .int 0) (C := RX16) (T := TX16) (N := 123) hx hb hts wh_X16_feed_5_X16 hown hK hP 0 rfl rfl 3 (by decide) (hts (.fieldLink RX16 972 "StreamHouseModel" "taped" "I") (wm_X16_feed_5 4 rfl)) (fun _ h9 => h9) rfl dX16_feed_5_60 ?_
  refine lv_dup_x1 hx hb dX16_feed_5_63 rfl rfl ?_
  refine lv_iconst (v := 1) hx hb dX16_feed_5_64 (by decide) ?_
  refine lv_iadd hx hb dX16_feed_5_65 ?_
  refine W.eq (g2 := F0 m 66 ls [.int 1, .ref h0, .int 0, .ref h1]) rfl ?_
  refine va_put (D := (dC, dI)) (ci := 16) (v := .int 1) (ty := .int) (C := RX16) (T := TX16) (N := 123) hx hb hts wh_X16_feed_5_X16 tyX16 tyX16_ok nmX16 hown hK hP hD hS 0 rfl rfl 3 (by decide) (hts (.fieldLink RX16 972 "StreamHouseModel" "taped" "I") (wm_X16_feed_5 4 rfl)) (fun _ h9 => h9) rfl (by decide +kernel) rfl rfl (Nat.le_of_ble_eq_true rfl) dX16_feed_5_66 (fun H locs hP hD hS => ?_)
  have hP : va_P (dC, dI) vwCl [(h0, .inr (16, [.int 0, m1, .ref h1, .int 1, .int 0, m5, m6, m7, m8, m9, m10, m11, m12, m13, m14, m15, m16, .null, m18, m19, m20, m21, m22, m23, m24, m25, m26, .int 0, m28, m29, .int 0, .int 0, .int 0, m33, m34, m35, .int 0, m37, m38, m39, m40, m41, m42, m43, m44, m45, m46, m47, m48, m49, .int 0, m51, m52, m53, m54, m55, m56, m57, m58, m59, m60, m61, m62, m63, m64, m65, m66, m67, m68, m69, m70, m71, m72, m73, m74, m75, m76, m77, m78, m79, m80, m81, m82, m83, m84, m85, m86, m87, m88, m89, m90, m91, .int 0, .int 0, m94, m95, m96, m97, m98, m99, m100, m101, m102, m103, m104, m105, m106, m107, m108, m109, .long 0, .long 0, .int 0, m113, m114, m115, m116, m117, m118, m119, m120, m121, m122])), (h1, .inl (cB, 1500, .inl f1))] H := hP
  have hD : va_D A [(h0, .inr (16, [.int 0, m1, .ref h1, .int 1, .int 0, m5, m6, m7, m8, m9, m10, m11, m12, m13, m14, m15, m16, .null, m18, m19, m20, m21, m22, m23, m24, m25, m26, .int 0, m28, m29, .int 0, .int 0, .int 0, m33, m34, m35, .int 0, m37, m38, m39, m40, m41, m42, m43, m44, m45, m46, m47, m48, m49, .int 0, m51, m52, m53, m54, m55, m56, m57, m58, m59, m60, m61, m62, m63, m64, m65, m66, m67, m68, m69, m70, m71, m72, m73, m74, m75, m76, m77, m78, m79, m80, m81, m82, m83, m84, m85, m86, m87, m88, m89, m90, m91, .int 0, .int 0, m94, m95, m96, m97, m98, m99, m100, m101, m102, m103, m104, m105, m106, m107, m108, m109, .long 0, .long 0, .int 0, m113, m114, m115, m116, m117, m118, m119, m120, m121, m122])), (h1, .inl (cB, 1500, .inl f1))] := hD
  refine lv_lload_n hx hb dX16_feed_5_69 rfl (lv_at hl 2 rfl) ?_
  refine lv_bipush (v := 8) hx hb dX16_feed_5_70 (by decide) ?_
  refine lv_iload hx hb dX16_feed_5_72 (lv_at hl 0 rfl) ?_
  refine lv_imul hx hb dX16_feed_5_74 ?_
  refine W.eq (g2 := F0 m 75 ls [.int 32, .long g1, .int 0, .ref h1]) rfl ?_
  refine lv_lshr (v := _) hx hb dX16_feed_5_75 rfl ?_
  refine lv_topl (fun y5 _ => ?_)
  refine lv_l2i (v := _) hx hb dX16_feed_5_76 rfl ?_
  refine lv_topi (fun y6 _ => ?_)
  refine lv_i2b (v := _) hx hb dX16_feed_5_77 rfl ?_
  refine lv_topi (fun y7 _ => ?_)
  refine va_bast hx hb hK hP hD hS 1 0 rfl rfl (by unfold vp_in; decide) dX16_feed_5_78 (fun H locs hP hD hS => ?_)
  have hP : va_P (dC, dI) vwCl [(h0, .inr (16, [.int 0, m1, .ref h1, .int 1, .int 0, m5, m6, m7, m8, m9, m10, m11, m12, m13, m14, m15, m16, .null, m18, m19, m20, m21, m22, m23, m24, m25, m26, .int 0, m28, m29, .int 0, .int 0, .int 0, m33, m34, m35, .int 0, m37, m38, m39, m40, m41, m42, m43, m44, m45, m46, m47, m48, m49, .int 0, m51, m52, m53, m54, m55, m56, m57, m58, m59, m60, m61, m62, m63, m64, m65, m66, m67, m68, m69, m70, m71, m72, m73, m74, m75, m76, m77, m78, m79, m80, m81, m82, m83, m84, m85, m86, m87, m88, m89, m90, m91, .int 0, .int 0, m94, m95, m96, m97, m98, m99, m100, m101, m102, m103, m104, m105, m106, m107, m108, m109, .long 0, .long 0, .int 0, m113, m114, m115, m116, m117, m118, m119, m120, m121, m122])), (h1, .inl (cB, 1500, .inl (upd f1 0 (vp_nar .byte y7))))] H := hP
  have hD : va_D A [(h0, .inr (16, [.int 0, m1, .ref h1, .int 1, .int 0, m5, m6, m7, m8, m9, m10, m11, m12, m13, m14, m15, m16, .null, m18, m19, m20, m21, m22, m23, m24, m25, m26, .int 0, m28, m29, .int 0, .int 0, .int 0, m33, m34, m35, .int 0, m37, m38, m39, m40, m41, m42, m43, m44, m45, m46, m47, m48, m49, .int 0, m51, m52, m53, m54, m55, m56, m57, m58, m59, m60, m61, m62, m63, m64, m65, m66, m67, m68, m69, m70, m71, m72, m73, m74, m75, m76, m77, m78, m79, m80, m81, m82, m83, m84, m85, m86, m87, m88, m89, m90, m91, .int 0, .int 0, m94, m95, m96, m97, m98, m99, m100, m101, m102, m103, m104, m105, m106, m107, m108, m109, .long 0, .long 0, .int 0, m113, m114, m115, m116, m117, m118, m119, m120, m121, m122])), (h1, .inl (cB, 1500, .inl (upd f1 0 (vp_nar .byte y7))))] := hD
  refine lv_iinc (k := 0) (v := 3) (lv' := [(4, .int 3), (0, .ref h0), (1, .long g1), (3, .int 5)]) hx hb dX16_feed_5_79 hl rfl (by decide) (by decide) rfl (fun ls hl => ?_)
  refine lv_goto (tgt := 42) hx hb dX16_feed_5_82 (by decide) ?_
  refine lv_iload hx hb dX16_feed_5_42 (lv_at hl 0 rfl) ?_
  refine lv_if_lt (tgt := 85) hx hb dX16_feed_5_44 (by decide) (fun h9 => absurd h9 (by decide)) (fun _ => ?_)
  refine lv_aload_n hx hb dX16_feed_5_47 rfl (lv_at hl 1 rfl) ?_
  refine va_get (D := (dC, dI)) (ci := 16) (v := .int 0) (C := RX16) (T := TX16) (N := 123) hx hb hts wh_X16_feed_5_X16 hown hK hP 0 rfl rfl 0 (by decide) (hts (.fieldLink RX16 1 "StreamHouseModel" "code" "I") (wm_X16_feed_5 5 rfl)) (fun _ h9 => h9) rfl dX16_feed_5_48 ?_
  refine lv_if_ne (tgt := 85) hx hb dX16_feed_5_51 (by decide) (fun h9 => absurd (by decide) h9) (fun _ => ?_)
  refine lv_aload_n hx hb dX16_feed_5_54 rfl (lv_at hl 1 rfl) ?_
  refine va_get (D := (dC, dI)) (ci := 16) (v := .ref h1) (C := RX16) (T := TX16) (N := 123) hx hb hts wh_X16_feed_5_X16 hown hK hP 0 rfl rfl 2 (by decide) (hts (.fieldLink RX16 20 "StreamHouseModel" "tape" "[B") (wm_X16_feed_5 6 rfl)) (fun _ h9 => h9) rfl dX16_feed_5_55 ?_
  refine lv_aload_n hx hb dX16_feed_5_58 rfl (lv_at hl 1 rfl) ?_
  refine lv_dup hx hb dX16_feed_5_59 rfl ?_
  refine va_get (D := (dC, dI)) (ci := 16) (v := .int 1) (C := RX16) (T := TX16) (N := 123) hx hb hts wh_X16_feed_5_X16 hown hK hP 0 rfl rfl 3 (by decide) (hts (.fieldLink RX16 972 "StreamHouseModel" "taped" "I") (wm_X16_feed_5 4 rfl)) (fun _ h9 => h9) rfl dX16_feed_5_60 ?_
  refine lv_dup_x1 hx hb dX16_feed_5_63 rfl rfl ?_
  refine lv_iconst (v := 1) hx hb dX16_feed_5_64 (by decide) ?_
  refine lv_iadd hx hb dX16_feed_5_65 ?_
  refine W.eq (g2 := F0 m 66 ls [.int 2, .ref h0, .int 1, .ref h1]) rfl ?_
  refine va_put (D := (dC, dI)) (ci := 16) (v := .int 2) (ty := .int) (C := RX16) (T := TX16) (N := 123) hx hb hts wh_X16_feed_5_X16 tyX16 tyX16_ok nmX16 hown hK hP hD hS 0 rfl rfl 3 (by decide) (hts (.fieldLink RX16 972 "StreamHouseModel" "taped" "I") (wm_X16_feed_5 4 rfl)) (fun _ h9 => h9) rfl (by decide +kernel) rfl rfl (Nat.le_of_ble_eq_true rfl) dX16_feed_5_66 (fun H locs hP hD hS => ?_)
  have hP : va_P (dC, dI) vwCl [(h0, .inr (16, [.int 0, m1, .ref h1, .int 2, .int 0, m5, m6, m7, m8, m9, m10, m11, m12, m13, m14, m15, m16, .null, m18, m19, m20, m21, m22, m23, m24, m25, m26, .int 0, m28, m29, .int 0, .int 0, .int 0, m33, m34, m35, .int 0, m37, m38, m39, m40, m41, m42, m43, m44, m45, m46, m47, m48, m49, .int 0, m51, m52, m53, m54, m55, m56, m57, m58, m59, m60, m61, m62, m63, m64, m65, m66, m67, m68, m69, m70, m71, m72, m73, m74, m75, m76, m77, m78, m79, m80, m81, m82, m83, m84, m85, m86, m87, m88, m89, m90, m91, .int 0, .int 0, m94, m95, m96, m97, m98, m99, m100, m101, m102, m103, m104, m105, m106, m107, m108, m109, .long 0, .long 0, .int 0, m113, m114, m115, m116, m117, m118, m119, m120, m121, m122])), (h1, .inl (cB, 1500, .inl (upd f1 0 (vp_nar .byte y7))))] H := hP
  have hD : va_D A [(h0, .inr (16, [.int 0, m1, .ref h1, .int 2, .int 0, m5, m6, m7, m8, m9, m10, m11, m12, m13, m14, m15, m16, .null, m18, m19, m20, m21, m22, m23, m24, m25, m26, .int 0, m28, m29, .int 0, .int 0, .int 0, m33, m34, m35, .int 0, m37, m38, m39, m40, m41, m42, m43, m44, m45, m46, m47, m48, m49, .int 0, m51, m52, m53, m54, m55, m56, m57, m58, m59, m60, m61, m62, m63, m64, m65, m66, m67, m68, m69, m70, m71, m72, m73, m74, m75, m76, m77, m78, m79, m80, m81, m82, m83, m84, m85, m86, m87, m88, m89, m90, m91, .int 0, .int 0, m94, m95, m96, m97, m98, m99, m100, m101, m102, m103, m104, m105, m106, m107, m108, m109, .long 0, .long 0, .int 0, m113, m114, m115, m116, m117, m118, m119, m120, m121, m122])), (h1, .inl (cB, 1500, .inl (upd f1 0 (vp_nar .byte y7))))] := hD
  refine lv_lload_n hx hb dX16_feed_5_69 rfl (lv_at hl 2 rfl) ?_
  refine lv_bipush (v := 8) hx hb dX16_feed_5_70 (by decide) ?_
  refine lv_iload hx hb dX16_feed_5_72 (lv_at hl 0 rfl) ?_
  refine lv_imul hx hb dX16_feed_5_74 ?_
  refine W.eq (g2 := F0 m 75 ls [.int 24, .long g1, .int 1, .ref h1]) rfl ?_
  refine lv_lshr (v := _) hx hb dX16_feed_5_75 rfl ?_
  refine lv_topl (fun y8 _ => ?_)
  refine lv_l2i (v := _) hx hb dX16_feed_5_76 rfl ?_
  refine lv_topi (fun y9 _ => ?_)
  refine lv_i2b (v := _) hx hb dX16_feed_5_77 rfl ?_
  refine lv_topi (fun y10 _ => ?_)
  refine va_bast hx hb hK hP hD hS 1 0 rfl rfl (by unfold vp_in; decide) dX16_feed_5_78 (fun H locs hP hD hS => ?_)
  have hP : va_P (dC, dI) vwCl [(h0, .inr (16, [.int 0, m1, .ref h1, .int 2, .int 0, m5, m6, m7, m8, m9, m10, m11, m12, m13, m14, m15, m16, .null, m18, m19, m20, m21, m22, m23, m24, m25, m26, .int 0, m28, m29, .int 0, .int 0, .int 0, m33, m34, m35, .int 0, m37, m38, m39, m40, m41, m42, m43, m44, m45, m46, m47, m48, m49, .int 0, m51, m52, m53, m54, m55, m56, m57, m58, m59, m60, m61, m62, m63, m64, m65, m66, m67, m68, m69, m70, m71, m72, m73, m74, m75, m76, m77, m78, m79, m80, m81, m82, m83, m84, m85, m86, m87, m88, m89, m90, m91, .int 0, .int 0, m94, m95, m96, m97, m98, m99, m100, m101, m102, m103, m104, m105, m106, m107, m108, m109, .long 0, .long 0, .int 0, m113, m114, m115, m116, m117, m118, m119, m120, m121, m122])), (h1, .inl (cB, 1500, .inl (upd (upd f1 0 (vp_nar .byte y7)) 1 (vp_nar .byte y10))))] H := hP
  have hD : va_D A [(h0, .inr (16, [.int 0, m1, .ref h1, .int 2, .int 0, m5, m6, m7, m8, m9, m10, m11, m12, m13, m14, m15, m16, .null, m18, m19, m20, m21, m22, m23, m24, m25, m26, .int 0, m28, m29, .int 0, .int 0, .int 0, m33, m34, m35, .int 0, m37, m38, m39, m40, m41, m42, m43, m44, m45, m46, m47, m48, m49, .int 0, m51, m52, m53, m54, m55, m56, m57, m58, m59, m60, m61, m62, m63, m64, m65, m66, m67, m68, m69, m70, m71, m72, m73, m74, m75, m76, m77, m78, m79, m80, m81, m82, m83, m84, m85, m86, m87, m88, m89, m90, m91, .int 0, .int 0, m94, m95, m96, m97, m98, m99, m100, m101, m102, m103, m104, m105, m106, m107, m108, m109, .long 0, .long 0, .int 0, m113, m114, m115, m116, m117, m118, m119, m120, m121, m122])), (h1, .inl (cB, 1500, .inl (upd (upd f1 0 (vp_nar .byte y7)) 1 (vp_nar .byte y10))))] := hD
  refine lv_iinc (k := 0) (v := 2) (lv' := [(4, .int 2), (0, .ref h0), (1, .long g1), (3, .int 5)]) hx hb dX16_feed_5_79 hl rfl (by decide) (by decide) rfl (fun ls hl => ?_)
  refine lv_goto (tgt := 42) hx hb dX16_feed_5_82 (by decide) ?_
  refine lv_iload hx hb dX16_feed_5_42 (lv_at hl 0 rfl) ?_
  refine lv_if_lt (tgt := 85) hx hb dX16_feed_5_44 (by decide) (fun h9 => absurd h9 (by decide)) (fun _ => ?_)
  refine lv_aload_n hx hb dX16_feed_5_47 rfl (lv_at hl 1 rfl) ?_
  refine va_get (D := (dC, dI)) (ci := 16) (v := .int 0) (C := RX16) (T := TX16) (N := 123) hx hb hts wh_X16_feed_5_X16 hown hK hP 0 rfl rfl 0 (by decide) (hts (.fieldLink RX16 1 "StreamHouseModel" "code" "I") (wm_X16_feed_5 5 rfl)) (fun _ h9 => h9) rfl dX16_feed_5_48 ?_
  refine lv_if_ne (tgt := 85) hx hb dX16_feed_5_51 (by decide) (fun h9 => absurd (by decide) h9) (fun _ => ?_)
  refine lv_aload_n hx hb dX16_feed_5_54 rfl (lv_at hl 1 rfl) ?_
  refine va_get (D := (dC, dI)) (ci := 16) (v := .ref h1) (C := RX16) (T := TX16) (N := 123) hx hb hts wh_X16_feed_5_X16 hown hK hP 0 rfl rfl 2 (by decide) (hts (.fieldLink RX16 20 "StreamHouseModel" "tape" "[B") (wm_X16_feed_5 6 rfl)) (fun _ h9 => h9) rfl dX16_feed_5_55 ?_
  refine lv_aload_n hx hb dX16_feed_5_58 rfl (lv_at hl 1 rfl) ?_
  refine lv_dup hx hb dX16_feed_5_59 rfl ?_
  refine va_get (D := (dC, dI)) (ci := 16) (v := .int 2) (C := RX16) (T := TX16) (N := 123) hx hb hts wh_X16_feed_5_X16 hown hK hP 0 rfl rfl 3 (by decide) (hts (.fieldLink RX16 972 "StreamHouseModel" "taped" "I") (wm_X16_feed_5 4 rfl)) (fun _ h9 => h9) rfl dX16_feed_5_60 ?_
  refine lv_dup_x1 hx hb dX16_feed_5_63 rfl rfl ?_
  refine lv_iconst (v := 1) hx hb dX16_feed_5_64 (by decide) ?_
  refine lv_iadd hx hb dX16_feed_5_65 ?_
  refine W.eq (g2 := F0 m 66 ls [.int 3, .ref h0, .int 2, .ref h1]) rfl ?_
  refine va_put (D := (dC, dI)) (ci := 16) (v := .int 3) (ty := .int) (C := RX16) (T := TX16) (N := 123) hx hb hts wh_X16_feed_5_X16 tyX16 tyX16_ok nmX16 hown hK hP hD hS 0 rfl rfl 3 (by decide) (hts (.fieldLink RX16 972 "StreamHouseModel" "taped" "I") (wm_X16_feed_5 4 rfl)) (fun _ h9 => h9) rfl (by decide +kernel) rfl rfl (Nat.le_of_ble_eq_true rfl) dX16_feed_5_66 (fun H locs hP hD hS => ?_)
  have hP : va_P (dC, dI) vwCl [(h0, .inr (16, [.int 0, m1, .ref h1, .int 3, .int 0, m5, m6, m7, m8, m9, m10, m11, m12, m13, m14, m15, m16, .null, m18, m19, m20, m21, m22, m23, m24, m25, m26, .int 0, m28, m29, .int 0, .int 0, .int 0, m33, m34, m35, .int 0, m37, m38, m39, m40, m41, m42, m43, m44, m45, m46, m47, m48, m49, .int 0, m51, m52, m53, m54, m55, m56, m57, m58, m59, m60, m61, m62, m63, m64, m65, m66, m67, m68, m69, m70, m71, m72, m73, m74, m75, m76, m77, m78, m79, m80, m81, m82, m83, m84, m85, m86, m87, m88, m89, m90, m91, .int 0, .int 0, m94, m95, m96, m97, m98, m99, m100, m101, m102, m103, m104, m105, m106, m107, m108, m109, .long 0, .long 0, .int 0, m113, m114, m115, m116, m117, m118, m119, m120, m121, m122])), (h1, .inl (cB, 1500, .inl (upd (upd f1 0 (vp_nar .byte y7)) 1 (vp_nar .byte y10))))] H := hP
  have hD : va_D A [(h0, .inr (16, [.int 0, m1, .ref h1, .int 3, .int 0, m5, m6, m7, m8, m9, m10, m11, m12, m13, m14, m15, m16, .null, m18, m19, m20, m21, m22, m23, m24, m25, m26, .int 0, m28, m29, .int 0, .int 0, .int 0, m33, m34, m35, .int 0, m37, m38, m39, m40, m41, m42, m43, m44, m45, m46, m47, m48, m49, .int 0, m51, m52, m53, m54, m55, m56, m57, m58, m59, m60, m61, m62, m63, m64, m65, m66, m67, m68, m69, m70, m71, m72, m73, m74, m75, m76, m77, m78, m79, m80, m81, m82, m83, m84, m85, m86, m87, m88, m89, m90, m91, .int 0, .int 0, m94, m95, m96, m97, m98, m99, m100, m101, m102, m103, m104, m105, m106, m107, m108, m109, .long 0, .long 0, .int 0, m113, m114, m115, m116, m117, m118, m119, m120, m121, m122])), (h1, .inl (cB, 1500, .inl (upd (upd f1 0 (vp_nar .byte y7)) 1 (vp_nar .byte y10))))] := hD
  refine lv_lload_n hx hb dX16_feed_5_69 rfl (lv_at hl 2 rfl) ?_
  refine lv_bipush (v := 8) hx hb dX16_feed_5_70 (by decide) ?_
  refine lv_iload hx hb dX16_feed_5_72 (lv_at hl 0 rfl) ?_
  refine lv_imul hx hb dX16_feed_5_74 ?_
  refine W.eq (g2 := F0 m 75 ls [.int 16, .long g1, .int 2, .ref h1]) rfl ?_
  refine lv_lshr (v := _) hx hb dX16_feed_5_75 rfl ?_
  refine lv_topl (fun y11 _ => ?_)
  refine lv_l2i (v := _) hx hb dX16_feed_5_76 rfl ?_
  refine lv_topi (fun y12 _ => ?_)
  refine lv_i2b (v := _) hx hb dX16_feed_5_77 rfl ?_
  refine lv_topi (fun y13 _ => ?_)
  refine va_bast hx hb hK hP hD hS 1 0 rfl rfl (by unfold vp_in; decide) dX16_feed_5_78 (fun H locs hP hD hS => ?_)
  have hP : va_P (dC, dI) vwCl [(h0, .inr (16, [.int 0, m1, .ref h1, .int 3, .int 0, m5, m6, m7, m8, m9, m10, m11, m12, m13, m14, m15, m16, .null, m18, m19, m20, m21, m22, m23, m24, m25, m26, .int 0, m28, m29, .int 0, .int 0, .int 0, m33, m34, m35, .int 0, m37, m38, m39, m40, m41, m42, m43, m44, m45, m46, m47, m48, m49, .int 0, m51, m52, m53, m54, m55, m56, m57, m58, m59, m60, m61, m62, m63, m64, m65, m66, m67, m68, m69, m70, m71, m72, m73, m74, m75, m76, m77, m78, m79, m80, m81, m82, m83, m84, m85, m86, m87, m88, m89, m90, m91, .int 0, .int 0, m94, m95, m96, m97, m98, m99, m100, m101, m102, m103, m104, m105, m106, m107, m108, m109, .long 0, .long 0, .int 0, m113, m114, m115, m116, m117, m118, m119, m120, m121, m122])), (h1, .inl (cB, 1500, .inl (upd (upd (upd f1 0 (vp_nar .byte y7)) 1 (vp_nar .byte y10)) 2 (vp_nar .byte y13))))] H := hP
  have hD : va_D A [(h0, .inr (16, [.int 0, m1, .ref h1, .int 3, .int 0, m5, m6, m7, m8, m9, m10, m11, m12, m13, m14, m15, m16, .null, m18, m19, m20, m21, m22, m23, m24, m25, m26, .int 0, m28, m29, .int 0, .int 0, .int 0, m33, m34, m35, .int 0, m37, m38, m39, m40, m41, m42, m43, m44, m45, m46, m47, m48, m49, .int 0, m51, m52, m53, m54, m55, m56, m57, m58, m59, m60, m61, m62, m63, m64, m65, m66, m67, m68, m69, m70, m71, m72, m73, m74, m75, m76, m77, m78, m79, m80, m81, m82, m83, m84, m85, m86, m87, m88, m89, m90, m91, .int 0, .int 0, m94, m95, m96, m97, m98, m99, m100, m101, m102, m103, m104, m105, m106, m107, m108, m109, .long 0, .long 0, .int 0, m113, m114, m115, m116, m117, m118, m119, m120, m121, m122])), (h1, .inl (cB, 1500, .inl (upd (upd (upd f1 0 (vp_nar .byte y7)) 1 (vp_nar .byte y10)) 2 (vp_nar .byte y13))))] := hD
  refine lv_iinc (k := 0) (v := 1) (lv' := [(4, .int 1), (0, .ref h0), (1, .long g1), (3, .int 5)]) hx hb dX16_feed_5_79 hl rfl (by decide) (by decide) rfl (fun ls hl => ?_)
  refine lv_goto (tgt := 42) hx hb dX16_feed_5_82 (by decide) ?_
  refine lv_iload hx hb dX16_feed_5_42 (lv_at hl 0 rfl) ?_
  refine lv_if_lt (tgt := 85) hx hb dX16_feed_5_44 (by decide) (fun h9 => absurd h9 (by decide)) (fun _ => ?_)
  refine lv_aload_n hx hb dX16_feed_5_47 rfl (lv_at hl 1 rfl) ?_
  refine va_get (D := (dC, dI)) (ci := 16) (v := .int 0) (C := RX16) (T := TX16) (N := 123) hx hb hts wh_X16_feed_5_X16 hown hK hP 0 rfl rfl 0 (by decide) (hts (.fieldLink RX16 1 "StreamHouseModel" "code" "I") (wm_X16_feed_5 5 rfl)) (fun _ h9 => h9) rfl dX16_feed_5_48 ?_
  refine lv_if_ne (tgt := 85) hx hb dX16_feed_5_51 (by decide) (fun h9 => absurd (by decide) h9) (fun _ => ?_)
  refine lv_aload_n hx hb dX16_feed_5_54 rfl (lv_at hl 1 rfl) ?_
  refine va_get (D := (dC, dI)) (ci := 16) (v := .ref h1) (C := RX16) (T := TX16) (N := 123) hx hb hts wh_X16_feed_5_X16 hown hK hP 0 rfl rfl 2 (by decide) (hts (.fieldLink RX16 20 "StreamHouseModel" "tape" "[B") (wm_X16_feed_5 6 rfl)) (fun _ h9 => h9) rfl dX16_feed_5_55 ?_
  refine lv_aload_n hx hb dX16_feed_5_58 rfl (lv_at hl 1 rfl) ?_
  refine lv_dup hx hb dX16_feed_5_59 rfl ?_
  refine va_get (D := (dC, dI)) (ci := 16) (v := .int 3) (C := RX16) (T := TX16) (N := 123) hx hb hts wh_X16_feed_5_X16 hown hK hP 0 rfl rfl 3 (by decide) (hts (.fieldLink RX16 972 "StreamHouseModel" "taped" "I") (wm_X16_feed_5 4 rfl)) (fun _ h9 => h9) rfl dX16_feed_5_60 ?_
  refine lv_dup_x1 hx hb dX16_feed_5_63 rfl rfl ?_
  refine lv_iconst (v := 1) hx hb dX16_feed_5_64 (by decide) ?_
  refine lv_iadd hx hb dX16_feed_5_65 ?_
  refine W.eq (g2 := F0 m 66 ls [.int 4, .ref h0, .int 3, .ref h1]) rfl ?_
  refine va_put (D := (dC, dI)) (ci := 16) (v := .int 4) (ty := .int) (C := RX16) (T := TX16) (N := 123) hx hb hts wh_X16_feed_5_X16 tyX16 tyX16_ok nmX16 hown hK hP hD hS 0 rfl rfl 3 (by decide) (hts (.fieldLink RX16 972 "StreamHouseModel" "taped" "I") (wm_X16_feed_5 4 rfl)) (fun _ h9 => h9) rfl (by decide +kernel) rfl rfl (Nat.le_of_ble_eq_true rfl) dX16_feed_5_66 (fun H locs hP hD hS => ?_)
  have hP : va_P (dC, dI) vwCl [(h0, .inr (16, [.int 0, m1, .ref h1, .int 4, .int 0, m5, m6, m7, m8, m9, m10, m11, m12, m13, m14, m15, m16, .null, m18, m19, m20, m21, m22, m23, m24, m25, m26, .int 0, m28, m29, .int 0, .int 0, .int 0, m33, m34, m35, .int 0, m37, m38, m39, m40, m41, m42, m43, m44, m45, m46, m47, m48, m49, .int 0, m51, m52, m53, m54, m55, m56, m57, m58, m59, m60, m61, m62, m63, m64, m65, m66, m67, m68, m69, m70, m71, m72, m73, m74, m75, m76, m77, m78, m79, m80, m81, m82, m83, m84, m85, m86, m87, m88, m89, m90, m91, .int 0, .int 0, m94, m95, m96, m97, m98, m99, m100, m101, m102, m103, m104, m105, m106, m107, m108, m109, .long 0, .long 0, .int 0, m113, m114, m115, m116, m117, m118, m119, m120, m121, m122])), (h1, .inl (cB, 1500, .inl (upd (upd (upd f1 0 (vp_nar .byte y7)) 1 (vp_nar .byte y10)) 2 (vp_nar .byte y13))))] H := hP
  have hD : va_D A [(h0, .inr (16, [.int 0, m1, .ref h1, .int 4, .int 0, m5, m6, m7, m8, m9, m10, m11, m12, m13, m14, m15, m16, .null, m18, m19, m20, m21, m22, m23, m24, m25, m26, .int 0, m28, m29, .int 0, .int 0, .int 0, m33, m34, m35, .int 0, m37, m38, m39, m40, m41, m42, m43, m44, m45, m46, m47, m48, m49, .int 0, m51, m52, m53, m54, m55, m56, m57, m58, m59, m60, m61, m62, m63, m64, m65, m66, m67, m68, m69, m70, m71, m72, m73, m74, m75, m76, m77, m78, m79, m80, m81, m82, m83, m84, m85, m86, m87, m88, m89, m90, m91, .int 0, .int 0, m94, m95, m96, m97, m98, m99, m100, m101, m102, m103, m104, m105, m106, m107, m108, m109, .long 0, .long 0, .int 0, m113, m114, m115, m116, m117, m118, m119, m120, m121, m122])), (h1, .inl (cB, 1500, .inl (upd (upd (upd f1 0 (vp_nar .byte y7)) 1 (vp_nar .byte y10)) 2 (vp_nar .byte y13))))] := hD
  refine lv_lload_n hx hb dX16_feed_5_69 rfl (lv_at hl 2 rfl) ?_
  refine lv_bipush (v := 8) hx hb dX16_feed_5_70 (by decide) ?_
  refine lv_iload hx hb dX16_feed_5_72 (lv_at hl 0 rfl) ?_
  refine lv_imul hx hb dX16_feed_5_74 ?_
  refine W.eq (g2 := F0 m 75 ls [.int 8, .long g1, .int 3, .ref h1]) rfl ?_
  refine lv_lshr (v := _) hx hb dX16_feed_5_75 rfl ?_
  refine lv_topl (fun y14 _ => ?_)
  refine lv_l2i (v := _) hx hb dX16_feed_5_76 rfl ?_
  refine lv_topi (fun y15 _ => ?_)
  refine lv_i2b (v := _) hx hb dX16_feed_5_77 rfl ?_
  refine lv_topi (fun y16 _ => ?_)
  refine va_bast hx hb hK hP hD hS 1 0 rfl rfl (by unfold vp_in; decide) dX16_feed_5_78 (fun H locs hP hD hS => ?_)
  have hP : va_P (dC, dI) vwCl [(h0, .inr (16, [.int 0, m1, .ref h1, .int 4, .int 0, m5, m6, m7, m8, m9, m10, m11, m12, m13, m14, m15, m16, .null, m18, m19, m20, m21, m22, m23, m24, m25, m26, .int 0, m28, m29, .int 0, .int 0, .int 0, m33, m34, m35, .int 0, m37, m38, m39, m40, m41, m42, m43, m44, m45, m46, m47, m48, m49, .int 0, m51, m52, m53, m54, m55, m56, m57, m58, m59, m60, m61, m62, m63, m64, m65, m66, m67, m68, m69, m70, m71, m72, m73, m74, m75, m76, m77, m78, m79, m80, m81, m82, m83, m84, m85, m86, m87, m88, m89, m90, m91, .int 0, .int 0, m94, m95, m96, m97, m98, m99, m100, m101, m102, m103, m104, m105, m106, m107, m108, m109, .long 0, .long 0, .int 0, m113, m114, m115, m116, m117, m118, m119, m120, m121, m122])), (h1, .inl (cB, 1500, .inl (upd (upd (upd (upd f1 0 (vp_nar .byte y7)) 1 (vp_nar .byte y10)) 2 (vp_nar .byte y13)) 3 (vp_nar .byte y16))))] H := hP
  have hD : va_D A [(h0, .inr (16, [.int 0, m1, .ref h1, .int 4, .int 0, m5, m6, m7, m8, m9, m10, m11, m12, m13, m14, m15, m16, .null, m18, m19, m20, m21, m22, m23, m24, m25, m26, .int 0, m28, m29, .int 0, .int 0, .int 0, m33, m34, m35, .int 0, m37, m38, m39, m40, m41, m42, m43, m44, m45, m46, m47, m48, m49, .int 0, m51, m52, m53, m54, m55, m56, m57, m58, m59, m60, m61, m62, m63, m64, m65, m66, m67, m68, m69, m70, m71, m72, m73, m74, m75, m76, m77, m78, m79, m80, m81, m82, m83, m84, m85, m86, m87, m88, m89, m90, m91, .int 0, .int 0, m94, m95, m96, m97, m98, m99, m100, m101, m102, m103, m104, m105, m106, m107, m108, m109, .long 0, .long 0, .int 0, m113, m114, m115, m116, m117, m118, m119, m120, m121, m122])), (h1, .inl (cB, 1500, .inl (upd (upd (upd (upd f1 0 (vp_nar .byte y7)) 1 (vp_nar .byte y10)) 2 (vp_nar .byte y13)) 3 (vp_nar .byte y16))))] := hD
  refine lv_iinc (k := 0) (v := 0) (lv' := [(4, .int 0), (0, .ref h0), (1, .long g1), (3, .int 5)]) hx hb dX16_feed_5_79 hl rfl (by decide) (by decide) rfl (fun ls hl => ?_)
  refine lv_goto (tgt := 42) hx hb dX16_feed_5_82 (by decide) ?_
  refine lv_iload hx hb dX16_feed_5_42 (lv_at hl 0 rfl) ?_
  refine lv_if_lt (tgt := 85) hx hb dX16_feed_5_44 (by decide) (fun h9 => absurd h9 (by decide)) (fun _ => ?_)
  refine lv_aload_n hx hb dX16_feed_5_47 rfl (lv_at hl 1 rfl) ?_
  refine va_get (D := (dC, dI)) (ci := 16) (v := .int 0) (C := RX16) (T := TX16) (N := 123) hx hb hts wh_X16_feed_5_X16 hown hK hP 0 rfl rfl 0 (by decide) (hts (.fieldLink RX16 1 "StreamHouseModel" "code" "I") (wm_X16_feed_5 5 rfl)) (fun _ h9 => h9) rfl dX16_feed_5_48 ?_
  refine lv_if_ne (tgt := 85) hx hb dX16_feed_5_51 (by decide) (fun h9 => absurd (by decide) h9) (fun _ => ?_)
  refine lv_aload_n hx hb dX16_feed_5_54 rfl (lv_at hl 1 rfl) ?_
  refine va_get (D := (dC, dI)) (ci := 16) (v := .ref h1) (C := RX16) (T := TX16) (N := 123) hx hb hts wh_X16_feed_5_X16 hown hK hP 0 rfl rfl 2 (by decide) (hts (.fieldLink RX16 20 "StreamHouseModel" "tape" "[B") (wm_X16_feed_5 6 rfl)) (fun _ h9 => h9) rfl dX16_feed_5_55 ?_
  refine lv_aload_n hx hb dX16_feed_5_58 rfl (lv_at hl 1 rfl) ?_
  refine lv_dup hx hb dX16_feed_5_59 rfl ?_
  refine va_get (D := (dC, dI)) (ci := 16) (v := .int 4) (C := RX16) (T := TX16) (N := 123) hx hb hts wh_X16_feed_5_X16 hown hK hP 0 rfl rfl 3 (by decide) (hts (.fieldLink RX16 972 "StreamHouseModel" "taped" "I") (wm_X16_feed_5 4 rfl)) (fun _ h9 => h9) rfl dX16_feed_5_60 ?_
  refine lv_dup_x1 hx hb dX16_feed_5_63 rfl rfl ?_
  refine lv_iconst (v := 1) hx hb dX16_feed_5_64 (by decide) ?_
  refine lv_iadd hx hb dX16_feed_5_65 ?_
  refine W.eq (g2 := F0 m 66 ls [.int 5, .ref h0, .int 4, .ref h1]) rfl ?_
  refine va_put (D := (dC, dI)) (ci := 16) (v := .int 5) (ty := .int) (C := RX16) (T := TX16) (N := 123) hx hb hts wh_X16_feed_5_X16 tyX16 tyX16_ok nmX16 hown hK hP hD hS 0 rfl rfl 3 (by decide) (hts (.fieldLink RX16 972 "StreamHouseModel" "taped" "I") (wm_X16_feed_5 4 rfl)) (fun _ h9 => h9) rfl (by decide +kernel) rfl rfl (Nat.le_of_ble_eq_true rfl) dX16_feed_5_66 (fun H locs hP hD hS => ?_)
  have hP : va_P (dC, dI) vwCl [(h0, .inr (16, [.int 0, m1, .ref h1, .int 5, .int 0, m5, m6, m7, m8, m9, m10, m11, m12, m13, m14, m15, m16, .null, m18, m19, m20, m21, m22, m23, m24, m25, m26, .int 0, m28, m29, .int 0, .int 0, .int 0, m33, m34, m35, .int 0, m37, m38, m39, m40, m41, m42, m43, m44, m45, m46, m47, m48, m49, .int 0, m51, m52, m53, m54, m55, m56, m57, m58, m59, m60, m61, m62, m63, m64, m65, m66, m67, m68, m69, m70, m71, m72, m73, m74, m75, m76, m77, m78, m79, m80, m81, m82, m83, m84, m85, m86, m87, m88, m89, m90, m91, .int 0, .int 0, m94, m95, m96, m97, m98, m99, m100, m101, m102, m103, m104, m105, m106, m107, m108, m109, .long 0, .long 0, .int 0, m113, m114, m115, m116, m117, m118, m119, m120, m121, m122])), (h1, .inl (cB, 1500, .inl (upd (upd (upd (upd f1 0 (vp_nar .byte y7)) 1 (vp_nar .byte y10)) 2 (vp_nar .byte y13)) 3 (vp_nar .byte y16))))] H := hP
  have hD : va_D A [(h0, .inr (16, [.int 0, m1, .ref h1, .int 5, .int 0, m5, m6, m7, m8, m9, m10, m11, m12, m13, m14, m15, m16, .null, m18, m19, m20, m21, m22, m23, m24, m25, m26, .int 0, m28, m29, .int 0, .int 0, .int 0, m33, m34, m35, .int 0, m37, m38, m39, m40, m41, m42, m43, m44, m45, m46, m47, m48, m49, .int 0, m51, m52, m53, m54, m55, m56, m57, m58, m59, m60, m61, m62, m63, m64, m65, m66, m67, m68, m69, m70, m71, m72, m73, m74, m75, m76, m77, m78, m79, m80, m81, m82, m83, m84, m85, m86, m87, m88, m89, m90, m91, .int 0, .int 0, m94, m95, m96, m97, m98, m99, m100, m101, m102, m103, m104, m105, m106, m107, m108, m109, .long 0, .long 0, .int 0, m113, m114, m115, m116, m117, m118, m119, m120, m121, m122])), (h1, .inl (cB, 1500, .inl (upd (upd (upd (upd f1 0 (vp_nar .byte y7)) 1 (vp_nar .byte y10)) 2 (vp_nar .byte y13)) 3 (vp_nar .byte y16))))] := hD
  refine lv_lload_n hx hb dX16_feed_5_69 rfl (lv_at hl 2 rfl) ?_
  refine lv_bipush (v := 8) hx hb dX16_feed_5_70 (by decide) ?_
  refine lv_iload hx hb dX16_feed_5_72 (lv_at hl 0 rfl) ?_
  refine lv_imul hx hb dX16_feed_5_74 ?_
  refine W.eq (g2 := F0 m 75 ls [.int 0, .long g1, .int 4, .ref h1]) rfl ?_
  refine lv_lshr (v := _) hx hb dX16_feed_5_75 rfl ?_
  refine lv_topl (fun y17 _ => ?_)
  refine lv_l2i (v := _) hx hb dX16_feed_5_76 rfl ?_
  refine lv_topi (fun y18 _ => ?_)
  refine lv_i2b (v := _) hx hb dX16_feed_5_77 rfl ?_
  refine lv_topi (fun y19 _ => ?_)
  refine va_bast hx hb hK hP hD hS 1 0 rfl rfl (by unfold vp_in; decide) dX16_feed_5_78 (fun H locs hP hD hS => ?_)
  have hP : va_P (dC, dI) vwCl [(h0, .inr (16, [.int 0, m1, .ref h1, .int 5, .int 0, m5, m6, m7, m8, m9, m10, m11, m12, m13, m14, m15, m16, .null, m18, m19, m20, m21, m22, m23, m24, m25, m26, .int 0, m28, m29, .int 0, .int 0, .int 0, m33, m34, m35, .int 0, m37, m38, m39, m40, m41, m42, m43, m44, m45, m46, m47, m48, m49, .int 0, m51, m52, m53, m54, m55, m56, m57, m58, m59, m60, m61, m62, m63, m64, m65, m66, m67, m68, m69, m70, m71, m72, m73, m74, m75, m76, m77, m78, m79, m80, m81, m82, m83, m84, m85, m86, m87, m88, m89, m90, m91, .int 0, .int 0, m94, m95, m96, m97, m98, m99, m100, m101, m102, m103, m104, m105, m106, m107, m108, m109, .long 0, .long 0, .int 0, m113, m114, m115, m116, m117, m118, m119, m120, m121, m122])), (h1, .inl (cB, 1500, .inl (upd (upd (upd (upd (upd f1 0 (vp_nar .byte y7)) 1 (vp_nar .byte y10)) 2 (vp_nar .byte y13)) 3 (vp_nar .byte y16)) 4 (vp_nar .byte y19))))] H := hP
  have hD : va_D A [(h0, .inr (16, [.int 0, m1, .ref h1, .int 5, .int 0, m5, m6, m7, m8, m9, m10, m11, m12, m13, m14, m15, m16, .null, m18, m19, m20, m21, m22, m23, m24, m25, m26, .int 0, m28, m29, .int 0, .int 0, .int 0, m33, m34, m35, .int 0, m37, m38, m39, m40, m41, m42, m43, m44, m45, m46, m47, m48, m49, .int 0, m51, m52, m53, m54, m55, m56, m57, m58, m59, m60, m61, m62, m63, m64, m65, m66, m67, m68, m69, m70, m71, m72, m73, m74, m75, m76, m77, m78, m79, m80, m81, m82, m83, m84, m85, m86, m87, m88, m89, m90, m91, .int 0, .int 0, m94, m95, m96, m97, m98, m99, m100, m101, m102, m103, m104, m105, m106, m107, m108, m109, .long 0, .long 0, .int 0, m113, m114, m115, m116, m117, m118, m119, m120, m121, m122])), (h1, .inl (cB, 1500, .inl (upd (upd (upd (upd (upd f1 0 (vp_nar .byte y7)) 1 (vp_nar .byte y10)) 2 (vp_nar .byte y13)) 3 (vp_nar .byte y16)) 4 (vp_nar .byte y19))))] := hD
  refine lv_iinc (k := 0) (v := (-1)) (lv' := [(4, .int ((-1))), (0, .ref h0), (1, .long g1), (3, .int 5)]) hx hb dX16_feed_5_79 hl rfl (by decide) (by decide) rfl (fun ls hl => ?_)
  refine lv_goto (tgt := 42) hx hb dX16_feed_5_82 (by decide) ?_
  refine lv_iload hx hb dX16_feed_5_42 (lv_at hl 0 rfl) ?_
  refine lv_if_lt (tgt := 85) hx hb dX16_feed_5_44 (by decide) (fun _ => ?_) (fun h9 => absurd (by decide) h9)
  refine lv_aload_n hx hb dX16_feed_5_85 rfl (lv_at hl 1 rfl) ?_
  refine va_get (D := (dC, dI)) (ci := 16) (v := .int 0) (C := RX16) (T := TX16) (N := 123) hx hb hts wh_X16_feed_5_X16 hown hK hP 0 rfl rfl 0 (by decide) (hts (.fieldLink RX16 1 "StreamHouseModel" "code" "I") (wm_X16_feed_5 5 rfl)) (fun _ h9 => h9) rfl dX16_feed_5_86 ?_
  refine lv_if_le (tgt := 96) hx hb dX16_feed_5_89 (by decide) (fun _ => ?_) (fun h9 => absurd (by decide) h9)
  refine lv_aload_n hx hb dX16_feed_5_96 rfl (lv_at hl 1 rfl) ?_
  refine va_get (D := (dC, dI)) (ci := 16) (v := .int 5) (C := RX16) (T := TX16) (N := 123) hx hb hts wh_X16_feed_5_X16 hown hK hP 0 rfl rfl 3 (by decide) (hts (.fieldLink RX16 972 "StreamHouseModel" "taped" "I") (wm_X16_feed_5 4 rfl)) (fun _ h9 => h9) rfl dX16_feed_5_97 ?_
  have hP9 := hP.sub (ws' := [(h0, .inr (16, [.int 0, m1, .ref h1, .int 5, .int 0, m5, m6, m7, m8, m9, m10, m11, m12, m13, m14, m15, m16, .null, m18, m19, m20, m21, m22, m23, m24, m25, m26, .int 0, m28, m29, .int 0, .int 0, .int 0, m33, m34, m35, .int 0, m37, m38, m39, m40, m41, m42, m43, m44, m45, m46, m47, m48, m49, .int 0, m51, m52, m53, m54, m55, m56, m57, m58, m59, m60, m61, m62, m63, m64, m65, m66, m67, m68, m69, m70, m71, m72, m73, m74, m75, m76, m77, m78, m79, m80, m81, m82, m83, m84, m85, m86, m87, m88, m89, m90, m91, .int 0, .int 0, m94, m95, m96, m97, m98, m99, m100, m101, m102, m103, m104, m105, m106, m107, m108, m109, .long 0, .long 0, .int 0, m113, m114, m115, m116, m117, m118, m119, m120, m121, m122]))]) [0] rfl
  have hD9 := hD.sub (ws' := [(h0, .inr (16, [.int 0, m1, .ref h1, .int 5, .int 0, m5, m6, m7, m8, m9, m10, m11, m12, m13, m14, m15, m16, .null, m18, m19, m20, m21, m22, m23, m24, m25, m26, .int 0, m28, m29, .int 0, .int 0, .int 0, m33, m34, m35, .int 0, m37, m38, m39, m40, m41, m42, m43, m44, m45, m46, m47, m48, m49, .int 0, m51, m52, m53, m54, m55, m56, m57, m58, m59, m60, m61, m62, m63, m64, m65, m66, m67, m68, m69, m70, m71, m72, m73, m74, m75, m76, m77, m78, m79, m80, m81, m82, m83, m84, m85, m86, m87, m88, m89, m90, m91, .int 0, .int 0, m94, m95, m96, m97, m98, m99, m100, m101, m102, m103, m104, m105, m106, m107, m108, m109, .long 0, .long 0, .int 0, m113, m114, m115, m116, m117, m118, m119, m120, m121, m122]))]) [0] (by decide) rfl
  have hK9 := hK.sub (tys' := []) [] rfl
  refine W.widen (k := 0) (n := 0) (by decide) (by decide) ?_
  exact W.iret (v := 5) hx hb hr (fun t ht hW => ⟨⟨5, (), rfl, rfl, by rw [ht]; exact hP9, va_K.moved hW.alike hK9, hD9⟩, hS.F ht⟩) hS.2.2 dX16_feed_5_100

abbrev ar_X16_feed_6 (dC : Nat → ClassId) (dI : Nat → Nat → Nat) (A : Nat → Prop) (h0 h1 : Nat) (g1 : Int64) (cB : ClassId) (f1 : Nat → Int32) (m0 m1 m5 m6 m7 m8 m9 m10 m11 m12 m13 m14 m15 m16 m18 m19 m20 m21 m22 m23 m24 m25 m26 m28 m29 m33 m34 m35 m37 m38 m39 m40 m41 m42 m43 m44 m45 m46 m47 m48 m49 m51 m52 m53 m54 m55 m56 m57 m58 m59 m60 m61 m62 m63 m64 m65 m66 m67 m68 m69 m70 m71 m72 m73 m74 m75 m76 m77 m78 m79 m80 m81 m82 m83 m84 m85 m86 m87 m88 m89 m90 m91 m94 m95 m96 m97 m98 m99 m100 m101 m102 m103 m104 m105 m106 m107 m108 m109 m113 m114 m115 m116 m117 m118 m119 m120 m121 m122 : Value) (_ : Unit) (t : State) : Prop := va_P (dC, dI) vwCl [(h0, .inr (16, [.int 0, m1, .ref h1, .int 6, .int 0, m5, m6, m7, m8, m9, m10, m11, m12, m13, m14, m15, m16, .null, m18, m19, m20, m21, m22, m23, m24, m25, m26, .int 0, m28, m29, .int 0, .int 0, .int 0, m33, m34, m35, .int 0, m37, m38, m39, m40, m41, m42, m43, m44, m45, m46, m47, m48, m49, .int 0, m51, m52, m53, m54, m55, m56, m57, m58, m59, m60, m61, m62, m63, m64, m65, m66, m67, m68, m69, m70, m71, m72, m73, m74, m75, m76, m77, m78, m79, m80, m81, m82, m83, m84, m85, m86, m87, m88, m89, m90, m91, .int 0, .int 0, m94, m95, m96, m97, m98, m99, m100, m101, m102, m103, m104, m105, m106, m107, m108, m109, .long 0, .long 0, .int 0, m113, m114, m115, m116, m117, m118, m119, m120, m121, m122]))] t.heap ∧ va_K (dC, dI) vwCl [] t ∧ va_D A [(h0, .inr (16, [.int 0, m1, .ref h1, .int 6, .int 0, m5, m6, m7, m8, m9, m10, m11, m12, m13, m14, m15, m16, .null, m18, m19, m20, m21, m22, m23, m24, m25, m26, .int 0, m28, m29, .int 0, .int 0, .int 0, m33, m34, m35, .int 0, m37, m38, m39, m40, m41, m42, m43, m44, m45, m46, m47, m48, m49, .int 0, m51, m52, m53, m54, m55, m56, m57, m58, m59, m60, m61, m62, m63, m64, m65, m66, m67, m68, m69, m70, m71, m72, m73, m74, m75, m76, m77, m78, m79, m80, m81, m82, m83, m84, m85, m86, m87, m88, m89, m90, m91, .int 0, .int 0, m94, m95, m96, m97, m98, m99, m100, m101, m102, m103, m104, m105, m106, m107, m108, m109, .long 0, .long 0, .int 0, m113, m114, m115, m116, m117, m118, m119, m120, m121, m122]))]
theorem dX16_feed_6_0 : decode cX16_feed 0 = .ok (.aload_n 0, 1) := by decide +kernel
theorem dX16_feed_6_1 : decode cX16_feed 1 = .ok (.iload_n 3, 1) := by decide +kernel
theorem dX16_feed_6_2 : decode cX16_feed 2 = .ok (.i2l, 1) := by decide +kernel
theorem dX16_feed_6_3 : decode cX16_feed 3 = .ok (.lconst 1, 1) := by decide +kernel
theorem dX16_feed_6_4 : decode cX16_feed 4 = .ok (.ldc2_w 250, 3) := by decide +kernel
theorem dX16_feed_6_7 : decode cX16_feed 7 = .ok (.invokestatic 45, 3) := by decide +kernel
theorem dX16_feed_6_10 : decode cX16_feed 10 = .ok (.ifCond .ne 7, 3) := by decide +kernel
theorem dX16_feed_6_17 : decode cX16_feed 17 = .ok (.aload_n 0, 1) := by decide +kernel
theorem dX16_feed_6_18 : decode cX16_feed 18 = .ok (.getfield 972, 3) := by decide +kernel
theorem dX16_feed_6_21 : decode cX16_feed 21 = .ok (.iload_n 3, 1) := by decide +kernel
theorem dX16_feed_6_22 : decode cX16_feed 22 = .ok (.iadd, 1) := by decide +kernel
theorem dX16_feed_6_23 : decode cX16_feed 23 = .ok (.sipush 1500, 3) := by decide +kernel
theorem dX16_feed_6_26 : decode cX16_feed 26 = .ok (.if_icmp .le 7, 3) := by decide +kernel
theorem dX16_feed_6_33 : decode cX16_feed 33 = .ok (.iconst 0, 1) := by decide +kernel
theorem dX16_feed_6_34 : decode cX16_feed 34 = .ok (.putfield 1, 3) := by decide +kernel
theorem dX16_feed_6_37 : decode cX16_feed 37 = .ok (.iload_n 3, 1) := by decide +kernel
theorem dX16_feed_6_38 : decode cX16_feed 38 = .ok (.iconst 1, 1) := by decide +kernel
theorem dX16_feed_6_39 : decode cX16_feed 39 = .ok (.isub, 1) := by decide +kernel
theorem dX16_feed_6_40 : decode cX16_feed 40 = .ok (.istore 4, 2) := by decide +kernel
theorem dX16_feed_6_42 : decode cX16_feed 42 = .ok (.iload 4, 2) := by decide +kernel
theorem dX16_feed_6_44 : decode cX16_feed 44 = .ok (.ifCond .lt 41, 3) := by decide +kernel
theorem dX16_feed_6_47 : decode cX16_feed 47 = .ok (.aload_n 0, 1) := by decide +kernel
theorem dX16_feed_6_48 : decode cX16_feed 48 = .ok (.getfield 1, 3) := by decide +kernel
theorem dX16_feed_6_51 : decode cX16_feed 51 = .ok (.ifCond .ne 34, 3) := by decide +kernel
theorem dX16_feed_6_54 : decode cX16_feed 54 = .ok (.aload_n 0, 1) := by decide +kernel
theorem dX16_feed_6_55 : decode cX16_feed 55 = .ok (.getfield 20, 3) := by decide +kernel
theorem dX16_feed_6_58 : decode cX16_feed 58 = .ok (.aload_n 0, 1) := by decide +kernel
theorem dX16_feed_6_59 : decode cX16_feed 59 = .ok (.dup, 1) := by decide +kernel
theorem dX16_feed_6_60 : decode cX16_feed 60 = .ok (.getfield 972, 3) := by decide +kernel
theorem dX16_feed_6_63 : decode cX16_feed 63 = .ok (.dup_x1, 1) := by decide +kernel
theorem dX16_feed_6_64 : decode cX16_feed 64 = .ok (.iconst 1, 1) := by decide +kernel
theorem dX16_feed_6_65 : decode cX16_feed 65 = .ok (.iadd, 1) := by decide +kernel
theorem dX16_feed_6_66 : decode cX16_feed 66 = .ok (.putfield 972, 3) := by decide +kernel
theorem dX16_feed_6_69 : decode cX16_feed 69 = .ok (.lload_n 1, 1) := by decide +kernel
theorem dX16_feed_6_70 : decode cX16_feed 70 = .ok (.bipush 8, 2) := by decide +kernel
theorem dX16_feed_6_72 : decode cX16_feed 72 = .ok (.iload 4, 2) := by decide +kernel
theorem dX16_feed_6_74 : decode cX16_feed 74 = .ok (.imul, 1) := by decide +kernel
theorem dX16_feed_6_75 : decode cX16_feed 75 = .ok (.lshr, 1) := by decide +kernel
theorem dX16_feed_6_76 : decode cX16_feed 76 = .ok (.l2i, 1) := by decide +kernel
theorem dX16_feed_6_77 : decode cX16_feed 77 = .ok (.i2b, 1) := by decide +kernel
theorem dX16_feed_6_78 : decode cX16_feed 78 = .ok (.bastore, 1) := by decide +kernel
theorem dX16_feed_6_79 : decode cX16_feed 79 = .ok (.iinc 4 (-1), 3) := by decide +kernel
theorem dX16_feed_6_82 : decode cX16_feed 82 = .ok (.goto (-40), 3) := by decide +kernel
theorem dX16_feed_6_85 : decode cX16_feed 85 = .ok (.aload_n 0, 1) := by decide +kernel
theorem dX16_feed_6_86 : decode cX16_feed 86 = .ok (.getfield 1, 3) := by decide +kernel
theorem dX16_feed_6_89 : decode cX16_feed 89 = .ok (.ifCond .le 7, 3) := by decide +kernel
theorem dX16_feed_6_96 : decode cX16_feed 96 = .ok (.aload_n 0, 1) := by decide +kernel
theorem dX16_feed_6_97 : decode cX16_feed 97 = .ok (.getfield 972, 3) := by decide +kernel
theorem dX16_feed_6_100 : decode cX16_feed 100 = .ok (.ireturn, 1) := by decide +kernel
def ww_X16_feed_6 : List Cond := [.constantLong RX16 250 8, .initialized RX16, .methodLink RX16 45 yX16_within, .static yX16_within, .fieldLink RX16 972 "StreamHouseModel" "taped" "I", .fieldLink RX16 1 "StreamHouseModel" "code" "I", .fieldLink RX16 20 "StreamHouseModel" "tape" "[B"]
def wv_X16_feed_6 : List Cond := .code yX16_feed cX16_feed 5 (some .int) :: (ww_X16_feed_6 ++ (wv_X16_within_1 ++ (u_ws RX16 TX16 123 ++ [])))
theorem wm_X16_feed_6 {w : Cond} (i : Nat) (h : ww_X16_feed_6[i]? = some w) : w ∈ wv_X16_feed_6 := List.mem_cons_of_mem _ (List.mem_append_left _ (List.mem_of_getElem? h))
set_option maxRecDepth 100000 in
theorem gw_X16_feed_6 : wv_X16_feed_6.all goodWord = true := by decide +kernel
theorem wg_X16_feed_6_X16_within_1 : GoodIn wv_X16_feed_6 wv_X16_within_1 := goodIn_sub (fun w h => List.mem_cons_of_mem _ (List.mem_append_right _ (List.mem_append_left _ h))) gw_X16_within_1
theorem wt_X16_feed_6_X16_within_1 : GoodIn wv_X16_feed_6 (va_wsS RX16 45 yX16_within wv_X16_within_1) := goodIn_app (goodIn_sub (fun w h => by simp only [List.mem_cons, List.not_mem_nil, or_false] at h; rcases h with rfl | rfl | rfl <;> first | exact wm_X16_feed_6 2 rfl | exact wm_X16_feed_6 3 rfl | exact wm_X16_feed_6 1 rfl) (by decide +kernel)) wg_X16_feed_6_X16_within_1
theorem wh_X16_feed_6_X16 : ∀ w ∈ u_ws RX16 TX16 123, w ∈ wv_X16_feed_6 := fun w h => List.mem_cons_of_mem _ (List.mem_append_right _ (List.mem_append_right _ (List.mem_append_left _ h)))
set_option maxHeartbeats 4000000 in
set_option maxRecDepth 100000 in
/-- feed(g, 6) of the fresh reference -/
theorem r_X16_feed_6 (l : Launch) (dC : Nat → ClassId) (dI : Nat → Nat → Nat) (h0 h1 : Nat) (g1 : Int64) (cB : ClassId) (f1 : Nat → Int32) (m0 m1 m5 m6 m7 m8 m9 m10 m11 m12 m13 m14 m15 m16 m18 m19 m20 m21 m22 m23 m24 m25 m26 m28 m29 m33 m34 m35 m37 m38 m39 m40 m41 m42 m43 m44 m45 m46 m47 m48 m49 m51 m52 m53 m54 m55 m56 m57 m58 m59 m60 m61 m62 m63 m64 m65 m66 m67 m68 m69 m70 m71 m72 m73 m74 m75 m76 m77 m78 m79 m80 m81 m82 m83 m84 m85 m86 m87 m88 m89 m90 m91 m94 m95 m96 m97 m98 m99 m100 m101 m102 m103 m104 m105 m106 m107 m108 m109 m113 m114 m115 m116 m117 m118 m119 m120 m121 m122 : Value) (sz : Nat) : Met l yX16_feed wv_X16_feed_6 ({ frames := 1, cells := 0, slots := 0, locals := 25 }) (va_Pc [.ref h0, .long g1, .int 6] (fun U => U.heap.size = sz ∧ va_P (dC, dI) vwCl [(h0, .inr (16, [m0, m1, .ref h1, .int 0, .int 0, m5, m6, m7, m8, m9, m10, m11, m12, m13, m14, m15, m16, .null, m18, m19, m20, m21, m22, m23, m24, m25, m26, .int 0, m28, m29, .int 0, .int 0, .int 0, m33, m34, m35, .int 0, m37, m38, m39, m40, m41, m42, m43, m44, m45, m46, m47, m48, m49, .int 0, m51, m52, m53, m54, m55, m56, m57, m58, m59, m60, m61, m62, m63, m64, m65, m66, m67, m68, m69, m70, m71, m72, m73, m74, m75, m76, m77, m78, m79, m80, m81, m82, m83, m84, m85, m86, m87, m88, m89, m90, m91, .int 0, .int 0, m94, m95, m96, m97, m98, m99, m100, m101, m102, m103, m104, m105, m106, m107, m108, m109, .long 0, .long 0, .int 0, m113, m114, m115, m116, m117, m118, m119, m120, m121, m122])), (h1, .inl (cB, 1500, .inl f1))] U.heap ∧ va_K (dC, dI) vwCl [(cB, .byte)] U ∧ va_D (fun _ => True) [(h0, .inr (16, [m0, m1, .ref h1, .int 0, .int 0, m5, m6, m7, m8, m9, m10, m11, m12, m13, m14, m15, m16, .null, m18, m19, m20, m21, m22, m23, m24, m25, m26, .int 0, m28, m29, .int 0, .int 0, .int 0, m33, m34, m35, .int 0, m37, m38, m39, m40, m41, m42, m43, m44, m45, m46, m47, m48, m49, .int 0, m51, m52, m53, m54, m55, m56, m57, m58, m59, m60, m61, m62, m63, m64, m65, m66, m67, m68, m69, m70, m71, m72, m73, m74, m75, m76, m77, m78, m79, m80, m81, m82, m83, m84, m85, m86, m87, m88, m89, m90, m91, .int 0, .int 0, m94, m95, m96, m97, m98, m99, m100, m101, m102, m103, m104, m105, m106, m107, m108, m109, .long 0, .long 0, .int 0, m113, m114, m115, m116, m117, m118, m119, m120, m121, m122])), (h1, .inl (cB, 1500, .inl f1))])) (va_Qi (fun r (_ : Unit) => r = 6) (ar_X16_feed_6 dC dI (va_A [(h0, .inr (16, [m0, m1, .ref h1, .int 0, .int 0, m5, m6, m7, m8, m9, m10, m11, m12, m13, m14, m15, m16, .null, m18, m19, m20, m21, m22, m23, m24, m25, m26, .int 0, m28, m29, .int 0, .int 0, .int 0, m33, m34, m35, .int 0, m37, m38, m39, m40, m41, m42, m43, m44, m45, m46, m47, m48, m49, .int 0, m51, m52, m53, m54, m55, m56, m57, m58, m59, m60, m61, m62, m63, m64, m65, m66, m67, m68, m69, m70, m71, m72, m73, m74, m75, m76, m77, m78, m79, m80, m81, m82, m83, m84, m85, m86, m87, m88, m89, m90, m91, .int 0, .int 0, m94, m95, m96, m97, m98, m99, m100, m101, m102, m103, m104, m105, m106, m107, m108, m109, .long 0, .long 0, .int 0, m113, m114, m115, m116, m117, m118, m119, m120, m121, m122])), (h1, .inl (cB, 1500, .inl f1))] sz) h0 h1 g1 cB f1 m0 m1 m5 m6 m7 m8 m9 m10 m11 m12 m13 m14 m15 m16 m18 m19 m20 m21 m22 m23 m24 m25 m26 m28 m29 m33 m34 m35 m37 m38 m39 m40 m41 m42 m43 m44 m45 m46 m47 m48 m49 m51 m52 m53 m54 m55 m56 m57 m58 m59 m60 m61 m62 m63 m64 m65 m66 m67 m68 m69 m70 m71 m72 m73 m74 m75 m76 m77 m78 m79 m80 m81 m82 m83 m84 m85 m86 m87 m88 m89 m90 m91 m94 m95 m96 m97 m98 m99 m100 m101 m102 m103 m104 m105 m106 m107 m108 m109 m113 m114 m115 m116 m117 m118 m119 m120 m121 m122) (va_A [(h0, .inr (16, [m0, m1, .ref h1, .int 0, .int 0, m5, m6, m7, m8, m9, m10, m11, m12, m13, m14, m15, m16, .null, m18, m19, m20, m21, m22, m23, m24, m25, m26, .int 0, m28, m29, .int 0, .int 0, .int 0, m33, m34, m35, .int 0, m37, m38, m39, m40, m41, m42, m43, m44, m45, m46, m47, m48, m49, .int 0, m51, m52, m53, m54, m55, m56, m57, m58, m59, m60, m61, m62, m63, m64, m65, m66, m67, m68, m69, m70, m71, m72, m73, m74, m75, m76, m77, m78, m79, m80, m81, m82, m83, m84, m85, m86, m87, m88, m89, m90, m91, .int 0, .int 0, m94, m95, m96, m97, m98, m99, m100, m101, m102, m103, m104, m105, m106, m107, m108, m109, .long 0, .long 0, .int 0, m113, m114, m115, m116, m117, m118, m119, m120, m121, m122])), (h1, .inl (cB, 1500, .inl f1))] sz)) 0 0 (va_A [(h0, .inr (16, [m0, m1, .ref h1, .int 0, .int 0, m5, m6, m7, m8, m9, m10, m11, m12, m13, m14, m15, m16, .null, m18, m19, m20, m21, m22, m23, m24, m25, m26, .int 0, m28, m29, .int 0, .int 0, .int 0, m33, m34, m35, .int 0, m37, m38, m39, m40, m41, m42, m43, m44, m45, m46, m47, m48, m49, .int 0, m51, m52, m53, m54, m55, m56, m57, m58, m59, m60, m61, m62, m63, m64, m65, m66, m67, m68, m69, m70, m71, m72, m73, m74, m75, m76, m77, m78, m79, m80, m81, m82, m83, m84, m85, m86, m87, m88, m89, m90, m91, .int 0, .int 0, m94, m95, m96, m97, m98, m99, m100, m101, m102, m103, m104, m105, m106, m107, m108, m109, .long 0, .long 0, .int 0, m113, m114, m115, m116, m117, m118, m119, m120, m121, m122])), (h1, .inl (cB, 1500, .inl f1))] sz) := by
  refine Met.ofW (cc := cX16_feed) (maxL := 5) (ret := (some .int)) (by decide) rfl ?_
  intro p e s m args below meth c s₁ B hml hv
  obtain ⟨rfl, hsz, hP, hK, hD0⟩ := hv
  have hx := B.exec
  have hb := B.bytes
  have hr := B.returns
  have hts := atoms_spec (ws := wv_X16_feed_6) B.pre
  have hown : s.vm.findClass RX16 = some m.cls := findClass_of_methodNamed B.named
  have hlocks := B.notSynchronized
  subst hsz
  have hD := hD0.self (sz := s.heap.size)
  generalize hAe : va_A [(h0, .inr (16, [m0, m1, .ref h1, .int 0, .int 0, m5, m6, m7, m8, m9, m10, m11, m12, m13, m14, m15, m16, .null, m18, m19, m20, m21, m22, m23, m24, m25, m26, .int 0, m28, m29, .int 0, .int 0, .int 0, m33, m34, m35, .int 0, m37, m38, m39, m40, m41, m42, m43, m44, m45, m46, m47, m48, m49, .int 0, m51, m52, m53, m54, m55, m56, m57, m58, m59, m60, m61, m62, m63, m64, m65, m66, m67, m68, m69, m70, m71, m72, m73, m74, m75, m76, m77, m78, m79, m80, m81, m82, m83, m84, m85, m86, m87, m88, m89, m90, m91, .int 0, .int 0, m94, m95, m96, m97, m98, m99, m100, m101, m102, m103, m104, m105, m106, m107, m108, m109, .long 0, .long 0, .int 0, m113, m114, m115, m116, m117, m118, m119, m120, m121, m122])), (h1, .inl (cB, 1500, .inl f1))] s.heap.size = A at hD ⊢
  have hA : ∀ q : Nat, s.heap.size ≤ q → A q := fun q h => by rw [← hAe]; exact Or.inr h
  have hS : va_S A s.heap s.heap [] := va_S.rf
  have hP : va_P (dC, dI) vwCl [(h0, .inr (16, [m0, m1, .ref h1, .int 0, .int 0, m5, m6, m7, m8, m9, m10, m11, m12, m13, m14, m15, m16, .null, m18, m19, m20, m21, m22, m23, m24, m25, m26, .int 0, m28, m29, .int 0, .int 0, .int 0, m33, m34, m35, .int 0, m37, m38, m39, m40, m41, m42, m43, m44, m45, m46, m47, m48, m49, .int 0, m51, m52, m53, m54, m55, m56, m57, m58, m59, m60, m61, m62, m63, m64, m65, m66, m67, m68, m69, m70, m71, m72, m73, m74, m75, m76, m77, m78, m79, m80, m81, m82, m83, m84, m85, m86, m87, m88, m89, m90, m91, .int 0, .int 0, m94, m95, m96, m97, m98, m99, m100, m101, m102, m103, m104, m105, m106, m107, m108, m109, .long 0, .long 0, .int 0, m113, m114, m115, m116, m117, m118, m119, m120, m121, m122])), (h1, .inl (cB, 1500, .inl f1))] s.heap := hP
  have hl := lv_entry ([.ref h0, .long g1, .int 6]) (n := 5) (Nat.le_of_ble_eq_true rfl)
  rw [lg_entry_eq]
  generalize (lg_sl ([.ref h0, .long g1, .int 6]) ++ List.replicate (5 - (lg_sl ([.ref h0, .long g1, .int 6])).length) Slot.unset).toArray = ls at hl ⊢
  have hl : lv_has ls 5 [(0, .ref h0), (1, .long g1), (3, .int 6)] := hl
  refine lv_aload_n hx hb dX16_feed_6_0 rfl (lv_at hl 0 rfl) ?_
  refine lv_iload_n hx hb dX16_feed_6_1 rfl (lv_at hl 2 rfl) ?_
  refine lv_i2l (v := 6) hx hb dX16_feed_6_2 (by decide) ?_
  refine lv_lconst (v := 1) hx hb dX16_feed_6_3 (by decide) ?_
  refine lv_ldc2 hx hb hown (hts (.constantLong RX16 250 8) (wm_X16_feed_6 0 rfl)) dX16_feed_6_4 ?_
  have hPc := hP.sub (ws' := []) [] rfl
  have hDc := hD.sub (ws' := []) [] (by decide) rfl
  have hKc := hK.sub (tys' := []) [] rfl
  have hFc := va_free (wc := []) hD hS hA [] rfl
  have h_1 : 0 ≤ 0 := by decide
  have h_2 : 0 ≤ 0 := by decide
  refine va_calli (va_runS (As := [.long 6, .long 1, .long 8]) (rest := [.ref h0]) ⟨hx, hb, hml, hown, hts⟩ (r_X16_within_1 l dC dI 6 1 8 _) (va_cwS 3 hts wt_X16_feed_6_X16_within_1 rfl rfl rfl (by decide +kernel) ⟨Nat.le_of_ble_eq_true rfl, Nat.le_of_ble_eq_true rfl⟩) ⟨fun a U g mk q => by obtain ⟨q0, q1, qP, qK, qD, qp⟩ := q; exact ⟨q0, q1, qP, va_K.moved (u := U) (U := U.calling g mk a) (Vm.Alike.refl U.vm) qK, qD, qp⟩, fun U hU hW => ⟨rfl, by rw [hU], by rw [hU]; exact hPc, va_K.moved hW.alike hKc, hDc.weaken (fun _ _ _ _ => trivial), ⟨by decide, by decide⟩⟩⟩ rfl rfl hl.1 rfl (lv_room (Nat.le_of_ble_eq_true rfl)) dX16_feed_6_7 ⟨h_1, h_2⟩) hS (fun q _ h => hFc q h) hFc (fun y4 u3 t H1 locs ht hvm hw hB hz1 hk1 hS => ?_)
  obtain ⟨hP1, hK1, hD1⟩ := hB
  rw [ht] at hP1
  have hK1 := va_K.moved hvm.symm hK1
  obtain ⟨hP, hD⟩ := va_join (wr := [(h0, .inr (16, [m0, m1, .ref h1, .int 0, .int 0, m5, m6, m7, m8, m9, m10, m11, m12, m13, m14, m15, m16, .null, m18, m19, m20, m21, m22, m23, m24, m25, m26, .int 0, m28, m29, .int 0, .int 0, .int 0, m33, m34, m35, .int 0, m37, m38, m39, m40, m41, m42, m43, m44, m45, m46, m47, m48, m49, .int 0, m51, m52, m53, m54, m55, m56, m57, m58, m59, m60, m61, m62, m63, m64, m65, m66, m67, m68, m69, m70, m71, m72, m73, m74, m75, m76, m77, m78, m79, m80, m81, m82, m83, m84, m85, m86, m87, m88, m89, m90, m91, .int 0, .int 0, m94, m95, m96, m97, m98, m99, m100, m101, m102, m103, m104, m105, m106, m107, m108, m109, .long 0, .long 0, .int 0, m113, m114, m115, m116, m117, m118, m119, m120, m121, m122])), (h1, .inl (cB, 1500, .inl f1))]) (w1 := []) hP hD [] [0, 1] rfl rfl (by decide) (by decide) hk1 hFc hP1 hD1
  have hK := (hK.sub (tys' := [(cB, .byte)]) [0] rfl).app hK1
  generalize H1 = H at hP hS ⊢
  have hP : va_P (dC, dI) vwCl [(h0, .inr (16, [m0, m1, .ref h1, .int 0, .int 0, m5, m6, m7, m8, m9, m10, m11, m12, m13, m14, m15, m16, .null, m18, m19, m20, m21, m22, m23, m24, m25, m26, .int 0, m28, m29, .int 0, .int 0, .int 0, m33, m34, m35, .int 0, m37, m38, m39, m40, m41, m42, m43, m44, m45, m46, m47, m48, m49, .int 0, m51, m52, m53, m54, m55, m56, m57, m58, m59, m60, m61, m62, m63, m64, m65, m66, m67, m68, m69, m70, m71, m72, m73, m74, m75, m76, m77, m78, m79, m80, m81, m82, m83, m84, m85, m86, m87, m88, m89, m90, m91, .int 0, .int 0, m94, m95, m96, m97, m98, m99, m100, m101, m102, m103, m104, m105, m106, m107, m108, m109, .long 0, .long 0, .int 0, m113, m114, m115, m116, m117, m118, m119, m120, m121, m122])), (h1, .inl (cB, 1500, .inl f1))] H := hP
  have hD : va_D A [(h0, .inr (16, [m0, m1, .ref h1, .int 0, .int 0, m5, m6, m7, m8, m9, m10, m11, m12, m13, m14, m15, m16, .null, m18, m19, m20, m21, m22, m23, m24, m25, m26, .int 0, m28, m29, .int 0, .int 0, .int 0, m33, m34, m35, .int 0, m37, m38, m39, m40, m41, m42, m43, m44, m45, m46, m47, m48, m49, .int 0, m51, m52, m53, m54, m55, m56, m57, m58, m59, m60, m61, m62, m63, m64, m65, m66, m67, m68, m69, m70, m71, m72, m73, m74, m75, m76, m77, m78, m79, m80, m81, m82, m83, m84, m85, m86, m87, m88, m89, m90, m91, .int 0, .int 0, m94, m95, m96, m97, m98, m99, m100, m101, m102, m103, m104, m105, m106, m107, m108, m109, .long 0, .long 0, .int 0, m113, m114, m115, m116, m117, m118, m119, m120, m121, m122])), (h1, .inl (cB, 1500, .inl f1))] := hD
  have hK : va_K (dC, dI) vwCl [(cB, .byte)] s := hK
  refine W.widen (k := 0) (n := 0) (by decide) (by decide) ?_
  have hw : y4 = 1 := hw
  subst hw
  refine lv_if_ne (tgt := 17) hx hb dX16_feed_6_10 (by decide) (fun _ => ?_) (fun h9 => absurd h9 (by decide))
  refine lv_aload_n hx hb dX16_feed_6_17 rfl (lv_at hl 0 rfl) ?_
  refine va_get (D := (dC, dI)) (ci := 16) (v := .int 0) (C := RX16) (T := TX16) (N := 123) hx hb hts wh_X16_feed_6_X16 hown hK hP 0 rfl rfl 3 (by decide) (hts (.fieldLink RX16 972 "StreamHouseModel" "taped" "I") (wm_X16_feed_6 4 rfl)) (fun _ h9 => h9) rfl dX16_feed_6_18 ?_
  refine lv_iload_n hx hb dX16_feed_6_21 rfl (lv_at hl 2 rfl) ?_
  refine lv_iadd hx hb dX16_feed_6_22 ?_
  refine W.eq (g2 := F0 m 23 ls [.int 6, .ref h0]) rfl ?_
  refine lv_sipush (v := 1500) hx hb dX16_feed_6_23 (by decide) ?_
  refine lv_icmp_le (tgt := 33) hx hb dX16_feed_6_26 (by decide) (fun _ => ?_) (fun h9 => absurd (by decide) h9)
  refine lv_iconst (v := 0) hx hb dX16_feed_6_33 (by decide) ?_
  refine va_put (D := (dC, dI)) (ci := 16) (v := .int 0) (ty := .int) (C := RX16) (T := TX16) (N := 123) hx hb hts wh_X16_feed_6_X16 tyX16 tyX16_ok nmX16 hown hK hP hD hS 0 rfl rfl 0 (by decide) (hts (.fieldLink RX16 1 "StreamHouseModel" "code" "I") (wm_X16_feed_6 5 rfl)) (fun _ h9 => h9) rfl (by decide +kernel) rfl rfl (Nat.le_of_ble_eq_true rfl) dX16_feed_6_34 (fun H locs hP hD hS => ?_)
  have hP : va_P (dC, dI) vwCl [(h0, .inr (16, [.int 0, m1, .ref h1, .int 0, .int 0, m5, m6, m7, m8, m9, m10, m11, m12, m13, m14, m15, m16, .null, m18, m19, m20, m21, m22, m23, m24, m25, m26, .int 0, m28, m29, .int 0, .int 0, .int 0, m33, m34, m35, .int 0, m37, m38, m39, m40, m41, m42, m43, m44, m45, m46, m47, m48, m49, .int 0, m51, m52, m53, m54, m55, m56, m57, m58, m59, m60, m61, m62, m63, m64, m65, m66, m67, m68, m69, m70, m71, m72, m73, m74, m75, m76, m77, m78, m79, m80, m81, m82, m83, m84, m85, m86, m87, m88, m89, m90, m91, .int 0, .int 0, m94, m95, m96, m97, m98, m99, m100, m101, m102, m103, m104, m105, m106, m107, m108, m109, .long 0, .long 0, .int 0, m113, m114, m115, m116, m117, m118, m119, m120, m121, m122])), (h1, .inl (cB, 1500, .inl f1))] H := hP
  have hD : va_D A [(h0, .inr (16, [.int 0, m1, .ref h1, .int 0, .int 0, m5, m6, m7, m8, m9, m10, m11, m12, m13, m14, m15, m16, .null, m18, m19, m20, m21, m22, m23, m24, m25, m26, .int 0, m28, m29, .int 0, .int 0, .int 0, m33, m34, m35, .int 0, m37, m38, m39, m40, m41, m42, m43, m44, m45, m46, m47, m48, m49, .int 0, m51, m52, m53, m54, m55, m56, m57, m58, m59, m60, m61, m62, m63, m64, m65, m66, m67, m68, m69, m70, m71, m72, m73, m74, m75, m76, m77, m78, m79, m80, m81, m82, m83, m84, m85, m86, m87, m88, m89, m90, m91, .int 0, .int 0, m94, m95, m96, m97, m98, m99, m100, m101, m102, m103, m104, m105, m106, m107, m108, m109, .long 0, .long 0, .int 0, m113, m114, m115, m116, m117, m118, m119, m120, m121, m122])), (h1, .inl (cB, 1500, .inl f1))] := hD
  refine lv_iload_n hx hb dX16_feed_6_37 rfl (lv_at hl 2 rfl) ?_
  refine lv_iconst (v := 1) hx hb dX16_feed_6_38 (by decide) ?_
  refine lv_isub hx hb dX16_feed_6_39 ?_
  refine W.eq (g2 := F0 m 40 ls [.int 5]) rfl ?_
  refine lv_istore (lv' := [(4, .int 5), (0, .ref h0), (1, .long g1), (3, .int 6)]) hx hb dX16_feed_6_40 hl (by decide) rfl (fun ls hl => ?_)
  refine lv_iload hx hb dX16_feed_6_42 (lv_at hl 0 rfl) ?_
  refine lv_if_lt (tgt := 85) hx hb dX16_feed_6_44 (by decide) (fun h9 => absurd h9 (by decide)) (fun _ => ?_)
  refine lv_aload_n hx hb dX16_feed_6_47 rfl (lv_at hl 1 rfl) ?_
  refine va_get (D := (dC, dI)) (ci := 16) (v := .int 0) (C := RX16) (T := TX16) (N := 123) hx hb hts wh_X16_feed_6_X16 hown hK hP 0 rfl rfl 0 (by decide) (hts (.fieldLink RX16 1 "StreamHouseModel" "code" "I") (wm_X16_feed_6 5 rfl)) (fun _ h9 => h9) rfl dX16_feed_6_48 ?_
  refine lv_if_ne (tgt := 85) hx hb dX16_feed_6_51 (by decide) (fun h9 => absurd (by decide) h9) (fun _ => ?_)
  refine lv_aload_n hx hb dX16_feed_6_54 rfl (lv_at hl 1 rfl) ?_
  refine va_get (D := (dC, dI)) (ci := 16) (v := .ref h1) (C := RX16) (T := TX16) (N := 123) hx hb hts wh_X16_feed_6_X16 hown hK hP 0 rfl rfl 2 (by decide) (hts (.fieldLink RX16 20 "StreamHouseModel" "tape" "[B") (wm_X16_feed_6 6 rfl)) (fun _ h9 => h9) rfl dX16_feed_6_55 ?_
  refine lv_aload_n hx hb dX16_feed_6_58 rfl (lv_at hl 1 rfl) ?_
  refine lv_dup hx hb dX16_feed_6_59 rfl ?_
  refine va_get (D := (dC, dI)) (ci := 16) (v := .int 0) (C := RX16) (T := TX16) (N := 123) hx hb hts wh_X16_feed_6_X16 hown hK hP 0 rfl rfl 3 (by decide) (hts (.fieldLink RX16 972 "StreamHouseModel" "taped" "I") (wm_X16_feed_6 4 rfl)) (fun _ h9 => h9) rfl dX16_feed_6_60 ?_
  refine lv_dup_x1 hx hb dX16_feed_6_63 rfl rfl ?_
  refine lv_iconst (v := 1) hx hb dX16_feed_6_64 (by decide) ?_
  refine lv_iadd hx hb dX16_feed_6_65 ?_
  refine W.eq (g2 := F0 m 66 ls [.int 1, .ref h0, .int 0, .ref h1]) rfl ?_
  refine va_put (D := (dC, dI)) (ci := 16) (v := .int 1) (ty := .int) (C := RX16) (T := TX16) (N := 123) hx hb hts wh_X16_feed_6_X16 tyX16 tyX16_ok nmX16 hown hK hP hD hS 0 rfl rfl 3 (by decide) (hts (.fieldLink RX16 972 "StreamHouseModel" "taped" "I") (wm_X16_feed_6 4 rfl)) (fun _ h9 => h9) rfl (by decide +kernel) rfl rfl (Nat.le_of_ble_eq_true rfl) dX16_feed_6_66 (fun H locs hP hD hS => ?_)
  have hP : va_P (dC, dI) vwCl [(h0, .inr (16, [.int 0, m1, .ref h1, .int 1, .int 0, m5, m6, m7, m8, m9, m10, m11, m12, m13, m14, m15, m16, .null, m18, m19, m20, m21, m22, m23, m24, m25, m26, .int 0, m28, m29, .int 0, .int 0, .int 0, m33, m34, m35, .int 0, m37, m38, m39, m40, m41, m42, m43, m44, m45, m46, m47, m48, m49, .int 0, m51, m52, m53, m54, m55, m56, m57, m58, m59, m60, m61, m62, m63, m64, m65, m66, m67, m68, m69, m70, m71, m72, m73, m74, m75, m76, m77, m78, m79, m80, m81, m82, m83, m84, m85, m86, m87, m88, m89, m90, m91, .int 0, .int 0, m94, m95, m96, m97, m98, m99, m100, m101, m102, m103, m104, m105, m106, m107, m108, m109, .long 0, .long 0, .int 0, m113, m114, m115, m116, m117, m118, m119, m120, m121, m122])), (h1, .inl (cB, 1500, .inl f1))] H := hP
  have hD : va_D A [(h0, .inr (16, [.int 0, m1, .ref h1, .int 1, .int 0, m5, m6, m7, m8, m9, m10, m11, m12, m13, m14, m15, m16, .null, m18, m19, m20, m21, m22, m23, m24, m25, m26, .int 0, m28, m29, .int 0, .int 0, .int 0, m33, m34, m35, .int 0, m37, m38, m39, m40, m41, m42, m43, m44, m45, m46, m47, m48, m49, .int 0, m51, m52, m53, m54, m55, m56, m57, m58, m59, m60, m61, m62, m63, m64, m65, m66, m67, m68, m69, m70, m71, m72, m73, m74, m75, m76, m77, m78, m79, m80, m81, m82, m83, m84, m85, m86, m87, m88, m89, m90, m91, .int 0, .int 0, m94, m95, m96, m97, m98, m99, m100, m101, m102, m103, m104, m105, m106, m107, m108, m109, .long 0, .long 0, .int 0, m113, m114, m115, m116, m117, m118, m119, m120, m121, m122])), (h1, .inl (cB, 1500, .inl f1))] := hD
  refine lv_lload_n hx hb dX16_feed_6_69 rfl (lv_at hl 2 rfl) ?_
  refine lv_bipush (v := 8) hx hb dX16_feed_6_70 (by decide) ?_
  refine lv_iload hx hb dX16_feed_6_72 (lv_at hl 0 rfl) ?_
  refine lv_imul hx hb dX16_feed_6_74 ?_
  refine W.eq (g2 := F0 m 75 ls [.int 40, .long g1, .int 0, .ref h1]) rfl ?_
  refine lv_lshr (v := _) hx hb dX16_feed_6_75 rfl ?_
  refine lv_topl (fun y5 _ => ?_)
  refine lv_l2i (v := _) hx hb dX16_feed_6_76 rfl ?_
  refine lv_topi (fun y6 _ => ?_)
  refine lv_i2b (v := _) hx hb dX16_feed_6_77 rfl ?_
  refine lv_topi (fun y7 _ => ?_)
  refine va_bast hx hb hK hP hD hS 1 0 rfl rfl (by unfold vp_in; decide) dX16_feed_6_78 (fun H locs hP hD hS => ?_)
  have hP : va_P (dC, dI) vwCl [(h0, .inr (16, [.int 0, m1, .ref h1, .int 1, .int 0, m5, m6, m7, m8, m9, m10, m11, m12, m13, m14, m15, m16, .null, m18, m19, m20, m21, m22, m23, m24, m25, m26, .int 0, m28, m29, .int 0, .int 0, .int 0, m33, m34, m35, .int 0, m37, m38, m39, m40, m41, m42, m43, m44, m45, m46, m47, m48, m49, .int 0, m51, m52, m53, m54, m55, m56, m57, m58, m59, m60, m61, m62, m63, m64, m65, m66, m67, m68, m69, m70, m71, m72, m73, m74, m75, m76, m77, m78, m79, m80, m81, m82, m83, m84, m85, m86, m87, m88, m89, m90, m91, .int 0, .int 0, m94, m95, m96, m97, m98, m99, m100, m101, m102, m103, m104, m105, m106, m107, m108, m109, .long 0, .long 0, .int 0, m113, m114, m115, m116, m117, m118, m119, m120, m121, m122])), (h1, .inl (cB, 1500, .inl (upd f1 0 (vp_nar .byte y7))))] H := hP
  have hD : va_D A [(h0, .inr (16, [.int 0, m1, .ref h1, .int 1, .int 0, m5, m6, m7, m8, m9, m10, m11, m12, m13, m14, m15, m16, .null, m18, m19, m20, m21, m22, m23, m24, m25, m26, .int 0, m28, m29, .int 0, .int 0, .int 0, m33, m34, m35, .int 0, m37, m38, m39, m40, m41, m42, m43, m44, m45, m46, m47, m48, m49, .int 0, m51, m52, m53, m54, m55, m56, m57, m58, m59, m60, m61, m62, m63, m64, m65, m66, m67, m68, m69, m70, m71, m72, m73, m74, m75, m76, m77, m78, m79, m80, m81, m82, m83, m84, m85, m86, m87, m88, m89, m90, m91, .int 0, .int 0, m94, m95, m96, m97, m98, m99, m100, m101, m102, m103, m104, m105, m106, m107, m108, m109, .long 0, .long 0, .int 0, m113, m114, m115, m116, m117, m118, m119, m120, m121, m122])), (h1, .inl (cB, 1500, .inl (upd f1 0 (vp_nar .byte y7))))] := hD
  refine lv_iinc (k := 0) (v := 4) (lv' := [(4, .int 4), (0, .ref h0), (1, .long g1), (3, .int 6)]) hx hb dX16_feed_6_79 hl rfl (by decide) (by decide) rfl (fun ls hl => ?_)
  refine lv_goto (tgt := 42) hx hb dX16_feed_6_82 (by decide) ?_
  refine lv_iload hx hb dX16_feed_6_42 (lv_at hl 0 rfl) ?_
  refine lv_if_lt (tgt := 85) hx hb dX16_feed_6_44 (by decide) (fun h9 => absurd h9 (by decide)) (fun _ => ?_)
  refine lv_aload_n hx hb dX16_feed_6_47 rfl (lv_at hl 1 rfl) ?_
  refine va_get (D := (dC, dI)) (ci := 16) (v := .int 0) (C := RX16) (T := TX16) (N := 123) hx hb hts wh_X16_feed_6_X16 hown hK hP 0 rfl rfl 0 (by decide) (hts (.fieldLink RX16 1 "StreamHouseModel" "code" "I") (wm_X16_feed_6 5 rfl)) (fun _ h9 => h9) rfl dX16_feed_6_48 ?_
  refine lv_if_ne (tgt := 85) hx hb dX16_feed_6_51 (by decide) (fun h9 => absurd (by decide) h9) (fun _ => ?_)
  refine lv_aload_n hx hb dX16_feed_6_54 rfl (lv_at hl 1 rfl) ?_
  refine va_get (D := (dC, dI)) (ci := 16) (v := .ref h1) (C := RX16) (T := TX16) (N := 123) hx hb hts wh_X16_feed_6_X16 hown hK hP 0 rfl rfl 2 (by decide) (hts (.fieldLink RX16 20 "StreamHouseModel" "tape" "[B") (wm_X16_feed_6 6 rfl)) (fun _ h9 => h9) rfl dX16_feed_6_55 ?_
  refine lv_aload_n hx hb dX16_feed_6_58 rfl (lv_at hl 1 rfl) ?_
  refine lv_dup hx hb dX16_feed_6_59 rfl ?_
  refine va_get (D := (dC, dI)) (ci := 16) (v := .int 1) (C := RX16) (T := TX16) (N := 123) hx hb hts wh_X16_feed_6_X16 hown hK hP 0 rfl rfl 3 (by decide) (hts (.fieldLink RX16 972 "StreamHouseModel" "taped" "I") (wm_X16_feed_6 4 rfl)) (fun _ h9 => h9) rfl dX16_feed_6_60 ?_
  refine lv_dup_x1 hx hb dX16_feed_6_63 rfl rfl ?_
  refine lv_iconst (v := 1) hx hb dX16_feed_6_64 (by decide) ?_
  refine lv_iadd hx hb dX16_feed_6_65 ?_
  refine W.eq (g2 := F0 m 66 ls [.int 2, .ref h0, .int 1, .ref h1]) rfl ?_
  refine va_put (D := (dC, dI)) (ci := 16) (v := .int 2) (ty := .int) (C := RX16) (T := TX16) (N := 123) hx hb hts wh_X16_feed_6_X16 tyX16 tyX16_ok nmX16 hown hK hP hD hS 0 rfl rfl 3 (by decide) (hts (.fieldLink RX16 972 "StreamHouseModel" "taped" "I") (wm_X16_feed_6 4 rfl)) (fun _ h9 => h9) rfl (by decide +kernel) rfl rfl (Nat.le_of_ble_eq_true rfl) dX16_feed_6_66 (fun H locs hP hD hS => ?_)
  have hP : va_P (dC, dI) vwCl [(h0, .inr (16, [.int 0, m1, .ref h1, .int 2, .int 0, m5, m6, m7, m8, m9, m10, m11, m12, m13, m14, m15, m16, .null, m18, m19, m20, m21, m22, m23, m24, m25, m26, .int 0, m28, m29, .int 0, .int 0, .int 0, m33, m34, m35, .int 0, m37, m38, m39, m40, m41, m42, m43, m44, m45, m46, m47, m48, m49, .int 0, m51, m52, m53, m54, m55, m56, m57, m58, m59, m60, m61, m62, m63, m64, m65, m66, m67, m68, m69, m70, m71, m72, m73, m74, m75, m76, m77, m78, m79, m80, m81, m82, m83, m84, m85, m86, m87, m88, m89, m90, m91, .int 0, .int 0, m94, m95, m96, m97, m98, m99, m100, m101, m102, m103, m104, m105, m106, m107, m108, m109, .long 0, .long 0, .int 0, m113, m114, m115, m116, m117, m118, m119, m120, m121, m122])), (h1, .inl (cB, 1500, .inl (upd f1 0 (vp_nar .byte y7))))] H := hP
  have hD : va_D A [(h0, .inr (16, [.int 0, m1, .ref h1, .int 2, .int 0, m5, m6, m7, m8, m9, m10, m11, m12, m13, m14, m15, m16, .null, m18, m19, m20, m21, m22, m23, m24, m25, m26, .int 0, m28, m29, .int 0, .int 0, .int 0, m33, m34, m35, .int 0, m37, m38, m39, m40, m41, m42, m43, m44, m45, m46, m47, m48, m49, .int 0, m51, m52, m53, m54, m55, m56, m57, m58, m59, m60, m61, m62, m63, m64, m65, m66, m67, m68, m69, m70, m71, m72, m73, m74, m75, m76, m77, m78, m79, m80, m81, m82, m83, m84, m85, m86, m87, m88, m89, m90, m91, .int 0, .int 0, m94, m95, m96, m97, m98, m99, m100, m101, m102, m103, m104, m105, m106, m107, m108, m109, .long 0, .long 0, .int 0, m113, m114, m115, m116, m117, m118, m119, m120, m121, m122])), (h1, .inl (cB, 1500, .inl (upd f1 0 (vp_nar .byte y7))))] := hD
  refine lv_lload_n hx hb dX16_feed_6_69 rfl (lv_at hl 2 rfl) ?_
  refine lv_bipush (v := 8) hx hb dX16_feed_6_70 (by decide) ?_
  refine lv_iload hx hb dX16_feed_6_72 (lv_at hl 0 rfl) ?_
  refine lv_imul hx hb dX16_feed_6_74 ?_
  refine W.eq (g2 := F0 m 75 ls [.int 32, .long g1, .int 1, .ref h1]) rfl ?_
  refine lv_lshr (v := _) hx hb dX16_feed_6_75 rfl ?_
  refine lv_topl (fun y8 _ => ?_)
  refine lv_l2i (v := _) hx hb dX16_feed_6_76 rfl ?_
  refine lv_topi (fun y9 _ => ?_)
  refine lv_i2b (v := _) hx hb dX16_feed_6_77 rfl ?_
  refine lv_topi (fun y10 _ => ?_)
  refine va_bast hx hb hK hP hD hS 1 0 rfl rfl (by unfold vp_in; decide) dX16_feed_6_78 (fun H locs hP hD hS => ?_)
  have hP : va_P (dC, dI) vwCl [(h0, .inr (16, [.int 0, m1, .ref h1, .int 2, .int 0, m5, m6, m7, m8, m9, m10, m11, m12, m13, m14, m15, m16, .null, m18, m19, m20, m21, m22, m23, m24, m25, m26, .int 0, m28, m29, .int 0, .int 0, .int 0, m33, m34, m35, .int 0, m37, m38, m39, m40, m41, m42, m43, m44, m45, m46, m47, m48, m49, .int 0, m51, m52, m53, m54, m55, m56, m57, m58, m59, m60, m61, m62, m63, m64, m65, m66, m67, m68, m69, m70, m71, m72, m73, m74, m75, m76, m77, m78, m79, m80, m81, m82, m83, m84, m85, m86, m87, m88, m89, m90, m91, .int 0, .int 0, m94, m95, m96, m97, m98, m99, m100, m101, m102, m103, m104, m105, m106, m107, m108, m109, .long 0, .long 0, .int 0, m113, m114, m115, m116, m117, m118, m119, m120, m121, m122])), (h1, .inl (cB, 1500, .inl (upd (upd f1 0 (vp_nar .byte y7)) 1 (vp_nar .byte y10))))] H := hP
  have hD : va_D A [(h0, .inr (16, [.int 0, m1, .ref h1, .int 2, .int 0, m5, m6, m7, m8, m9, m10, m11, m12, m13, m14, m15, m16, .null, m18, m19, m20, m21, m22, m23, m24, m25, m26, .int 0, m28, m29, .int 0, .int 0, .int 0, m33, m34, m35, .int 0, m37, m38, m39, m40, m41, m42, m43, m44, m45, m46, m47, m48, m49, .int 0, m51, m52, m53, m54, m55, m56, m57, m58, m59, m60, m61, m62, m63, m64, m65, m66, m67, m68, m69, m70, m71, m72, m73, m74, m75, m76, m77, m78, m79, m80, m81, m82, m83, m84, m85, m86, m87, m88, m89, m90, m91, .int 0, .int 0, m94, m95, m96, m97, m98, m99, m100, m101, m102, m103, m104, m105, m106, m107, m108, m109, .long 0, .long 0, .int 0, m113, m114, m115, m116, m117, m118, m119, m120, m121, m122])), (h1, .inl (cB, 1500, .inl (upd (upd f1 0 (vp_nar .byte y7)) 1 (vp_nar .byte y10))))] := hD
  refine lv_iinc (k := 0) (v := 3) (lv' := [(4, .int 3), (0, .ref h0), (1, .long g1), (3, .int 6)]) hx hb dX16_feed_6_79 hl rfl (by decide) (by decide) rfl (fun ls hl => ?_)
  refine lv_goto (tgt := 42) hx hb dX16_feed_6_82 (by decide) ?_
  refine lv_iload hx hb dX16_feed_6_42 (lv_at hl 0 rfl) ?_
  refine lv_if_lt (tgt := 85) hx hb dX16_feed_6_44 (by decide) (fun h9 => absurd h9 (by decide)) (fun _ => ?_)
  refine lv_aload_n hx hb dX16_feed_6_47 rfl (lv_at hl 1 rfl) ?_
  refine va_get (D := (dC, dI)) (ci := 16) (v := .int 0) (C := RX16) (T := TX16) (N := 123) hx hb hts wh_X16_feed_6_X16 hown hK hP 0 rfl rfl 0 (by decide) (hts (.fieldLink RX16 1 "StreamHouseModel" "code" "I") (wm_X16_feed_6 5 rfl)) (fun _ h9 => h9) rfl dX16_feed_6_48 ?_
  refine lv_if_ne (tgt := 85) hx hb dX16_feed_6_51 (by decide) (fun h9 => absurd (by decide) h9) (fun _ => ?_)
  refine lv_aload_n hx hb dX16_feed_6_54 rfl (lv_at hl 1 rfl) ?_
  refine va_get (D := (dC, dI)) (ci := 16) (v := .ref h1) (C := RX16) (T := TX16) (N := 123) hx hb hts wh_X16_feed_6_X16 hown hK hP 0 rfl rfl 2 (by decide) (hts (.fieldLink RX16 20 "StreamHouseModel" "tape" "[B") (wm_X16_feed_6 6 rfl)) (fun _ h9 => h9) rfl dX16_feed_6_55 ?_
  refine lv_aload_n hx hb dX16_feed_6_58 rfl (lv_at hl 1 rfl) ?_
  refine lv_dup hx hb dX16_feed_6_59 rfl ?_
  refine va_get (D := (dC, dI)) (ci := 16) (v := .int 2) (C := RX16) (T := TX16) (N := 123) hx hb hts wh_X16_feed_6_X16 hown hK hP 0 rfl rfl 3 (by decide) (hts (.fieldLink RX16 972 "StreamHouseModel" "taped" "I") (wm_X16_feed_6 4 rfl)) (fun _ h9 => h9) rfl dX16_feed_6_60 ?_
  refine lv_dup_x1 hx hb dX16_feed_6_63 rfl rfl ?_
  refine lv_iconst (v := 1) hx hb dX16_feed_6_64 (by decide) ?_
  refine lv_iadd hx hb dX16_feed_6_65 ?_
  refine W.eq (g2 := F0 m 66 ls [.int 3, .ref h0, .int 2, .ref h1]) rfl ?_
  refine va_put (D := (dC, dI)) (ci := 16) (v := .int 3) (ty := .int) (C := RX16) (T := TX16) (N := 123) hx hb hts wh_X16_feed_6_X16 tyX16 tyX16_ok nmX16 hown hK hP hD hS 0 rfl rfl 3 (by decide) (hts (.fieldLink RX16 972 "StreamHouseModel" "taped" "I") (wm_X16_feed_6 4 rfl)) (fun _ h9 => h9) rfl (by decide +kernel) rfl rfl (Nat.le_of_ble_eq_true rfl) dX16_feed_6_66 (fun H locs hP hD hS => ?_)
  have hP : va_P (dC, dI) vwCl [(h0, .inr (16, [.int 0, m1, .ref h1, .int 3, .int 0, m5, m6, m7, m8, m9, m10, m11, m12, m13, m14, m15, m16, .null, m18, m19, m20, m21, m22, m23, m24, m25, m26, .int 0, m28, m29, .int 0, .int 0, .int 0, m33, m34, m35, .int 0, m37, m38, m39, m40, m41, m42, m43, m44, m45, m46, m47, m48, m49, .int 0, m51, m52, m53, m54, m55, m56, m57, m58, m59, m60, m61, m62, m63, m64, m65, m66, m67, m68, m69, m70, m71, m72, m73, m74, m75, m76, m77, m78, m79, m80, m81, m82, m83, m84, m85, m86, m87, m88, m89, m90, m91, .int 0, .int 0, m94, m95, m96, m97, m98, m99, m100, m101, m102, m103, m104, m105, m106, m107, m108, m109, .long 0, .long 0, .int 0, m113, m114, m115, m116, m117, m118, m119, m120, m121, m122])), (h1, .inl (cB, 1500, .inl (upd (upd f1 0 (vp_nar .byte y7)) 1 (vp_nar .byte y10))))] H := hP
  have hD : va_D A [(h0, .inr (16, [.int 0, m1, .ref h1, .int 3, .int 0, m5, m6, m7, m8, m9, m10, m11, m12, m13, m14, m15, m16, .null, m18, m19, m20, m21, m22, m23, m24, m25, m26, .int 0, m28, m29, .int 0, .int 0, .int 0, m33, m34, m35, .int 0, m37, m38, m39, m40, m41, m42, m43, m44, m45, m46, m47, m48, m49, .int 0, m51, m52, m53, m54, m55, m56, m57, m58, m59, m60, m61, m62, m63, m64, m65, m66, m67, m68, m69, m70, m71, m72, m73, m74, m75, m76, m77, m78, m79, m80, m81, m82, m83, m84, m85, m86, m87, m88, m89, m90, m91, .int 0, .int 0, m94, m95, m96, m97, m98, m99, m100, m101, m102, m103, m104, m105, m106, m107, m108, m109, .long 0, .long 0, .int 0, m113, m114, m115, m116, m117, m118, m119, m120, m121, m122])), (h1, .inl (cB, 1500, .inl (upd (upd f1 0 (vp_nar .byte y7)) 1 (vp_nar .byte y10))))] := hD
  refine lv_lload_n hx hb dX16_feed_6_69 rfl (lv_at hl 2 rfl) ?_
  refine lv_bipush (v := 8) hx hb dX16_feed_6_70 (by decide) ?_
  refine lv_iload hx hb dX16_feed_6_72 (lv_at hl 0 rfl) ?_
  refine lv_imul hx hb dX16_feed_6_74 ?_
  refine W.eq (g2 := F0 m 75 ls [.int 24, .long g1, .int 2, .ref h1]) rfl ?_
  refine lv_lshr (v := _) hx hb dX16_feed_6_75 rfl ?_
  refine lv_topl (fun y11 _ => ?_)
  refine lv_l2i (v := _) hx hb dX16_feed_6_76 rfl ?_
  refine lv_topi (fun y12 _ => ?_)
  refine lv_i2b (v := _) hx hb dX16_feed_6_77 rfl ?_
  refine lv_topi (fun y13 _ => ?_)
  refine va_bast hx hb hK hP hD hS 1 0 rfl rfl (by unfold vp_in; decide) dX16_feed_6_78 (fun H locs hP hD hS => ?_)
  have hP : va_P (dC, dI) vwCl [(h0, .inr (16, [.int 0, m1, .ref h1, .int 3, .int 0, m5, m6, m7, m8, m9, m10, m11, m12, m13, m14, m15, m16, .null, m18, m19, m20, m21, m22, m23, m24, m25, m26, .int 0, m28, m29, .int 0, .int 0, .int 0, m33, m34, m35, .int 0, m37, m38, m39, m40, m41, m42, m43, m44, m45, m46, m47, m48, m49, .int 0, m51, m52, m53, m54, m55, m56, m57, m58, m59, m60, m61, m62, m63, m64, m65, m66, m67, m68, m69, m70, m71, m72, m73, m74, m75, m76, m77, m78, m79, m80, m81, m82, m83, m84, m85, m86, m87, m88, m89, m90, m91, .int 0, .int 0, m94, m95, m96, m97, m98, m99, m100, m101, m102, m103, m104, m105, m106, m107, m108, m109, .long 0, .long 0, .int 0, m113, m114, m115, m116, m117, m118, m119, m120, m121, m122])), (h1, .inl (cB, 1500, .inl (upd (upd (upd f1 0 (vp_nar .byte y7)) 1 (vp_nar .byte y10)) 2 (vp_nar .byte y13))))] H := hP
  have hD : va_D A [(h0, .inr (16, [.int 0, m1, .ref h1, .int 3, .int 0, m5, m6, m7, m8, m9, m10, m11, m12, m13, m14, m15, m16, .null, m18, m19, m20, m21, m22, m23, m24, m25, m26, .int 0, m28, m29, .int 0, .int 0, .int 0, m33, m34, m35, .int 0, m37, m38, m39, m40, m41, m42, m43, m44, m45, m46, m47, m48, m49, .int 0, m51, m52, m53, m54, m55, m56, m57, m58, m59, m60, m61, m62, m63, m64, m65, m66, m67, m68, m69, m70, m71, m72, m73, m74, m75, m76, m77, m78, m79, m80, m81, m82, m83, m84, m85, m86, m87, m88, m89, m90, m91, .int 0, .int 0, m94, m95, m96, m97, m98, m99, m100, m101, m102, m103, m104, m105, m106, m107, m108, m109, .long 0, .long 0, .int 0, m113, m114, m115, m116, m117, m118, m119, m120, m121, m122])), (h1, .inl (cB, 1500, .inl (upd (upd (upd f1 0 (vp_nar .byte y7)) 1 (vp_nar .byte y10)) 2 (vp_nar .byte y13))))] := hD
  refine lv_iinc (k := 0) (v := 2) (lv' := [(4, .int 2), (0, .ref h0), (1, .long g1), (3, .int 6)]) hx hb dX16_feed_6_79 hl rfl (by decide) (by decide) rfl (fun ls hl => ?_)
  refine lv_goto (tgt := 42) hx hb dX16_feed_6_82 (by decide) ?_
  refine lv_iload hx hb dX16_feed_6_42 (lv_at hl 0 rfl) ?_
  refine lv_if_lt (tgt := 85) hx hb dX16_feed_6_44 (by decide) (fun h9 => absurd h9 (by decide)) (fun _ => ?_)
  refine lv_aload_n hx hb dX16_feed_6_47 rfl (lv_at hl 1 rfl) ?_
  refine va_get (D := (dC, dI)) (ci := 16) (v := .int 0) (C := RX16) (T := TX16) (N := 123) hx hb hts wh_X16_feed_6_X16 hown hK hP 0 rfl rfl 0 (by decide) (hts (.fieldLink RX16 1 "StreamHouseModel" "code" "I") (wm_X16_feed_6 5 rfl)) (fun _ h9 => h9) rfl dX16_feed_6_48 ?_
  refine lv_if_ne (tgt := 85) hx hb dX16_feed_6_51 (by decide) (fun h9 => absurd (by decide) h9) (fun _ => ?_)
  refine lv_aload_n hx hb dX16_feed_6_54 rfl (lv_at hl 1 rfl) ?_
  refine va_get (D := (dC, dI)) (ci := 16) (v := .ref h1) (C := RX16) (T := TX16) (N := 123) hx hb hts wh_X16_feed_6_X16 hown hK hP 0 rfl rfl 2 (by decide) (hts (.fieldLink RX16 20 "StreamHouseModel" "tape" "[B") (wm_X16_feed_6 6 rfl)) (fun _ h9 => h9) rfl dX16_feed_6_55 ?_
  refine lv_aload_n hx hb dX16_feed_6_58 rfl (lv_at hl 1 rfl) ?_
  refine lv_dup hx hb dX16_feed_6_59 rfl ?_
  refine va_get (D := (dC, dI)) (ci := 16) (v := .int 3) (C := RX16) (T := TX16) (N := 123) hx hb hts wh_X16_feed_6_X16 hown hK hP 0 rfl rfl 3 (by decide) (hts (.fieldLink RX16 972 "StreamHouseModel" "taped" "I") (wm_X16_feed_6 4 rfl)) (fun _ h9 => h9) rfl dX16_feed_6_60 ?_
  refine lv_dup_x1 hx hb dX16_feed_6_63 rfl rfl ?_
  refine lv_iconst (v := 1) hx hb dX16_feed_6_64 (by decide) ?_
  refine lv_iadd hx hb dX16_feed_6_65 ?_
  refine W.eq (g2 := F0 m 66 ls [.int 4, .ref h0, .int 3, .ref h1]) rfl ?_
  refine va_put (D := (dC, dI)) (ci := 16) (v := .int 4) (ty := .int) (C := RX16) (T := TX16) (N := 123) hx hb hts wh_X16_feed_6_X16 tyX16 tyX16_ok nmX16 hown hK hP hD hS 0 rfl rfl 3 (by decide) (hts (.fieldLink RX16 972 "StreamHouseModel" "taped" "I") (wm_X16_feed_6 4 rfl)) (fun _ h9 => h9) rfl (by decide +kernel) rfl rfl (Nat.le_of_ble_eq_true rfl) dX16_feed_6_66 (fun H locs hP hD hS => ?_)
  have hP : va_P (dC, dI) vwCl [(h0, .inr (16, [.int 0, m1, .ref h1, .int 4, .int 0, m5, m6, m7, m8, m9, m10, m11, m12, m13, m14, m15, m16, .null, m18, m19, m20, m21, m22, m23, m24, m25, m26, .int 0, m28, m29, .int 0, .int 0, .int 0, m33, m34, m35, .int 0, m37, m38, m39, m40, m41, m42, m43, m44, m45, m46, m47, m48, m49, .int 0, m51, m52, m53, m54, m55, m56, m57, m58, m59, m60, m61, m62, m63, m64, m65, m66, m67, m68, m69, m70, m71, m72, m73, m74, m75, m76, m77, m78, m79, m80, m81, m82, m83, m84, m85, m86, m87, m88, m89, m90, m91, .int 0, .int 0, m94, m95, m96, m97, m98, m99, m100, m101, m102, m103, m104, m105, m106, m107, m108, m109, .long 0, .long 0, .int 0, m113, m114, m115, m116, m117, m118, m119, m120, m121, m122])), (h1, .inl (cB, 1500, .inl (upd (upd (upd f1 0 (vp_nar .byte y7)) 1 (vp_nar .byte y10)) 2 (vp_nar .byte y13))))] H := hP
  have hD : va_D A [(h0, .inr (16, [.int 0, m1, .ref h1, .int 4, .int 0, m5, m6, m7, m8, m9, m10, m11, m12, m13, m14, m15, m16, .null, m18, m19, m20, m21, m22, m23, m24, m25, m26, .int 0, m28, m29, .int 0, .int 0, .int 0, m33, m34, m35, .int 0, m37, m38, m39, m40, m41, m42, m43, m44, m45, m46, m47, m48, m49, .int 0, m51, m52, m53, m54, m55, m56, m57, m58, m59, m60, m61, m62, m63, m64, m65, m66, m67, m68, m69, m70, m71, m72, m73, m74, m75, m76, m77, m78, m79, m80, m81, m82, m83, m84, m85, m86, m87, m88, m89, m90, m91, .int 0, .int 0, m94, m95, m96, m97, m98, m99, m100, m101, m102, m103, m104, m105, m106, m107, m108, m109, .long 0, .long 0, .int 0, m113, m114, m115, m116, m117, m118, m119, m120, m121, m122])), (h1, .inl (cB, 1500, .inl (upd (upd (upd f1 0 (vp_nar .byte y7)) 1 (vp_nar .byte y10)) 2 (vp_nar .byte y13))))] := hD
  refine lv_lload_n hx hb dX16_feed_6_69 rfl (lv_at hl 2 rfl) ?_
  refine lv_bipush (v := 8) hx hb dX16_feed_6_70 (by decide) ?_
  refine lv_iload hx hb dX16_feed_6_72 (lv_at hl 0 rfl) ?_
  refine lv_imul hx hb dX16_feed_6_74 ?_
  refine W.eq (g2 := F0 m 75 ls [.int 16, .long g1, .int 3, .ref h1]) rfl ?_
  refine lv_lshr (v := _) hx hb dX16_feed_6_75 rfl ?_
  refine lv_topl (fun y14 _ => ?_)
  refine lv_l2i (v := _) hx hb dX16_feed_6_76 rfl ?_
  refine lv_topi (fun y15 _ => ?_)
  refine lv_i2b (v := _) hx hb dX16_feed_6_77 rfl ?_
  refine lv_topi (fun y16 _ => ?_)
  refine va_bast hx hb hK hP hD hS 1 0 rfl rfl (by unfold vp_in; decide) dX16_feed_6_78 (fun H locs hP hD hS => ?_)
  have hP : va_P (dC, dI) vwCl [(h0, .inr (16, [.int 0, m1, .ref h1, .int 4, .int 0, m5, m6, m7, m8, m9, m10, m11, m12, m13, m14, m15, m16, .null, m18, m19, m20, m21, m22, m23, m24, m25, m26, .int 0, m28, m29, .int 0, .int 0, .int 0, m33, m34, m35, .int 0, m37, m38, m39, m40, m41, m42, m43, m44, m45, m46, m47, m48, m49, .int 0, m51, m52, m53, m54, m55, m56, m57, m58, m59, m60, m61, m62, m63, m64, m65, m66, m67, m68, m69, m70, m71, m72, m73, m74, m75, m76, m77, m78, m79, m80, m81, m82, m83, m84, m85, m86, m87, m88, m89, m90, m91, .int 0, .int 0, m94, m95, m96, m97, m98, m99, m100, m101, m102, m103, m104, m105, m106, m107, m108, m109, .long 0, .long 0, .int 0, m113, m114, m115, m116, m117, m118, m119, m120, m121, m122])), (h1, .inl (cB, 1500, .inl (upd (upd (upd (upd f1 0 (vp_nar .byte y7)) 1 (vp_nar .byte y10)) 2 (vp_nar .byte y13)) 3 (vp_nar .byte y16))))] H := hP
  have hD : va_D A [(h0, .inr (16, [.int 0, m1, .ref h1, .int 4, .int 0, m5, m6, m7, m8, m9, m10, m11, m12, m13, m14, m15, m16, .null, m18, m19, m20, m21, m22, m23, m24, m25, m26, .int 0, m28, m29, .int 0, .int 0, .int 0, m33, m34, m35, .int 0, m37, m38, m39, m40, m41, m42, m43, m44, m45, m46, m47, m48, m49, .int 0, m51, m52, m53, m54, m55, m56, m57, m58, m59, m60, m61, m62, m63, m64, m65, m66, m67, m68, m69, m70, m71, m72, m73, m74, m75, m76, m77, m78, m79, m80, m81, m82, m83, m84, m85, m86, m87, m88, m89, m90, m91, .int 0, .int 0, m94, m95, m96, m97, m98, m99, m100, m101, m102, m103, m104, m105, m106, m107, m108, m109, .long 0, .long 0, .int 0, m113, m114, m115, m116, m117, m118, m119, m120, m121, m122])), (h1, .inl (cB, 1500, .inl (upd (upd (upd (upd f1 0 (vp_nar .byte y7)) 1 (vp_nar .byte y10)) 2 (vp_nar .byte y13)) 3 (vp_nar .byte y16))))] := hD
  refine lv_iinc (k := 0) (v := 1) (lv' := [(4, .int 1), (0, .ref h0), (1, .long g1), (3, .int 6)]) hx hb dX16_feed_6_79 hl rfl (by decide) (by decide) rfl (fun ls hl => ?_)
  refine lv_goto (tgt := 42) hx hb dX16_feed_6_82 (by decide) ?_
  refine lv_iload hx hb dX16_feed_6_42 (lv_at hl 0 rfl) ?_
  refine lv_if_lt (tgt := 85) hx hb dX16_feed_6_44 (by decide) (fun h9 => absurd h9 (by decide)) (fun _ => ?_)
  refine lv_aload_n hx hb dX16_feed_6_47 rfl (lv_at hl 1 rfl) ?_
  refine va_get (D := (dC, dI)) (ci := 16) (v := .int 0) (C := RX16) (T := TX16) (N := 123) hx hb hts wh_X16_feed_6_X16 hown hK hP 0 rfl rfl 0 (by decide) (hts (.fieldLink RX16 1 "StreamHouseModel" "code" "I") (wm_X16_feed_6 5 rfl)) (fun _ h9 => h9) rfl dX16_feed_6_48 ?_
  refine lv_if_ne (tgt := 85) hx hb dX16_feed_6_51 (by decide) (fun h9 => absurd (by decide) h9) (fun _ => ?_)
  refine lv_aload_n hx hb dX16_feed_6_54 rfl (lv_at hl 1 rfl) ?_
  refine va_get (D := (dC, dI)) (ci := 16) (v := .ref h1) (C := RX16) (T := TX16) (N := 123) hx hb hts wh_X16_feed_6_X16 hown hK hP 0 rfl rfl 2 (by decide) (hts (.fieldLink RX16 20 "StreamHouseModel" "tape" "[B") (wm_X16_feed_6 6 rfl)) (fun _ h9 => h9) rfl dX16_feed_6_55 ?_
  refine lv_aload_n hx hb dX16_feed_6_58 rfl (lv_at hl 1 rfl) ?_
  refine lv_dup hx hb dX16_feed_6_59 rfl ?_
  refine va_get (D := (dC, dI)) (ci := 16) (v := .int 4) (C := RX16) (T := TX16) (N := 123) hx hb hts wh_X16_feed_6_X16 hown hK hP 0 rfl rfl 3 (by decide) (hts (.fieldLink RX16 972 "StreamHouseModel" "taped" "I") (wm_X16_feed_6 4 rfl)) (fun _ h9 => h9) rfl dX16_feed_6_60 ?_
  refine lv_dup_x1 hx hb dX16_feed_6_63 rfl rfl ?_
  refine lv_iconst (v := 1) hx hb dX16_feed_6_64 (by decide) ?_
  refine lv_iadd hx hb dX16_feed_6_65 ?_
  refine W.eq (g2 := F0 m 66 ls [.int 5, .ref h0, .int 4, .ref h1]) rfl ?_
  refine va_put (D := (dC, dI)) (ci := 16) (v := .int 5) (ty := .int) (C := RX16) (T := TX16) (N := 123) hx hb hts wh_X16_feed_6_X16 tyX16 tyX16_ok nmX16 hown hK hP hD hS 0 rfl rfl 3 (by decide) (hts (.fieldLink RX16 972 "StreamHouseModel" "taped" "I") (wm_X16_feed_6 4 rfl)) (fun _ h9 => h9) rfl (by decide +kernel) rfl rfl (Nat.le_of_ble_eq_true rfl) dX16_feed_6_66 (fun H locs hP hD hS => ?_)
  have hP : va_P (dC, dI) vwCl [(h0, .inr (16, [.int 0, m1, .ref h1, .int 5, .int 0, m5, m6, m7, m8, m9, m10, m11, m12, m13, m14, m15, m16, .null, m18, m19, m20, m21, m22, m23, m24, m25, m26, .int 0, m28, m29, .int 0, .int 0, .int 0, m33, m34, m35, .int 0, m37, m38, m39, m40, m41, m42, m43, m44, m45, m46, m47, m48, m49, .int 0, m51, m52, m53, m54, m55, m56, m57, m58, m59, m60, m61, m62, m63, m64, m65, m66, m67, m68, m69, m70, m71, m72, m73, m74, m75, m76, m77, m78, m79, m80, m81, m82, m83, m84, m85, m86, m87, m88, m89, m90, m91, .int 0, .int 0, m94, m95, m96, m97, m98, m99, m100, m101, m102, m103, m104, m105, m106, m107, m108, m109, .long 0, .long 0, .int 0, m113, m114, m115, m116, m117, m118, m119, m120, m121, m122])), (h1, .inl (cB, 1500, .inl (upd (upd (upd (upd f1 0 (vp_nar .byte y7)) 1 (vp_nar .byte y10)) 2 (vp_nar .byte y13)) 3 (vp_nar .byte y16))))] H := hP
  have hD : va_D A [(h0, .inr (16, [.int 0, m1, .ref h1, .int 5, .int 0, m5, m6, m7, m8, m9, m10, m11, m12, m13, m14, m15, m16, .null, m18, m19, m20, m21, m22, m23, m24, m25, m26, .int 0, m28, m29, .int 0, .int 0, .int 0, m33, m34, m35, .int 0, m37, m38, m39, m40, m41, m42, m43, m44, m45, m46, m47, m48, m49, .int 0, m51, m52, m53, m54, m55, m56, m57, m58, m59, m60, m61, m62, m63, m64, m65, m66, m67, m68, m69, m70, m71, m72, m73, m74, m75, m76, m77, m78, m79, m80, m81, m82, m83, m84, m85, m86, m87, m88, m89, m90, m91, .int 0, .int 0, m94, m95, m96, m97, m98, m99, m100, m101, m102, m103, m104, m105, m106, m107, m108, m109, .long 0, .long 0, .int 0, m113, m114, m115, m116, m117, m118, m119, m120, m121, m122])), (h1, .inl (cB, 1500, .inl (upd (upd (upd (upd f1 0 (vp_nar .byte y7)) 1 (vp_nar .byte y10)) 2 (vp_nar .byte y13)) 3 (vp_nar .byte y16))))] := hD
  refine lv_lload_n hx hb dX16_feed_6_69 rfl (lv_at hl 2 rfl) ?_
  refine lv_bipush (v := 8) hx hb dX16_feed_6_70 (by decide) ?_
  refine lv_iload hx hb dX16_feed_6_72 (lv_at hl 0 rfl) ?_
  refine lv_imul hx hb dX16_feed_6_74 ?_
  refine W.eq (g2 := F0 m 75 ls [.int 8, .long g1, .int 4, .ref h1]) rfl ?_
  refine lv_lshr (v := _) hx hb dX16_feed_6_75 rfl ?_
  refine lv_topl (fun y17 _ => ?_)
  refine lv_l2i (v := _) hx hb dX16_feed_6_76 rfl ?_
  refine lv_topi (fun y18 _ => ?_)
  refine lv_i2b (v := _) hx hb dX16_feed_6_77 rfl ?_
  refine lv_topi (fun y19 _ => ?_)
  refine va_bast hx hb hK hP hD hS 1 0 rfl rfl (by unfold vp_in; decide) dX16_feed_6_78 (fun H locs hP hD hS => ?_)
  have hP : va_P (dC, dI) vwCl [(h0, .inr (16, [.int 0, m1, .ref h1, .int 5, .int 0, m5, m6, m7, m8, m9, m10, m11, m12, m13, m14, m15, m16, .null, m18, m19, m20, m21, m22, m23, m24, m25, m26, .int 0, m28, m29, .int 0, .int 0, .int 0, m33, m34, m35, .int 0, m37, m38, m39, m40, m41, m42, m43, m44, m45, m46, m47, m48, m49, .int 0, m51, m52, m53, m54, m55, m56, m57, m58, m59, m60, m61, m62, m63, m64, m65, m66, m67, m68, m69, m70, m71, m72, m73, m74, m75, m76, m77, m78, m79, m80, m81, m82, m83, m84, m85, m86, m87, m88, m89, m90, m91, .int 0, .int 0, m94, m95, m96, m97, m98, m99, m100, m101, m102, m103, m104, m105, m106, m107, m108, m109, .long 0, .long 0, .int 0, m113, m114, m115, m116, m117, m118, m119, m120, m121, m122])), (h1, .inl (cB, 1500, .inl (upd (upd (upd (upd (upd f1 0 (vp_nar .byte y7)) 1 (vp_nar .byte y10)) 2 (vp_nar .byte y13)) 3 (vp_nar .byte y16)) 4 (vp_nar .byte y19))))] H := hP
  have hD : va_D A [(h0, .inr (16, [.int 0, m1, .ref h1, .int 5, .int 0, m5, m6, m7, m8, m9, m10, m11, m12, m13, m14, m15, m16, .null, m18, m19, m20, m21, m22, m23, m24, m25, m26, .int 0, m28, m29, .int 0, .int 0, .int 0, m33, m34, m35, .int 0, m37, m38, m39, m40, m41, m42, m43, m44, m45, m46, m47, m48, m49, .int 0, m51, m52, m53, m54, m55, m56, m57, m58, m59, m60, m61, m62, m63, m64, m65, m66, m67, m68, m69, m70, m71, m72, m73, m74, m75, m76, m77, m78, m79, m80, m81, m82, m83, m84, m85, m86, m87, m88, m89, m90, m91, .int 0, .int 0, m94, m95, m96, m97, m98, m99, m100, m101, m102, m103, m104, m105, m106, m107, m108, m109, .long 0, .long 0, .int 0, m113, m114, m115, m116, m117, m118, m119, m120, m121, m122])), (h1, .inl (cB, 1500, .inl (upd (upd (upd (upd (upd f1 0 (vp_nar .byte y7)) 1 (vp_nar .byte y10)) 2 (vp_nar .byte y13)) 3 (vp_nar .byte y16)) 4 (vp_nar .byte y19))))] := hD
  refine lv_iinc (k := 0) (v := 0) (lv' := [(4, .int 0), (0, .ref h0), (1, .long g1), (3, .int 6)]) hx hb dX16_feed_6_79 hl rfl (by decide) (by decide) rfl (fun ls hl => ?_)
  refine lv_goto (tgt := 42) hx hb dX16_feed_6_82 (by decide) ?_
  refine lv_iload hx hb dX16_feed_6_42 (lv_at hl 0 rfl) ?_
  refine lv_if_lt (tgt := 85) hx hb dX16_feed_6_44 (by decide) (fun h9 => absurd h9 (by decide)) (fun _ => ?_)
  refine lv_aload_n hx hb dX16_feed_6_47 rfl (lv_at hl 1 rfl) ?_
  refine va_get (D := (dC, dI)) (ci := 16) (v := .int 0) (C := RX16) (T := TX16) (N := 123) hx hb hts wh_X16_feed_6_X16 hown hK hP 0 rfl rfl 0 (by decide) (hts (.fieldLink RX16 1 "StreamHouseModel" "code" "I") (wm_X16_feed_6 5 rfl)) (fun _ h9 => h9) rfl dX16_feed_6_48 ?_
  refine lv_if_ne (tgt := 85) hx hb dX16_feed_6_51 (by decide) (fun h9 => absurd (by decide) h9) (fun _ => ?_)
  refine lv_aload_n hx hb dX16_feed_6_54 rfl (lv_at hl 1 rfl) ?_
  refine va_get (D := (dC, dI)) (ci := 16) (v := .ref h1) (C := RX16) (T := TX16) (N := 123) hx hb hts wh_X16_feed_6_X16 hown hK hP 0 rfl rfl 2 (by decide) (hts (.fieldLink RX16 20 "StreamHouseModel" "tape" "[B") (wm_X16_feed_6 6 rfl)) (fun _ h9 => h9) rfl dX16_feed_6_55 ?_
  refine lv_aload_n hx hb dX16_feed_6_58 rfl (lv_at hl 1 rfl) ?_
  refine lv_dup hx hb dX16_feed_6_59 rfl ?_
  refine va_get (D := (dC, dI)) (ci := 16) (v := .int 5) (C := RX16) (T := TX16) (N := 123) hx hb hts wh_X16_feed_6_X16 hown hK hP 0 rfl rfl 3 (by decide) (hts (.fieldLink RX16 972 "StreamHouseModel" "taped" "I") (wm_X16_feed_6 4 rfl)) (fun _ h9 => h9) rfl dX16_feed_6_60 ?_
  refine lv_dup_x1 hx hb dX16_feed_6_63 rfl rfl ?_
  refine lv_iconst (v := 1) hx hb dX16_feed_6_64 (by decide) ?_
  refine lv_iadd hx hb dX16_feed_6_65 ?_
  refine W.eq (g2 := F0 m 66 ls [.int 6, .ref h0, .int 5, .ref h1]) rfl ?_
  refine va_put (D := (dC, dI)) (ci := 16) (v := .int 6) (ty := .int) (C := RX16) (T := TX16) (N := 123) hx hb hts wh_X16_feed_6_X16 tyX16 tyX16_ok nmX16 hown hK hP hD hS 0 rfl rfl 3 (by decide) (hts (.fieldLink RX16 972 "StreamHouseModel" "taped" "I") (wm_X16_feed_6 4 rfl)) (fun _ h9 => h9) rfl (by decide +kernel) rfl rfl (Nat.le_of_ble_eq_true rfl) dX16_feed_6_66 (fun H locs hP hD hS => ?_)
  have hP : va_P (dC, dI) vwCl [(h0, .inr (16, [.int 0, m1, .ref h1, .int 6, .int 0, m5, m6, m7, m8, m9, m10, m11, m12, m13, m14, m15, m16, .null, m18, m19, m20, m21, m22, m23, m24, m25, m26, .int 0, m28, m29, .int 0, .int 0, .int 0, m33, m34, m35, .int 0, m37, m38, m39, m40, m41, m42, m43, m44, m45, m46, m47, m48, m49, .int 0, m51, m52, m53, m54, m55, m56, m57, m58, m59, m60, m61, m62, m63, m64, m65, m66, m67, m68, m69, m70, m71, m72, m73, m74, m75, m76, m77, m78, m79, m80, m81, m82, m83, m84, m85, m86, m87, m88, m89, m90, m91, .int 0, .int 0, m94, m95, m96, m97, m98, m99, m100, m101, m102, m103, m104, m105, m106, m107, m108, m109, .long 0, .long 0, .int 0, m113, m114, m115, m116, m117, m118, m119, m120, m121, m122])), (h1, .inl (cB, 1500, .inl (upd (upd (upd (upd (upd f1 0 (vp_nar .byte y7)) 1 (vp_nar .byte y10)) 2 (vp_nar .byte y13)) 3 (vp_nar .byte y16)) 4 (vp_nar .byte y19))))] H := hP
  have hD : va_D A [(h0, .inr (16, [.int 0, m1, .ref h1, .int 6, .int 0, m5, m6, m7, m8, m9, m10, m11, m12, m13, m14, m15, m16, .null, m18, m19, m20, m21, m22, m23, m24, m25, m26, .int 0, m28, m29, .int 0, .int 0, .int 0, m33, m34, m35, .int 0, m37, m38, m39, m40, m41, m42, m43, m44, m45, m46, m47, m48, m49, .int 0, m51, m52, m53, m54, m55, m56, m57, m58, m59, m60, m61, m62, m63, m64, m65, m66, m67, m68, m69, m70, m71, m72, m73, m74, m75, m76, m77, m78, m79, m80, m81, m82, m83, m84, m85, m86, m87, m88, m89, m90, m91, .int 0, .int 0, m94, m95, m96, m97, m98, m99, m100, m101, m102, m103, m104, m105, m106, m107, m108, m109, .long 0, .long 0, .int 0, m113, m114, m115, m116, m117, m118, m119, m120, m121, m122])), (h1, .inl (cB, 1500, .inl (upd (upd (upd (upd (upd f1 0 (vp_nar .byte y7)) 1 (vp_nar .byte y10)) 2 (vp_nar .byte y13)) 3 (vp_nar .byte y16)) 4 (vp_nar .byte y19))))] := hD
  refine lv_lload_n hx hb dX16_feed_6_69 rfl (lv_at hl 2 rfl) ?_
  refine lv_bipush (v := 8) hx hb dX16_feed_6_70 (by decide) ?_
  refine lv_iload hx hb dX16_feed_6_72 (lv_at hl 0 rfl) ?_
  refine lv_imul hx hb dX16_feed_6_74 ?_
  refine W.eq (g2 := F0 m 75 ls [.int 0, .long g1, .int 5, .ref h1]) rfl ?_
  refine lv_lshr (v := _) hx hb dX16_feed_6_75 rfl ?_
  refine lv_topl (fun y20 _ => ?_)
  refine lv_l2i (v := _) hx hb dX16_feed_6_76 rfl ?_
  refine lv_topi (fun y21 _ => ?_)
  refine lv_i2b (v := _) hx hb dX16_feed_6_77 rfl ?_
  refine lv_topi (fun y22 _ => ?_)
  refine va_bast hx hb hK hP hD hS 1 0 rfl rfl (by unfold vp_in; decide) dX16_feed_6_78 (fun H locs hP hD hS => ?_)
  have hP : va_P (dC, dI) vwCl [(h0, .inr (16, [.int 0, m1, .ref h1, .int 6, .int 0, m5, m6, m7, m8, m9, m10, m11, m12, m13, m14, m15, m16, .null, m18, m19, m20, m21, m22, m23, m24, m25, m26, .int 0, m28, m29, .int 0, .int 0, .int 0, m33, m34, m35, .int 0, m37, m38, m39, m40, m41, m42, m43, m44, m45, m46, m47, m48, m49, .int 0, m51, m52, m53, m54, m55, m56, m57, m58, m59, m60, m61, m62, m63, m64, m65, m66, m67, m68, m69, m70, m71, m72, m73, m74, m75, m76, m77, m78, m79, m80, m81, m82, m83, m84, m85, m86, m87, m88, m89, m90, m91, .int 0, .int 0, m94, m95, m96, m97, m98, m99, m100, m101, m102, m103, m104, m105, m106, m107, m108, m109, .long 0, .long 0, .int 0, m113, m114, m115, m116, m117, m118, m119, m120, m121, m122])), (h1, .inl (cB, 1500, .inl (upd (upd (upd (upd (upd (upd f1 0 (vp_nar .byte y7)) 1 (vp_nar .byte y10)) 2 (vp_nar .byte y13)) 3 (vp_nar .byte y16)) 4 (vp_nar .byte y19)) 5 (vp_nar .byte y22))))] H := hP
  have hD : va_D A [(h0, .inr (16, [.int 0, m1, .ref h1, .int 6, .int 0, m5, m6, m7, m8, m9, m10, m11, m12, m13, m14, m15, m16, .null, m18, m19, m20, m21, m22, m23, m24, m25, m26, .int 0, m28, m29, .int 0, .int 0, .int 0, m33, m34, m35, .int 0, m37, m38, m39, m40, m41, m42, m43, m44, m45, m46, m47, m48, m49, .int 0, m51, m52, m53, m54, m55, m56, m57, m58, m59, m60, m61, m62, m63, m64, m65, m66, m67, m68, m69, m70, m71, m72, m73, m74, m75, m76, m77, m78, m79, m80, m81, m82, m83, m84, m85, m86, m87, m88, m89, m90, m91, .int 0, .int 0, m94, m95, m96, m97, m98, m99, m100, m101, m102, m103, m104, m105, m106, m107, m108, m109, .long 0, .long 0, .int 0, m113, m114, m115, m116, m117, m118, m119, m120, m121, m122])), (h1, .inl (cB, 1500, .inl (upd (upd (upd (upd (upd (upd f1 0 (vp_nar .byte y7)) 1 (vp_nar .byte y10)) 2 (vp_nar .byte y13)) 3 (vp_nar .byte y16)) 4 (vp_nar .byte y19)) 5 (vp_nar .byte y22))))] := hD
  refine lv_iinc (k := 0) (v := (-1)) (lv' := [(4, .int ((-1))), (0, .ref h0), (1, .long g1), (3, .int 6)]) hx hb dX16_feed_6_79 hl rfl (by decide) (by decide) rfl (fun ls hl => ?_)
  refine lv_goto (tgt := 42) hx hb dX16_feed_6_82 (by decide) ?_
  refine lv_iload hx hb dX16_feed_6_42 (lv_at hl 0 rfl) ?_
  refine lv_if_lt (tgt := 85) hx hb dX16_feed_6_44 (by decide) (fun _ => ?_) (fun h9 => absurd (by decide) h9)
  refine lv_aload_n hx hb dX16_feed_6_85 rfl (lv_at hl 1 rfl) ?_
  refine va_get (D := (dC, dI)) (ci := 16) (v := .int 0) (C := RX16) (T := TX16) (N := 123) hx hb hts wh_X16_feed_6_X16 hown hK hP 0 rfl rfl 0 (by decide) (hts (.fieldLink RX16 1 "StreamHouseModel" "code" "I") (wm_X16_feed_6 5 rfl)) (fun _ h9 => h9) rfl dX16_feed_6_86 ?_
  refine lv_if_le (tgt := 96) hx hb dX16_feed_6_89 (by decide) (fun _ => ?_) (fun h9 => absurd (by decide) h9)
  refine lv_aload_n hx hb dX16_feed_6_96 rfl (lv_at hl 1 rfl) ?_
  refine va_get (D := (dC, dI)) (ci := 16) (v := .int 6) (C := RX16) (T := TX16) (N := 123) hx hb hts wh_X16_feed_6_X16 hown hK hP 0 rfl rfl 3 (by decide) (hts (.fieldLink RX16 972 "StreamHouseModel" "taped" "I") (wm_X16_feed_6 4 rfl)) (fun _ h9 => h9) rfl dX16_feed_6_97 ?_
  have hP9 := hP.sub (ws' := [(h0, .inr (16, [.int 0, m1, .ref h1, .int 6, .int 0, m5, m6, m7, m8, m9, m10, m11, m12, m13, m14, m15, m16, .null, m18, m19, m20, m21, m22, m23, m24, m25, m26, .int 0, m28, m29, .int 0, .int 0, .int 0, m33, m34, m35, .int 0, m37, m38, m39, m40, m41, m42, m43, m44, m45, m46, m47, m48, m49, .int 0, m51, m52, m53, m54, m55, m56, m57, m58, m59, m60, m61, m62, m63, m64, m65, m66, m67, m68, m69, m70, m71, m72, m73, m74, m75, m76, m77, m78, m79, m80, m81, m82, m83, m84, m85, m86, m87, m88, m89, m90, m91, .int 0, .int 0, m94, m95, m96, m97, m98, m99, m100, m101, m102, m103, m104, m105, m106, m107, m108, m109, .long 0, .long 0, .int 0, m113, m114, m115, m116, m117, m118, m119, m120, m121, m122]))]) [0] rfl
  have hD9 := hD.sub (ws' := [(h0, .inr (16, [.int 0, m1, .ref h1, .int 6, .int 0, m5, m6, m7, m8, m9, m10, m11, m12, m13, m14, m15, m16, .null, m18, m19, m20, m21, m22, m23, m24, m25, m26, .int 0, m28, m29, .int 0, .int 0, .int 0, m33, m34, m35, .int 0, m37, m38, m39, m40, m41, m42, m43, m44, m45, m46, m47, m48, m49, .int 0, m51, m52, m53, m54, m55, m56, m57, m58, m59, m60, m61, m62, m63, m64, m65, m66, m67, m68, m69, m70, m71, m72, m73, m74, m75, m76, m77, m78, m79, m80, m81, m82, m83, m84, m85, m86, m87, m88, m89, m90, m91, .int 0, .int 0, m94, m95, m96, m97, m98, m99, m100, m101, m102, m103, m104, m105, m106, m107, m108, m109, .long 0, .long 0, .int 0, m113, m114, m115, m116, m117, m118, m119, m120, m121, m122]))]) [0] (by decide) rfl
  have hK9 := hK.sub (tys' := []) [] rfl
  refine W.widen (k := 0) (n := 0) (by decide) (by decide) ?_
  exact W.iret (v := 6) hx hb hr (fun t ht hW => ⟨⟨6, (), rfl, rfl, by rw [ht]; exact hP9, va_K.moved hW.alike hK9, hD9⟩, hS.F ht⟩) hS.2.2 dX16_feed_6_100

abbrev ar_X16_feed_7 (dC : Nat → ClassId) (dI : Nat → Nat → Nat) (A : Nat → Prop) (h0 h1 : Nat) (g1 : Int64) (cB : ClassId) (f1 : Nat → Int32) (m0 m1 m5 m6 m7 m8 m9 m10 m11 m12 m13 m14 m15 m16 m18 m19 m20 m21 m22 m23 m24 m25 m26 m28 m29 m33 m34 m35 m37 m38 m39 m40 m41 m42 m43 m44 m45 m46 m47 m48 m49 m51 m52 m53 m54 m55 m56 m57 m58 m59 m60 m61 m62 m63 m64 m65 m66 m67 m68 m69 m70 m71 m72 m73 m74 m75 m76 m77 m78 m79 m80 m81 m82 m83 m84 m85 m86 m87 m88 m89 m90 m91 m94 m95 m96 m97 m98 m99 m100 m101 m102 m103 m104 m105 m106 m107 m108 m109 m113 m114 m115 m116 m117 m118 m119 m120 m121 m122 : Value) (_ : Unit) (t : State) : Prop := va_P (dC, dI) vwCl [(h0, .inr (16, [.int 0, m1, .ref h1, .int 7, .int 0, m5, m6, m7, m8, m9, m10, m11, m12, m13, m14, m15, m16, .null, m18, m19, m20, m21, m22, m23, m24, m25, m26, .int 0, m28, m29, .int 0, .int 0, .int 0, m33, m34, m35, .int 0, m37, m38, m39, m40, m41, m42, m43, m44, m45, m46, m47, m48, m49, .int 0, m51, m52, m53, m54, m55, m56, m57, m58, m59, m60, m61, m62, m63, m64, m65, m66, m67, m68, m69, m70, m71, m72, m73, m74, m75, m76, m77, m78, m79, m80, m81, m82, m83, m84, m85, m86, m87, m88, m89, m90, m91, .int 0, .int 0, m94, m95, m96, m97, m98, m99, m100, m101, m102, m103, m104, m105, m106, m107, m108, m109, .long 0, .long 0, .int 0, m113, m114, m115, m116, m117, m118, m119, m120, m121, m122]))] t.heap ∧ va_K (dC, dI) vwCl [] t ∧ va_D A [(h0, .inr (16, [.int 0, m1, .ref h1, .int 7, .int 0, m5, m6, m7, m8, m9, m10, m11, m12, m13, m14, m15, m16, .null, m18, m19, m20, m21, m22, m23, m24, m25, m26, .int 0, m28, m29, .int 0, .int 0, .int 0, m33, m34, m35, .int 0, m37, m38, m39, m40, m41, m42, m43, m44, m45, m46, m47, m48, m49, .int 0, m51, m52, m53, m54, m55, m56, m57, m58, m59, m60, m61, m62, m63, m64, m65, m66, m67, m68, m69, m70, m71, m72, m73, m74, m75, m76, m77, m78, m79, m80, m81, m82, m83, m84, m85, m86, m87, m88, m89, m90, m91, .int 0, .int 0, m94, m95, m96, m97, m98, m99, m100, m101, m102, m103, m104, m105, m106, m107, m108, m109, .long 0, .long 0, .int 0, m113, m114, m115, m116, m117, m118, m119, m120, m121, m122]))]
theorem dX16_feed_7_0 : decode cX16_feed 0 = .ok (.aload_n 0, 1) := by decide +kernel
theorem dX16_feed_7_1 : decode cX16_feed 1 = .ok (.iload_n 3, 1) := by decide +kernel
theorem dX16_feed_7_2 : decode cX16_feed 2 = .ok (.i2l, 1) := by decide +kernel
theorem dX16_feed_7_3 : decode cX16_feed 3 = .ok (.lconst 1, 1) := by decide +kernel
theorem dX16_feed_7_4 : decode cX16_feed 4 = .ok (.ldc2_w 250, 3) := by decide +kernel
theorem dX16_feed_7_7 : decode cX16_feed 7 = .ok (.invokestatic 45, 3) := by decide +kernel
theorem dX16_feed_7_10 : decode cX16_feed 10 = .ok (.ifCond .ne 7, 3) := by decide +kernel
theorem dX16_feed_7_17 : decode cX16_feed 17 = .ok (.aload_n 0, 1) := by decide +kernel
theorem dX16_feed_7_18 : decode cX16_feed 18 = .ok (.getfield 972, 3) := by decide +kernel
theorem dX16_feed_7_21 : decode cX16_feed 21 = .ok (.iload_n 3, 1) := by decide +kernel
theorem dX16_feed_7_22 : decode cX16_feed 22 = .ok (.iadd, 1) := by decide +kernel
theorem dX16_feed_7_23 : decode cX16_feed 23 = .ok (.sipush 1500, 3) := by decide +kernel
theorem dX16_feed_7_26 : decode cX16_feed 26 = .ok (.if_icmp .le 7, 3) := by decide +kernel
theorem dX16_feed_7_33 : decode cX16_feed 33 = .ok (.iconst 0, 1) := by decide +kernel
theorem dX16_feed_7_34 : decode cX16_feed 34 = .ok (.putfield 1, 3) := by decide +kernel
theorem dX16_feed_7_37 : decode cX16_feed 37 = .ok (.iload_n 3, 1) := by decide +kernel
theorem dX16_feed_7_38 : decode cX16_feed 38 = .ok (.iconst 1, 1) := by decide +kernel
theorem dX16_feed_7_39 : decode cX16_feed 39 = .ok (.isub, 1) := by decide +kernel
theorem dX16_feed_7_40 : decode cX16_feed 40 = .ok (.istore 4, 2) := by decide +kernel
theorem dX16_feed_7_42 : decode cX16_feed 42 = .ok (.iload 4, 2) := by decide +kernel
theorem dX16_feed_7_44 : decode cX16_feed 44 = .ok (.ifCond .lt 41, 3) := by decide +kernel
theorem dX16_feed_7_47 : decode cX16_feed 47 = .ok (.aload_n 0, 1) := by decide +kernel
theorem dX16_feed_7_48 : decode cX16_feed 48 = .ok (.getfield 1, 3) := by decide +kernel
theorem dX16_feed_7_51 : decode cX16_feed 51 = .ok (.ifCond .ne 34, 3) := by decide +kernel
theorem dX16_feed_7_54 : decode cX16_feed 54 = .ok (.aload_n 0, 1) := by decide +kernel
theorem dX16_feed_7_55 : decode cX16_feed 55 = .ok (.getfield 20, 3) := by decide +kernel
theorem dX16_feed_7_58 : decode cX16_feed 58 = .ok (.aload_n 0, 1) := by decide +kernel
theorem dX16_feed_7_59 : decode cX16_feed 59 = .ok (.dup, 1) := by decide +kernel
theorem dX16_feed_7_60 : decode cX16_feed 60 = .ok (.getfield 972, 3) := by decide +kernel
theorem dX16_feed_7_63 : decode cX16_feed 63 = .ok (.dup_x1, 1) := by decide +kernel
theorem dX16_feed_7_64 : decode cX16_feed 64 = .ok (.iconst 1, 1) := by decide +kernel
theorem dX16_feed_7_65 : decode cX16_feed 65 = .ok (.iadd, 1) := by decide +kernel
theorem dX16_feed_7_66 : decode cX16_feed 66 = .ok (.putfield 972, 3) := by decide +kernel
theorem dX16_feed_7_69 : decode cX16_feed 69 = .ok (.lload_n 1, 1) := by decide +kernel
theorem dX16_feed_7_70 : decode cX16_feed 70 = .ok (.bipush 8, 2) := by decide +kernel
theorem dX16_feed_7_72 : decode cX16_feed 72 = .ok (.iload 4, 2) := by decide +kernel
theorem dX16_feed_7_74 : decode cX16_feed 74 = .ok (.imul, 1) := by decide +kernel
theorem dX16_feed_7_75 : decode cX16_feed 75 = .ok (.lshr, 1) := by decide +kernel
theorem dX16_feed_7_76 : decode cX16_feed 76 = .ok (.l2i, 1) := by decide +kernel
theorem dX16_feed_7_77 : decode cX16_feed 77 = .ok (.i2b, 1) := by decide +kernel
theorem dX16_feed_7_78 : decode cX16_feed 78 = .ok (.bastore, 1) := by decide +kernel
theorem dX16_feed_7_79 : decode cX16_feed 79 = .ok (.iinc 4 (-1), 3) := by decide +kernel
theorem dX16_feed_7_82 : decode cX16_feed 82 = .ok (.goto (-40), 3) := by decide +kernel
theorem dX16_feed_7_85 : decode cX16_feed 85 = .ok (.aload_n 0, 1) := by decide +kernel
theorem dX16_feed_7_86 : decode cX16_feed 86 = .ok (.getfield 1, 3) := by decide +kernel
theorem dX16_feed_7_89 : decode cX16_feed 89 = .ok (.ifCond .le 7, 3) := by decide +kernel
theorem dX16_feed_7_96 : decode cX16_feed 96 = .ok (.aload_n 0, 1) := by decide +kernel
theorem dX16_feed_7_97 : decode cX16_feed 97 = .ok (.getfield 972, 3) := by decide +kernel
theorem dX16_feed_7_100 : decode cX16_feed 100 = .ok (.ireturn, 1) := by decide +kernel
def ww_X16_feed_7 : List Cond := [.constantLong RX16 250 8, .initialized RX16, .methodLink RX16 45 yX16_within, .static yX16_within, .fieldLink RX16 972 "StreamHouseModel" "taped" "I", .fieldLink RX16 1 "StreamHouseModel" "code" "I", .fieldLink RX16 20 "StreamHouseModel" "tape" "[B"]
def wv_X16_feed_7 : List Cond := .code yX16_feed cX16_feed 5 (some .int) :: (ww_X16_feed_7 ++ (wv_X16_within_1 ++ (u_ws RX16 TX16 123 ++ [])))
theorem wm_X16_feed_7 {w : Cond} (i : Nat) (h : ww_X16_feed_7[i]? = some w) : w ∈ wv_X16_feed_7 := List.mem_cons_of_mem _ (List.mem_append_left _ (List.mem_of_getElem? h))
set_option maxRecDepth 100000 in
theorem gw_X16_feed_7 : wv_X16_feed_7.all goodWord = true := by decide +kernel
theorem wg_X16_feed_7_X16_within_1 : GoodIn wv_X16_feed_7 wv_X16_within_1 := goodIn_sub (fun w h => List.mem_cons_of_mem _ (List.mem_append_right _ (List.mem_append_left _ h))) gw_X16_within_1
theorem wt_X16_feed_7_X16_within_1 : GoodIn wv_X16_feed_7 (va_wsS RX16 45 yX16_within wv_X16_within_1) := goodIn_app (goodIn_sub (fun w h => by simp only [List.mem_cons, List.not_mem_nil, or_false] at h; rcases h with rfl | rfl | rfl <;> first | exact wm_X16_feed_7 2 rfl | exact wm_X16_feed_7 3 rfl | exact wm_X16_feed_7 1 rfl) (by decide +kernel)) wg_X16_feed_7_X16_within_1
theorem wh_X16_feed_7_X16 : ∀ w ∈ u_ws RX16 TX16 123, w ∈ wv_X16_feed_7 := fun w h => List.mem_cons_of_mem _ (List.mem_append_right _ (List.mem_append_right _ (List.mem_append_left _ h)))
set_option maxHeartbeats 4000000 in
set_option maxRecDepth 100000 in
/-- feed(g, 7) of the fresh reference -/
theorem r_X16_feed_7 (l : Launch) (dC : Nat → ClassId) (dI : Nat → Nat → Nat) (h0 h1 : Nat) (g1 : Int64) (cB : ClassId) (f1 : Nat → Int32) (m0 m1 m5 m6 m7 m8 m9 m10 m11 m12 m13 m14 m15 m16 m18 m19 m20 m21 m22 m23 m24 m25 m26 m28 m29 m33 m34 m35 m37 m38 m39 m40 m41 m42 m43 m44 m45 m46 m47 m48 m49 m51 m52 m53 m54 m55 m56 m57 m58 m59 m60 m61 m62 m63 m64 m65 m66 m67 m68 m69 m70 m71 m72 m73 m74 m75 m76 m77 m78 m79 m80 m81 m82 m83 m84 m85 m86 m87 m88 m89 m90 m91 m94 m95 m96 m97 m98 m99 m100 m101 m102 m103 m104 m105 m106 m107 m108 m109 m113 m114 m115 m116 m117 m118 m119 m120 m121 m122 : Value) (sz : Nat) : Met l yX16_feed wv_X16_feed_7 ({ frames := 1, cells := 0, slots := 0, locals := 25 }) (va_Pc [.ref h0, .long g1, .int 7] (fun U => U.heap.size = sz ∧ va_P (dC, dI) vwCl [(h0, .inr (16, [m0, m1, .ref h1, .int 0, .int 0, m5, m6, m7, m8, m9, m10, m11, m12, m13, m14, m15, m16, .null, m18, m19, m20, m21, m22, m23, m24, m25, m26, .int 0, m28, m29, .int 0, .int 0, .int 0, m33, m34, m35, .int 0, m37, m38, m39, m40, m41, m42, m43, m44, m45, m46, m47, m48, m49, .int 0, m51, m52, m53, m54, m55, m56, m57, m58, m59, m60, m61, m62, m63, m64, m65, m66, m67, m68, m69, m70, m71, m72, m73, m74, m75, m76, m77, m78, m79, m80, m81, m82, m83, m84, m85, m86, m87, m88, m89, m90, m91, .int 0, .int 0, m94, m95, m96, m97, m98, m99, m100, m101, m102, m103, m104, m105, m106, m107, m108, m109, .long 0, .long 0, .int 0, m113, m114, m115, m116, m117, m118, m119, m120, m121, m122])), (h1, .inl (cB, 1500, .inl f1))] U.heap ∧ va_K (dC, dI) vwCl [(cB, .byte)] U ∧ va_D (fun _ => True) [(h0, .inr (16, [m0, m1, .ref h1, .int 0, .int 0, m5, m6, m7, m8, m9, m10, m11, m12, m13, m14, m15, m16, .null, m18, m19, m20, m21, m22, m23, m24, m25, m26, .int 0, m28, m29, .int 0, .int 0, .int 0, m33, m34, m35, .int 0, m37, m38, m39, m40, m41, m42, m43, m44, m45, m46, m47, m48, m49, .int 0, m51, m52, m53, m54, m55, m56, m57, m58, m59, m60, m61, m62, m63, m64, m65, m66, m67, m68, m69, m70, m71, m72, m73, m74, m75, m76, m77, m78, m79, m80, m81, m82, m83, m84, m85, m86, m87, m88, m89, m90, m91, .int 0, .int 0, m94, m95, m96, m97, m98, m99, m100, m101, m102, m103, m104, m105, m106, m107, m108, m109, .long 0, .long 0, .int 0, m113, m114, m115, m116, m117, m118, m119, m120, m121, m122])), (h1, .inl (cB, 1500, .inl f1))])) (va_Qi (fun r (_ : Unit) => r = 7) (ar_X16_feed_7 dC dI (va_A [(h0, .inr (16, [m0, m1, .ref h1, .int 0, .int 0, m5, m6, m7, m8, m9, m10, m11, m12, m13, m14, m15, m16, .null, m18, m19, m20, m21, m22, m23, m24, m25, m26, .int 0, m28, m29, .int 0, .int 0, .int 0, m33, m34, m35, .int 0, m37, m38, m39, m40, m41, m42, m43, m44, m45, m46, m47, m48, m49, .int 0, m51, m52, m53, m54, m55, m56, m57, m58, m59, m60, m61, m62, m63, m64, m65, m66, m67, m68, m69, m70, m71, m72, m73, m74, m75, m76, m77, m78, m79, m80, m81, m82, m83, m84, m85, m86, m87, m88, m89, m90, m91, .int 0, .int 0, m94, m95, m96, m97, m98, m99, m100, m101, m102, m103, m104, m105, m106, m107, m108, m109, .long 0, .long 0, .int 0, m113, m114, m115, m116, m117, m118, m119, m120, m121, m122])), (h1, .inl (cB, 1500, .inl f1))] sz) h0 h1 g1 cB f1 m0 m1 m5 m6 m7 m8 m9 m10 m11 m12 m13 m14 m15 m16 m18 m19 m20 m21 m22 m23 m24 m25 m26 m28 m29 m33 m34 m35 m37 m38 m39 m40 m41 m42 m43 m44 m45 m46 m47 m48 m49 m51 m52 m53 m54 m55 m56 m57 m58 m59 m60 m61 m62 m63 m64 m65 m66 m67 m68 m69 m70 m71 m72 m73 m74 m75 m76 m77 m78 m79 m80 m81 m82 m83 m84 m85 m86 m87 m88 m89 m90 m91 m94 m95 m96 m97 m98 m99 m100 m101 m102 m103 m104 m105 m106 m107 m108 m109 m113 m114 m115 m116 m117 m118 m119 m120 m121 m122) (va_A [(h0, .inr (16, [m0, m1, .ref h1, .int 0, .int 0, m5, m6, m7, m8, m9, m10, m11, m12, m13, m14, m15, m16, .null, m18, m19, m20, m21, m22, m23, m24, m25, m26, .int 0, m28, m29, .int 0, .int 0, .int 0, m33, m34, m35, .int 0, m37, m38, m39, m40, m41, m42, m43, m44, m45, m46, m47, m48, m49, .int 0, m51, m52, m53, m54, m55, m56, m57, m58, m59, m60, m61, m62, m63, m64, m65, m66, m67, m68, m69, m70, m71, m72, m73, m74, m75, m76, m77, m78, m79, m80, m81, m82, m83, m84, m85, m86, m87, m88, m89, m90, m91, .int 0, .int 0, m94, m95, m96, m97, m98, m99, m100, m101, m102, m103, m104, m105, m106, m107, m108, m109, .long 0, .long 0, .int 0, m113, m114, m115, m116, m117, m118, m119, m120, m121, m122])), (h1, .inl (cB, 1500, .inl f1))] sz)) 0 0 (va_A [(h0, .inr (16, [m0, m1, .ref h1, .int 0, .int 0, m5, m6, m7, m8, m9, m10, m11, m12, m13, m14, m15, m16, .null, m18, m19, m20, m21, m22, m23, m24, m25, m26, .int 0, m28, m29, .int 0, .int 0, .int 0, m33, m34, m35, .int 0, m37, m38, m39, m40, m41, m42, m43, m44, m45, m46, m47, m48, m49, .int 0, m51, m52, m53, m54, m55, m56, m57, m58, m59, m60, m61, m62, m63, m64, m65, m66, m67, m68, m69, m70, m71, m72, m73, m74, m75, m76, m77, m78, m79, m80, m81, m82, m83, m84, m85, m86, m87, m88, m89, m90, m91, .int 0, .int 0, m94, m95, m96, m97, m98, m99, m100, m101, m102, m103, m104, m105, m106, m107, m108, m109, .long 0, .long 0, .int 0, m113, m114, m115, m116, m117, m118, m119, m120, m121, m122])), (h1, .inl (cB, 1500, .inl f1))] sz) := by
  refine Met.ofW (cc := cX16_feed) (maxL := 5) (ret := (some .int)) (by decide) rfl ?_
  intro p e s m args below meth c s₁ B hml hv
  obtain ⟨rfl, hsz, hP, hK, hD0⟩ := hv
  have hx := B.exec
  have hb := B.bytes
  have hr := B.returns
  have hts := atoms_spec (ws := wv_X16_feed_7) B.pre
  have hown : s.vm.findClass RX16 = some m.cls := findClass_of_methodNamed B.named
  have hlocks := B.notSynchronized
  subst hsz
  have hD := hD0.self (sz := s.heap.size)
  generalize hAe : va_A [(h0, .inr (16, [m0, m1, .ref h1, .int 0, .int 0, m5, m6, m7, m8, m9, m10, m11, m12, m13, m14, m15, m16, .null, m18, m19, m20, m21, m22, m23, m24, m25, m26, .int 0, m28, m29, .int 0, .int 0, .int 0, m33, m34, m35, .int 0, m37, m38, m39, m40, m41, m42, m43, m44, m45, m46, m47, m48, m49, .int 0, m51, m52, m53, m54, m55, m56, m57, m58, m59, m60, m61, m62, m63, m64, m65, m66, m67, m68, m69, m70, m71, m72, m73, m74, m75, m76, m77, m78, m79, m80, m81, m82, m83, m84, m85, m86, m87, m88, m89, m90, m91, .int 0, .int 0, m94, m95, m96, m97, m98, m99, m100, m101, m102, m103, m104, m105, m106, m107, m108, m109, .long 0, .long 0, .int 0, m113, m114, m115, m116, m117, m118, m119, m120, m121, m122])), (h1, .inl (cB, 1500, .inl f1))] s.heap.size = A at hD ⊢
  have hA : ∀ q : Nat, s.heap.size ≤ q → A q := fun q h => by rw [← hAe]; exact Or.inr h
  have hS : va_S A s.heap s.heap [] := va_S.rf
  have hP : va_P (dC, dI) vwCl [(h0, .inr (16, [m0, m1, .ref h1, .int 0, .int 0, m5, m6, m7, m8, m9, m10, m11, m12, m13, m14, m15, m16, .null, m18, m19, m20, m21, m22, m23, m24, m25, m26, .int 0, m28, m29, .int 0, .int 0, .int 0, m33, m34, m35, .int 0, m37, m38, m39, m40, m41, m42, m43, m44, m45, m46, m47, m48, m49, .int 0, m51, m52, m53, m54, m55, m56, m57, m58, m59, m60, m61, m62, m63, m64, m65, m66, m67, m68, m69, m70, m71, m72, m73, m74, m75, m76, m77, m78, m79, m80, m81, m82, m83, m84, m85, m86, m87, m88, m89, m90, m91, .int 0, .int 0, m94, m95, m96, m97, m98, m99, m100, m101, m102, m103, m104, m105, m106, m107, m108, m109, .long 0, .long 0, .int 0, m113, m114, m115, m116, m117, m118, m119, m120, m121, m122])), (h1, .inl (cB, 1500, .inl f1))] s.heap := hP
  have hl := lv_entry ([.ref h0, .long g1, .int 7]) (n := 5) (Nat.le_of_ble_eq_true rfl)
  rw [lg_entry_eq]
  generalize (lg_sl ([.ref h0, .long g1, .int 7]) ++ List.replicate (5 - (lg_sl ([.ref h0, .long g1, .int 7])).length) Slot.unset).toArray = ls at hl ⊢
  have hl : lv_has ls 5 [(0, .ref h0), (1, .long g1), (3, .int 7)] := hl
  refine lv_aload_n hx hb dX16_feed_7_0 rfl (lv_at hl 0 rfl) ?_
  refine lv_iload_n hx hb dX16_feed_7_1 rfl (lv_at hl 2 rfl) ?_
  refine lv_i2l (v := 7) hx hb dX16_feed_7_2 (by decide) ?_
  refine lv_lconst (v := 1) hx hb dX16_feed_7_3 (by decide) ?_
  refine lv_ldc2 hx hb hown (hts (.constantLong RX16 250 8) (wm_X16_feed_7 0 rfl)) dX16_feed_7_4 ?_
  have hPc := hP.sub (ws' := []) [] rfl
  have hDc := hD.sub (ws' := []) [] (by decide) rfl
  have hKc := hK.sub (tys' := []) [] rfl
  have hFc := va_free (wc := []) hD hS hA [] rfl
  have h_1 : 0 ≤ 0 := by decide
  have h_2 : 0 ≤ 0 := by decide
  refine va_calli (va_runS (As := [.long 7, .long 1, .long 8]) (rest := [.ref h0]) ⟨hx, hb, hml, hown, hts⟩ (r_X16_within_1 l dC dI 7 1 8 _) (va_cwS 3 hts wt_X16_feed_7_X16_within_1 rfl rfl rfl (by decide +kernel) ⟨Nat.le_of_ble_eq_true rfl, Nat.le_of_ble_eq_true rfl⟩) ⟨fun a U g mk q => by obtain ⟨q0, q1, qP, qK, qD, qp⟩ := q; exact ⟨q0, q1, qP, va_K.moved (u := U) (U := U.calling g mk a) (Vm.Alike.refl U.vm) qK, qD, qp⟩, fun U hU hW => ⟨rfl, by rw [hU], by rw [hU]; exact hPc, va_K.moved hW.alike hKc, hDc.weaken (fun _ _ _ _ => trivial), ⟨by decide, by decide⟩⟩⟩ rfl rfl hl.1 rfl (lv_room (Nat.le_of_ble_eq_true rfl)) dX16_feed_7_7 ⟨h_1, h_2⟩) hS (fun q _ h => hFc q h) hFc (fun y4 u3 t H1 locs ht hvm hw hB hz1 hk1 hS => ?_)
  obtain ⟨hP1, hK1, hD1⟩ := hB
  rw [ht] at hP1
  have hK1 := va_K.moved hvm.symm hK1
  obtain ⟨hP, hD⟩ := va_join (wr := [(h0, .inr (16, [m0, m1, .ref h1, .int 0, .int 0, m5, m6, m7, m8, m9, m10, m11, m12, m13, m14, m15, m16, .null, m18, m19, m20, m21, m22, m23, m24, m25, m26, .int 0, m28, m29, .int 0, .int 0, .int 0, m33, m34, m35, .int 0, m37, m38, m39, m40, m41, m42, m43, m44, m45, m46, m47, m48, m49, .int 0, m51, m52, m53, m54, m55, m56, m57, m58, m59, m60, m61, m62, m63, m64, m65, m66, m67, m68, m69, m70, m71, m72, m73, m74, m75, m76, m77, m78, m79, m80, m81, m82, m83, m84, m85, m86, m87, m88, m89, m90, m91, .int 0, .int 0, m94, m95, m96, m97, m98, m99, m100, m101, m102, m103, m104, m105, m106, m107, m108, m109, .long 0, .long 0, .int 0, m113, m114, m115, m116, m117, m118, m119, m120, m121, m122])), (h1, .inl (cB, 1500, .inl f1))]) (w1 := []) hP hD [] [0, 1] rfl rfl (by decide) (by decide) hk1 hFc hP1 hD1
  have hK := (hK.sub (tys' := [(cB, .byte)]) [0] rfl).app hK1
  generalize H1 = H at hP hS ⊢
  have hP : va_P (dC, dI) vwCl [(h0, .inr (16, [m0, m1, .ref h1, .int 0, .int 0, m5, m6, m7, m8, m9, m10, m11, m12, m13, m14, m15, m16, .null, m18, m19, m20, m21, m22, m23, m24, m25, m26, .int 0, m28, m29, .int 0, .int 0, .int 0, m33, m34, m35, .int 0, m37, m38, m39, m40, m41, m42, m43, m44, m45, m46, m47, m48, m49, .int 0, m51, m52, m53, m54, m55, m56, m57, m58, m59, m60, m61, m62, m63, m64, m65, m66, m67, m68, m69, m70, m71, m72, m73, m74, m75, m76, m77, m78, m79, m80, m81, m82, m83, m84, m85, m86, m87, m88, m89, m90, m91, .int 0, .int 0, m94, m95, m96, m97, m98, m99, m100, m101, m102, m103, m104, m105, m106, m107, m108, m109, .long 0, .long 0, .int 0, m113, m114, m115, m116, m117, m118, m119, m120, m121, m122])), (h1, .inl (cB, 1500, .inl f1))] H := hP
  have hD : va_D A [(h0, .inr (16, [m0, m1, .ref h1, .int 0, .int 0, m5, m6, m7, m8, m9, m10, m11, m12, m13, m14, m15, m16, .null, m18, m19, m20, m21, m22, m23, m24, m25, m26, .int 0, m28, m29, .int 0, .int 0, .int 0, m33, m34, m35, .int 0, m37, m38, m39, m40, m41, m42, m43, m44, m45, m46, m47, m48, m49, .int 0, m51, m52, m53, m54, m55, m56, m57, m58, m59, m60, m61, m62, m63, m64, m65, m66, m67, m68, m69, m70, m71, m72, m73, m74, m75, m76, m77, m78, m79, m80, m81, m82, m83, m84, m85, m86, m87, m88, m89, m90, m91, .int 0, .int 0, m94, m95, m96, m97, m98, m99, m100, m101, m102, m103, m104, m105, m106, m107, m108, m109, .long 0, .long 0, .int 0, m113, m114, m115, m116, m117, m118, m119, m120, m121, m122])), (h1, .inl (cB, 1500, .inl f1))] := hD
  have hK : va_K (dC, dI) vwCl [(cB, .byte)] s := hK
  refine W.widen (k := 0) (n := 0) (by decide) (by decide) ?_
  have hw : y4 = 1 := hw
  subst hw
  refine lv_if_ne (tgt := 17) hx hb dX16_feed_7_10 (by decide) (fun _ => ?_) (fun h9 => absurd h9 (by decide))
  refine lv_aload_n hx hb dX16_feed_7_17 rfl (lv_at hl 0 rfl) ?_
  refine va_get (D := (dC, dI)) (ci := 16) (v := .int 0) (C := RX16) (T := TX16) (N := 123) hx hb hts wh_X16_feed_7_X16 hown hK hP 0 rfl rfl 3 (by decide) (hts (.fieldLink RX16 972 "StreamHouseModel" "taped" "I") (wm_X16_feed_7 4 rfl)) (fun _ h9 => h9) rfl dX16_feed_7_18 ?_
  refine lv_iload_n hx hb dX16_feed_7_21 rfl (lv_at hl 2 rfl) ?_
  refine lv_iadd hx hb dX16_feed_7_22 ?_
  refine W.eq (g2 := F0 m 23 ls [.int 7, .ref h0]) rfl ?_
  refine lv_sipush (v := 1500) hx hb dX16_feed_7_23 (by decide) ?_
  refine lv_icmp_le (tgt := 33) hx hb dX16_feed_7_26 (by decide) (fun _ => ?_) (fun h9 => absurd (by decide) h9)
  refine lv_iconst (v := 0) hx hb dX16_feed_7_33 (by decide) ?_
  refine va_put (D := (dC, dI)) (ci := 16) (v := .int 0) (ty := .int) (C := RX16) (T := TX16) (N := 123) hx hb hts wh_X16_feed_7_X16 tyX16 tyX16_ok nmX16 hown hK hP hD hS 0 rfl rfl 0 (by decide) (hts (.fieldLink RX16 1 "StreamHouseModel" "code" "I") (wm_X16_feed_7 5 rfl)) (fun _ h9 => h9) rfl (by decide +kernel) rfl rfl (Nat.le_of_ble_eq_true rfl) dX16_feed_7_34 (fun H locs hP hD hS => ?_)
  have hP : va_P (dC, dI) vwCl [(h0, .inr (16, [.int 0, m1, .ref h1, .int 0, .int 0, m5, m6, m7, m8, m9, m10, m11, m12, m13, m14, m15, m16, .null, m18, m19, m20, m21, m22, m23, m24, m25, m26, .int 0, m28, m29, .int 0, .int 0, .int 0, m33, m34, m35, .int 0, m37, m38, m39, m40, m41, m42, m43, m44, m45, m46, m47, m48, m49, .int 0, m51, m52, m53, m54, m55, m56, m57, m58, m59, m60, m61, m62, m63, m64, m65, m66, m67, m68, m69, m70, m71, m72, m73, m74, m75, m76, m77, m78, m79, m80, m81, m82, m83, m84, m85, m86, m87, m88, m89, m90, m91, .int 0, .int 0, m94, m95, m96, m97, m98, m99, m100, m101, m102, m103, m104, m105, m106, m107, m108, m109, .long 0, .long 0, .int 0, m113, m114, m115, m116, m117, m118, m119, m120, m121, m122])), (h1, .inl (cB, 1500, .inl f1))] H := hP
  have hD : va_D A [(h0, .inr (16, [.int 0, m1, .ref h1, .int 0, .int 0, m5, m6, m7, m8, m9, m10, m11, m12, m13, m14, m15, m16, .null, m18, m19, m20, m21, m22, m23, m24, m25, m26, .int 0, m28, m29, .int 0, .int 0, .int 0, m33, m34, m35, .int 0, m37, m38, m39, m40, m41, m42, m43, m44, m45, m46, m47, m48, m49, .int 0, m51, m52, m53, m54, m55, m56, m57, m58, m59, m60, m61, m62, m63, m64, m65, m66, m67, m68, m69, m70, m71, m72, m73, m74, m75, m76, m77, m78, m79, m80, m81, m82, m83, m84, m85, m86, m87, m88, m89, m90, m91, .int 0, .int 0, m94, m95, m96, m97, m98, m99, m100, m101, m102, m103, m104, m105, m106, m107, m108, m109, .long 0, .long 0, .int 0, m113, m114, m115, m116, m117, m118, m119, m120, m121, m122])), (h1, .inl (cB, 1500, .inl f1))] := hD
  refine lv_iload_n hx hb dX16_feed_7_37 rfl (lv_at hl 2 rfl) ?_
  refine lv_iconst (v := 1) hx hb dX16_feed_7_38 (by decide) ?_
  refine lv_isub hx hb dX16_feed_7_39 ?_
  refine W.eq (g2 := F0 m 40 ls [.int 6]) rfl ?_
  refine lv_istore (lv' := [(4, .int 6), (0, .ref h0), (1, .long g1), (3, .int 7)]) hx hb dX16_feed_7_40 hl (by decide) rfl (fun ls hl => ?_)
  refine lv_iload hx hb dX16_feed_7_42 (lv_at hl 0 rfl) ?_
  refine lv_if_lt (tgt := 85) hx hb dX16_feed_7_44 (by decide) (fun h9 => absurd h9 (by decide)) (fun _ => ?_)
  refine lv_aload_n hx hb dX16_feed_7_47 rfl (lv_at hl 1 rfl) ?_
  refine va_get (D := (dC, dI)) (ci := 16) (v := .int 0) (C := RX16) (T := TX16) (N := 123) hx hb hts wh_X16_feed_7_X16 hown hK hP 0 rfl rfl 0 (by decide) (hts (.fieldLink RX16 1 "StreamHouseModel" "code" "I") (wm_X16_feed_7 5 rfl)) (fun _ h9 => h9) rfl dX16_feed_7_48 ?_
  refine lv_if_ne (tgt := 85) hx hb dX16_feed_7_51 (by decide) (fun h9 => absurd (by decide) h9) (fun _ => ?_)
  refine lv_aload_n hx hb dX16_feed_7_54 rfl (lv_at hl 1 rfl) ?_
  refine va_get (D := (dC, dI)) (ci := 16) (v := .ref h1) (C := RX16) (T := TX16) (N := 123) hx hb hts wh_X16_feed_7_X16 hown hK hP 0 rfl rfl 2 (by decide) (hts (.fieldLink RX16 20 "StreamHouseModel" "tape" "[B") (wm_X16_feed_7 6 rfl)) (fun _ h9 => h9) rfl dX16_feed_7_55 ?_
  refine lv_aload_n hx hb dX16_feed_7_58 rfl (lv_at hl 1 rfl) ?_
  refine lv_dup hx hb dX16_feed_7_59 rfl ?_
  refine va_get (D := (dC, dI)) (ci := 16) (v := .int 0) (C := RX16) (T := TX16) (N := 123) hx hb hts wh_X16_feed_7_X16 hown hK hP 0 rfl rfl 3 (by decide) (hts (.fieldLink RX16 972 "StreamHouseModel" "taped" "I") (wm_X16_feed_7 4 rfl)) (fun _ h9 => h9) rfl dX16_feed_7_60 ?_
  refine lv_dup_x1 hx hb dX16_feed_7_63 rfl rfl ?_
  refine lv_iconst (v := 1) hx hb dX16_feed_7_64 (by decide) ?_
  refine lv_iadd hx hb dX16_feed_7_65 ?_
  refine W.eq (g2 := F0 m 66 ls [.int 1, .ref h0, .int 0, .ref h1]) rfl ?_
  refine va_put (D := (dC, dI)) (ci := 16) (v := .int 1) (ty := .int) (C := RX16) (T := TX16) (N := 123) hx hb hts wh_X16_feed_7_X16 tyX16 tyX16_ok nmX16 hown hK hP hD hS 0 rfl rfl 3 (by decide) (hts (.fieldLink RX16 972 "StreamHouseModel" "taped" "I") (wm_X16_feed_7 4 rfl)) (fun _ h9 => h9) rfl (by decide +kernel) rfl rfl (Nat.le_of_ble_eq_true rfl) dX16_feed_7_66 (fun H locs hP hD hS => ?_)
  have hP : va_P (dC, dI) vwCl [(h0, .inr (16, [.int 0, m1, .ref h1, .int 1, .int 0, m5, m6, m7, m8, m9, m10, m11, m12, m13, m14, m15, m16, .null, m18, m19, m20, m21, m22, m23, m24, m25, m26, .int 0, m28, m29, .int 0, .int 0, .int 0, m33, m34, m35, .int 0, m37, m38, m39, m40, m41, m42, m43, m44, m45, m46, m47, m48, m49, .int 0, m51, m52, m53, m54, m55, m56, m57, m58, m59, m60, m61, m62, m63, m64, m65, m66, m67, m68, m69, m70, m71, m72, m73, m74, m75, m76, m77, m78, m79, m80, m81, m82, m83, m84, m85, m86, m87, m88, m89, m90, m91, .int 0, .int 0, m94, m95, m96, m97, m98, m99, m100, m101, m102, m103, m104, m105, m106, m107, m108, m109, .long 0, .long 0, .int 0, m113, m114, m115, m116, m117, m118, m119, m120, m121, m122])), (h1, .inl (cB, 1500, .inl f1))] H := hP
  have hD : va_D A [(h0, .inr (16, [.int 0, m1, .ref h1, .int 1, .int 0, m5, m6, m7, m8, m9, m10, m11, m12, m13, m14, m15, m16, .null, m18, m19, m20, m21, m22, m23, m24, m25, m26, .int 0, m28, m29, .int 0, .int 0, .int 0, m33, m34, m35, .int 0, m37, m38, m39, m40, m41, m42, m43, m44, m45, m46, m47, m48, m49, .int 0, m51, m52, m53, m54, m55, m56, m57, m58, m59, m60, m61, m62, m63, m64, m65, m66, m67, m68, m69, m70, m71, m72, m73, m74, m75, m76, m77, m78, m79, m80, m81, m82, m83, m84, m85, m86, m87, m88, m89, m90, m91, .int 0, .int 0, m94, m95, m96, m97, m98, m99, m100, m101, m102, m103, m104, m105, m106, m107, m108, m109, .long 0, .long 0, .int 0, m113, m114, m115, m116, m117, m118, m119, m120, m121, m122])), (h1, .inl (cB, 1500, .inl f1))] := hD
  refine lv_lload_n hx hb dX16_feed_7_69 rfl (lv_at hl 2 rfl) ?_
  refine lv_bipush (v := 8) hx hb dX16_feed_7_70 (by decide) ?_
  refine lv_iload hx hb dX16_feed_7_72 (lv_at hl 0 rfl) ?_
  refine lv_imul hx hb dX16_feed_7_74 ?_
  refine W.eq (g2 := F0 m 75 ls [.int 48, .long g1, .int 0, .ref h1]) rfl ?_
  refine lv_lshr (v := _) hx hb dX16_feed_7_75 rfl ?_
  refine lv_topl (fun y5 _ => ?_)
  refine lv_l2i (v := _) hx hb dX16_feed_7_76 rfl ?_
  refine lv_topi (fun y6 _ => ?_)
  refine lv_i2b (v := _) hx hb dX16_feed_7_77 rfl ?_
  refine lv_topi (fun y7 _ => ?_)
  refine va_bast hx hb hK hP hD hS 1 0 rfl rfl (by unfold vp_in; decide) dX16_feed_7_78 (fun H locs hP hD hS => ?_)
  have hP : va_P (dC, dI) vwCl [(h0, .inr (16, [.int 0, m1, .ref h1, .int 1, .int 0, m5, m6, m7, m8, m9, m10, m11, m12, m13, m14, m15, m16, .null, m18, m19, m20, m21, m22, m23, m24, m25, m26, .int 0, m28, m29, .int 0, .int 0, .int 0, m33, m34, m35, .int 0, m37, m38, m39, m40, m41, m42, m43, m44, m45, m46, m47, m48, m49, .int 0, m51, m52, m53, m54, m55, m56, m57, m58, m59, m60, m61, m62, m63, m64, m65, m66, m67, m68, m69, m70, m71, m72, m73, m74, m75, m76, m77, m78, m79, m80, m81, m82, m83, m84, m85, m86, m87, m88, m89, m90, m91, .int 0, .int 0, m94, m95, m96, m97, m98, m99, m100, m101, m102, m103, m104, m105, m106, m107, m108, m109, .long 0, .long 0, .int 0, m113, m114, m115, m116, m117, m118, m119, m120, m121, m122])), (h1, .inl (cB, 1500, .inl (upd f1 0 (vp_nar .byte y7))))] H := hP
  have hD : va_D A [(h0, .inr (16, [.int 0, m1, .ref h1, .int 1, .int 0, m5, m6, m7, m8, m9, m10, m11, m12, m13, m14, m15, m16, .null, m18, m19, m20, m21, m22, m23, m24, m25, m26, .int 0, m28, m29, .int 0, .int 0, .int 0, m33, m34, m35, .int 0, m37, m38, m39, m40, m41, m42, m43, m44, m45, m46, m47, m48, m49, .int 0, m51, m52, m53, m54, m55, m56, m57, m58, m59, m60, m61, m62, m63, m64, m65, m66, m67, m68, m69, m70, m71, m72, m73, m74, m75, m76, m77, m78, m79, m80, m81, m82, m83, m84, m85, m86, m87, m88, m89, m90, m91, .int 0, .int 0, m94, m95, m96, m97, m98, m99, m100, m101, m102, m103, m104, m105, m106, m107, m108, m109, .long 0, .long 0, .int 0, m113, m114, m115, m116, m117, m118, m119, m120, m121, m122])), (h1, .inl (cB, 1500, .inl (upd f1 0 (vp_nar .byte y7))))] := hD
  refine lv_iinc (k := 0) (v := 5) (lv' := [(4, .int 5), (0, .ref h0), (1, .long g1), (3, .int 7)]) hx hb dX16_feed_7_79 hl rfl (by decide) (by decide) rfl (fun ls hl => ?_)
  refine lv_goto (tgt := 42) hx hb dX16_feed_7_82 (by decide) ?_
  refine lv_iload hx hb dX16_feed_7_42 (lv_at hl 0 rfl) ?_
  refine lv_if_lt (tgt := 85) hx hb dX16_feed_7_44 (by decide) (fun h9 => absurd h9 (by decide)) (fun _ => ?_)
  refine lv_aload_n hx hb dX16_feed_7_47 rfl (lv_at hl 1 rfl) ?_
  refine va_get (D := (dC, dI)) (ci := 16) (v := .int 0) (C := RX16) (T := TX16) (N := 123) hx hb hts wh_X16_feed_7_X16 hown hK hP 0 rfl rfl 0 (by decide) (hts (.fieldLink RX16 1 "StreamHouseModel" "code" "I") (wm_X16_feed_7 5 rfl)) (fun _ h9 => h9) rfl dX16_feed_7_48 ?_
  refine lv_if_ne (tgt := 85) hx hb dX16_feed_7_51 (by decide) (fun h9 => absurd (by decide) h9) (fun _ => ?_)
  refine lv_aload_n hx hb dX16_feed_7_54 rfl (lv_at hl 1 rfl) ?_
  refine va_get (D := (dC, dI)) (ci := 16) (v := .ref h1) (C := RX16) (T := TX16) (N := 123) hx hb hts wh_X16_feed_7_X16 hown hK hP 0 rfl rfl 2 (by decide) (hts (.fieldLink RX16 20 "StreamHouseModel" "tape" "[B") (wm_X16_feed_7 6 rfl)) (fun _ h9 => h9) rfl dX16_feed_7_55 ?_
  refine lv_aload_n hx hb dX16_feed_7_58 rfl (lv_at hl 1 rfl) ?_
  refine lv_dup hx hb dX16_feed_7_59 rfl ?_
  refine va_get (D := (dC, dI)) (ci := 16) (v := .int 1) (C := RX16) (T := TX16) (N := 123) hx hb hts wh_X16_feed_7_X16 hown hK hP 0 rfl rfl 3 (by decide) (hts (.fieldLink RX16 972 "StreamHouseModel" "taped" "I") (wm_X16_feed_7 4 rfl)) (fun _ h9 => h9) rfl dX16_feed_7_60 ?_
  refine lv_dup_x1 hx hb dX16_feed_7_63 rfl rfl ?_
  refine lv_iconst (v := 1) hx hb dX16_feed_7_64 (by decide) ?_
  refine lv_iadd hx hb dX16_feed_7_65 ?_
  refine W.eq (g2 := F0 m 66 ls [.int 2, .ref h0, .int 1, .ref h1]) rfl ?_
  refine va_put (D := (dC, dI)) (ci := 16) (v := .int 2) (ty := .int) (C := RX16) (T := TX16) (N := 123) hx hb hts wh_X16_feed_7_X16 tyX16 tyX16_ok nmX16 hown hK hP hD hS 0 rfl rfl 3 (by decide) (hts (.fieldLink RX16 972 "StreamHouseModel" "taped" "I") (wm_X16_feed_7 4 rfl)) (fun _ h9 => h9) rfl (by decide +kernel) rfl rfl (Nat.le_of_ble_eq_true rfl) dX16_feed_7_66 (fun H locs hP hD hS => ?_)
  have hP : va_P (dC, dI) vwCl [(h0, .inr (16, [.int 0, m1, .ref h1, .int 2, .int 0, m5, m6, m7, m8, m9, m10, m11, m12, m13, m14, m15, m16, .null, m18, m19, m20, m21, m22, m23, m24, m25, m26, .int 0, m28, m29, .int 0, .int 0, .int 0, m33, m34, m35, .int 0, m37, m38, m39, m40, m41, m42, m43, m44, m45, m46, m47, m48, m49, .int 0, m51, m52, m53, m54, m55, m56, m57, m58, m59, m60, m61, m62, m63, m64, m65, m66, m67, m68, m69, m70, m71, m72, m73, m74, m75, m76, m77, m78, m79, m80, m81, m82, m83, m84, m85, m86, m87, m88, m89, m90, m91, .int 0, .int 0, m94, m95, m96, m97, m98, m99, m100, m101, m102, m103, m104, m105, m106, m107, m108, m109, .long 0, .long 0, .int 0, m113, m114, m115, m116, m117, m118, m119, m120, m121, m122])), (h1, .inl (cB, 1500, .inl (upd f1 0 (vp_nar .byte y7))))] H := hP
  have hD : va_D A [(h0, .inr (16, [.int 0, m1, .ref h1, .int 2, .int 0, m5, m6, m7, m8, m9, m10, m11, m12, m13, m14, m15, m16, .null, m18, m19, m20, m21, m22, m23, m24, m25, m26, .int 0, m28, m29, .int 0, .int 0, .int 0, m33, m34, m35, .int 0, m37, m38, m39, m40, m41, m42, m43, m44, m45, m46, m47, m48, m49, .int 0, m51, m52, m53, m54, m55, m56, m57, m58, m59, m60, m61, m62, m63, m64, m65, m66, m67, m68, m69, m70, m71, m72, m73, m74, m75, m76, m77, m78, m79, m80, m81, m82, m83, m84, m85, m86, m87, m88, m89, m90, m91, .int 0, .int 0, m94, m95, m96, m97, m98, m99, m100, m101, m102, m103, m104, m105, m106, m107, m108, m109, .long 0, .long 0, .int 0, m113, m114, m115, m116, m117, m118, m119, m120, m121, m122])), (h1, .inl (cB, 1500, .inl (upd f1 0 (vp_nar .byte y7))))] := hD
  refine lv_lload_n hx hb dX16_feed_7_69 rfl (lv_at hl 2 rfl) ?_
  refine lv_bipush (v := 8) hx hb dX16_feed_7_70 (by decide) ?_
  refine lv_iload hx hb dX16_feed_7_72 (lv_at hl 0 rfl) ?_
  refine lv_imul hx hb dX16_feed_7_74 ?_
  refine W.eq (g2 := F0 m 75 ls [.int 40, .long g1, .int 1, .ref h1]) rfl ?_
  refine lv_lshr (v := _) hx hb dX16_feed_7_75 rfl ?_
  refine lv_topl (fun y8 _ => ?_)
  refine lv_l2i (v := _) hx hb dX16_feed_7_76 rfl ?_
  refine lv_topi (fun y9 _ => ?_)
  refine lv_i2b (v := _) hx hb dX16_feed_7_77 rfl ?_
  refine lv_topi (fun y10 _ => ?_)
  refine va_bast hx hb hK hP hD hS 1 0 rfl rfl (by unfold vp_in; decide) dX16_feed_7_78 (fun H locs hP hD hS => ?_)
  have hP : va_P (dC, dI) vwCl [(h0, .inr (16, [.int 0, m1, .ref h1, .int 2, .int 0, m5, m6, m7, m8, m9, m10, m11, m12, m13, m14, m15, m16, .null, m18, m19, m20, m21, m22, m23, m24, m25, m26, .int 0, m28, m29, .int 0, .int 0, .int 0, m33, m34, m35, .int 0, m37, m38, m39, m40, m41, m42, m43, m44, m45, m46, m47, m48, m49, .int 0, m51, m52, m53, m54, m55, m56, m57, m58, m59, m60, m61, m62, m63, m64, m65, m66, m67, m68, m69, m70, m71, m72, m73, m74, m75, m76, m77, m78, m79, m80, m81, m82, m83, m84, m85, m86, m87, m88, m89, m90, m91, .int 0, .int 0, m94, m95, m96, m97, m98, m99, m100, m101, m102, m103, m104, m105, m106, m107, m108, m109, .long 0, .long 0, .int 0, m113, m114, m115, m116, m117, m118, m119, m120, m121, m122])), (h1, .inl (cB, 1500, .inl (upd (upd f1 0 (vp_nar .byte y7)) 1 (vp_nar .byte y10))))] H := hP
  have hD : va_D A [(h0, .inr (16, [.int 0, m1, .ref h1, .int 2, .int 0, m5, m6, m7, m8, m9, m10, m11, m12, m13, m14, m15, m16, .null, m18, m19, m20, m21, m22, m23, m24, m25, m26, .int 0, m28, m29, .int 0, .int 0, .int 0, m33, m34, m35, .int 0, m37, m38, m39, m40, m41, m42, m43, m44, m45, m46, m47, m48, m49, .int 0, m51, m52, m53, m54, m55, m56, m57, m58, m59, m60, m61, m62, m63, m64, m65, m66, m67, m68, m69, m70, m71, m72, m73, m74, m75, m76, m77, m78, m79, m80, m81, m82, m83, m84, m85, m86, m87, m88, m89, m90, m91, .int 0, .int 0, m94, m95, m96, m97, m98, m99, m100, m101, m102, m103, m104, m105, m106, m107, m108, m109, .long 0, .long 0, .int 0, m113, m114, m115, m116, m117, m118, m119, m120, m121, m122])), (h1, .inl (cB, 1500, .inl (upd (upd f1 0 (vp_nar .byte y7)) 1 (vp_nar .byte y10))))] := hD
  refine lv_iinc (k := 0) (v := 4) (lv' := [(4, .int 4), (0, .ref h0), (1, .long g1), (3, .int 7)]) hx hb dX16_feed_7_79 hl rfl (by decide) (by decide) rfl (fun ls hl => ?_)
  refine lv_goto (tgt := 42) hx hb dX16_feed_7_82 (by decide) ?_
  refine lv_iload hx hb dX16_feed_7_42 (lv_at hl 0 rfl) ?_
  refine lv_if_lt (tgt := 85) hx hb dX16_feed_7_44 (by decide) (fun h9 => absurd h9 (by decide)) (fun _ => ?_)
  refine lv_aload_n hx hb dX16_feed_7_47 rfl (lv_at hl 1 rfl) ?_
  refine va_get (D := (dC, dI)) (ci := 16) (v := .int 0) (C := RX16) (T := TX16) (N := 123) hx hb hts wh_X16_feed_7_X16 hown hK hP 0 rfl rfl 0 (by decide) (hts (.fieldLink RX16 1 "StreamHouseModel" "code" "I") (wm_X16_feed_7 5 rfl)) (fun _ h9 => h9) rfl dX16_feed_7_48 ?_
  refine lv_if_ne (tgt := 85) hx hb dX16_feed_7_51 (by decide) (fun h9 => absurd (by decide) h9) (fun _ => ?_)
  refine lv_aload_n hx hb dX16_feed_7_54 rfl (lv_at hl 1 rfl) ?_
  refine va_get (D := (dC, dI)) (ci := 16) (v := .ref h1) (C := RX16) (T := TX16) (N := 123) hx hb hts wh_X16_feed_7_X16 hown hK hP 0 rfl rfl 2 (by decide) (hts (.fieldLink RX16 20 "StreamHouseModel" "tape" "[B") (wm_X16_feed_7 6 rfl)) (fun _ h9 => h9) rfl dX16_feed_7_55 ?_
  refine lv_aload_n hx hb dX16_feed_7_58 rfl (lv_at hl 1 rfl) ?_
  refine lv_dup hx hb dX16_feed_7_59 rfl ?_
  refine va_get (D := (dC, dI)) (ci := 16) (v := .int 2) (C := RX16) (T := TX16) (N := 123) hx hb hts wh_X16_feed_7_X16 hown hK hP 0 rfl rfl 3 (by decide) (hts (.fieldLink RX16 972 "StreamHouseModel" "taped" "I") (wm_X16_feed_7 4 rfl)) (fun _ h9 => h9) rfl dX16_feed_7_60 ?_
  refine lv_dup_x1 hx hb dX16_feed_7_63 rfl rfl ?_
  refine lv_iconst (v := 1) hx hb dX16_feed_7_64 (by decide) ?_
  refine lv_iadd hx hb dX16_feed_7_65 ?_
  refine W.eq (g2 := F0 m 66 ls [.int 3, .ref h0, .int 2, .ref h1]) rfl ?_
  refine va_put (D := (dC, dI)) (ci := 16) (v := .int 3) (ty := .int) (C := RX16) (T := TX16) (N := 123) hx hb hts wh_X16_feed_7_X16 tyX16 tyX16_ok nmX16 hown hK hP hD hS 0 rfl rfl 3 (by decide) (hts (.fieldLink RX16 972 "StreamHouseModel" "taped" "I") (wm_X16_feed_7 4 rfl)) (fun _ h9 => h9) rfl (by decide +kernel) rfl rfl (Nat.le_of_ble_eq_true rfl) dX16_feed_7_66 (fun H locs hP hD hS => ?_)
  have hP : va_P (dC, dI) vwCl [(h0, .inr (16, [.int 0, m1, .ref h1, .int 3, .int 0, m5, m6, m7, m8, m9, m10, m11, m12, m13, m14, m15, m16, .null, m18, m19, m20, m21, m22, m23, m24, m25, m26, .int 0, m28, m29, .int 0, .int 0, .int 0, m33, m34, m35, .int 0, m37, m38, m39, m40, m41, m42, m43, m44, m45, m46, m47, m48, m49, .int 0, m51, m52, m53, m54, m55, m56, m57, m58, m59, m60, m61, m62, m63, m64, m65, m66, m67, m68, m69, m70, m71, m72, m73, m74, m75, m76, m77, m78, m79, m80, m81, m82, m83, m84, m85, m86, m87, m88, m89, m90, m91, .int 0, .int 0, m94, m95, m96, m97, m98, m99, m100, m101, m102, m103, m104, m105, m106, m107, m108, m109, .long 0, .long 0, .int 0, m113, m114, m115, m116, m117, m118, m119, m120, m121, m122])), (h1, .inl (cB, 1500, .inl (upd (upd f1 0 (vp_nar .byte y7)) 1 (vp_nar .byte y10))))] H := hP
  have hD : va_D A [(h0, .inr (16, [.int 0, m1, .ref h1, .int 3, .int 0, m5, m6, m7, m8, m9, m10, m11, m12, m13, m14, m15, m16, .null, m18, m19, m20, m21, m22, m23, m24, m25, m26, .int 0, m28, m29, .int 0, .int 0, .int 0, m33, m34, m35, .int 0, m37, m38, m39, m40, m41, m42, m43, m44, m45, m46, m47, m48, m49, .int 0, m51, m52, m53, m54, m55, m56, m57, m58, m59, m60, m61, m62, m63, m64, m65, m66, m67, m68, m69, m70, m71, m72, m73, m74, m75, m76, m77, m78, m79, m80, m81, m82, m83, m84, m85, m86, m87, m88, m89, m90, m91, .int 0, .int 0, m94, m95, m96, m97, m98, m99, m100, m101, m102, m103, m104, m105, m106, m107, m108, m109, .long 0, .long 0, .int 0, m113, m114, m115, m116, m117, m118, m119, m120, m121, m122])), (h1, .inl (cB, 1500, .inl (upd (upd f1 0 (vp_nar .byte y7)) 1 (vp_nar .byte y10))))] := hD
  refine lv_lload_n hx hb dX16_feed_7_69 rfl (lv_at hl 2 rfl) ?_
  refine lv_bipush (v := 8) hx hb dX16_feed_7_70 (by decide) ?_
  refine lv_iload hx hb dX16_feed_7_72 (lv_at hl 0 rfl) ?_
  refine lv_imul hx hb dX16_feed_7_74 ?_
  refine W.eq (g2 := F0 m 75 ls [.int 32, .long g1, .int 2, .ref h1]) rfl ?_
  refine lv_lshr (v := _) hx hb dX16_feed_7_75 rfl ?_
  refine lv_topl (fun y11 _ => ?_)
  refine lv_l2i (v := _) hx hb dX16_feed_7_76 rfl ?_
  refine lv_topi (fun y12 _ => ?_)
  refine lv_i2b (v := _) hx hb dX16_feed_7_77 rfl ?_
  refine lv_topi (fun y13 _ => ?_)
  refine va_bast hx hb hK hP hD hS 1 0 rfl rfl (by unfold vp_in; decide) dX16_feed_7_78 (fun H locs hP hD hS => ?_)
  have hP : va_P (dC, dI) vwCl [(h0, .inr (16, [.int 0, m1, .ref h1, .int 3, .int 0, m5, m6, m7, m8, m9, m10, m11, m12, m13, m14, m15, m16, .null, m18, m19, m20, m21, m22, m23, m24, m25, m26, .int 0, m28, m29, .int 0, .int 0, .int 0, m33, m34, m35, .int 0, m37, m38, m39, m40, m41, m42, m43, m44, m45, m46, m47, m48, m49, .int 0, m51, m52, m53, m54, m55, m56, m57, m58, m59, m60, m61, m62, m63, m64, m65, m66, m67, m68, m69, m70, m71, m72, m73, m74, m75, m76, m77, m78, m79, m80, m81, m82, m83, m84, m85, m86, m87, m88, m89, m90, m91, .int 0, .int 0, m94, m95, m96, m97, m98, m99, m100, m101, m102, m103, m104, m105, m106, m107, m108, m109, .long 0, .long 0, .int 0, m113, m114, m115, m116, m117, m118, m119, m120, m121, m122])), (h1, .inl (cB, 1500, .inl (upd (upd (upd f1 0 (vp_nar .byte y7)) 1 (vp_nar .byte y10)) 2 (vp_nar .byte y13))))] H := hP
  have hD : va_D A [(h0, .inr (16, [.int 0, m1, .ref h1, .int 3, .int 0, m5, m6, m7, m8, m9, m10, m11, m12, m13, m14, m15, m16, .null, m18, m19, m20, m21, m22, m23, m24, m25, m26, .int 0, m28, m29, .int 0, .int 0, .int 0, m33, m34, m35, .int 0, m37, m38, m39, m40, m41, m42, m43, m44, m45, m46, m47, m48, m49, .int 0, m51, m52, m53, m54, m55, m56, m57, m58, m59, m60, m61, m62, m63, m64, m65, m66, m67, m68, m69, m70, m71, m72, m73, m74, m75, m76, m77, m78, m79, m80, m81, m82, m83, m84, m85, m86, m87, m88, m89, m90, m91, .int 0, .int 0, m94, m95, m96, m97, m98, m99, m100, m101, m102, m103, m104, m105, m106, m107, m108, m109, .long 0, .long 0, .int 0, m113, m114, m115, m116, m117, m118, m119, m120, m121, m122])), (h1, .inl (cB, 1500, .inl (upd (upd (upd f1 0 (vp_nar .byte y7)) 1 (vp_nar .byte y10)) 2 (vp_nar .byte y13))))] := hD
  refine lv_iinc (k := 0) (v := 3) (lv' := [(4, .int 3), (0, .ref h0), (1, .long g1), (3, .int 7)]) hx hb dX16_feed_7_79 hl rfl (by decide) (by decide) rfl (fun ls hl => ?_)
  refine lv_goto (tgt := 42) hx hb dX16_feed_7_82 (by decide) ?_
  refine lv_iload hx hb dX16_feed_7_42 (lv_at hl 0 rfl) ?_
  refine lv_if_lt (tgt := 85) hx hb dX16_feed_7_44 (by decide) (fun h9 => absurd h9 (by decide)) (fun _ => ?_)
  refine lv_aload_n hx hb dX16_feed_7_47 rfl (lv_at hl 1 rfl) ?_
  refine va_get (D := (dC, dI)) (ci := 16) (v := .int 0) (C := RX16) (T := TX16) (N := 123) hx hb hts wh_X16_feed_7_X16 hown hK hP 0 rfl rfl 0 (by decide) (hts (.fieldLink RX16 1 "StreamHouseModel" "code" "I") (wm_X16_feed_7 5 rfl)) (fun _ h9 => h9) rfl dX16_feed_7_48 ?_
  refine lv_if_ne (tgt := 85) hx hb dX16_feed_7_51 (by decide) (fun h9 => absurd (by decide) h9) (fun _ => ?_)
  refine lv_aload_n hx hb dX16_feed_7_54 rfl (lv_at hl 1 rfl) ?_
  refine va_get (D := (dC, dI)) (ci := 16) (v := .ref h1) (C := RX16) (T := TX16) (N := 123) hx hb hts wh_X16_feed_7_X16 hown hK hP 0 rfl rfl 2 (by decide) (hts (.fieldLink RX16 20 "StreamHouseModel" "tape" "[B") (wm_X16_feed_7 6 rfl)) (fun _ h9 => h9) rfl dX16_feed_7_55 ?_
  refine lv_aload_n hx hb dX16_feed_7_58 rfl (lv_at hl 1 rfl) ?_
  refine lv_dup hx hb dX16_feed_7_59 rfl ?_
  refine va_get (D := (dC, dI)) (ci := 16) (v := .int 3) (C := RX16) (T := TX16) (N := 123) hx hb hts wh_X16_feed_7_X16 hown hK hP 0 rfl rfl 3 (by decide) (hts (.fieldLink RX16 972 "StreamHouseModel" "taped" "I") (wm_X16_feed_7 4 rfl)) (fun _ h9 => h9) rfl dX16_feed_7_60 ?_
  refine lv_dup_x1 hx hb dX16_feed_7_63 rfl rfl ?_
  refine lv_iconst (v := 1) hx hb dX16_feed_7_64 (by decide) ?_
  refine lv_iadd hx hb dX16_feed_7_65 ?_
  refine W.eq (g2 := F0 m 66 ls [.int 4, .ref h0, .int 3, .ref h1]) rfl ?_
  refine va_put (D := (dC, dI)) (ci := 16) (v := .int 4) (ty := .int) (C := RX16) (T := TX16) (N := 123) hx hb hts wh_X16_feed_7_X16 tyX16 tyX16_ok nmX16 hown hK hP hD hS 0 rfl rfl 3 (by decide) (hts (.fieldLink RX16 972 "StreamHouseModel" "taped" "I") (wm_X16_feed_7 4 rfl)) (fun _ h9 => h9) rfl (by decide +kernel) rfl rfl (Nat.le_of_ble_eq_true rfl) dX16_feed_7_66 (fun H locs hP hD hS => ?_)
  have hP : va_P (dC, dI) vwCl [(h0, .inr (16, [.int 0, m1, .ref h1, .int 4, .int 0, m5, m6, m7, m8, m9, m10, m11, m12, m13, m14, m15, m16, .null, m18, m19, m20, m21, m22, m23, m24, m25, m26, .int 0, m28, m29, .int 0, .int 0, .int 0, m33, m34, m35, .int 0, m37, m38, m39, m40, m41, m42, m43, m44, m45, m46, m47, m48, m49, .int 0, m51, m52, m53, m54, m55, m56, m57, m58, m59, m60, m61, m62, m63, m64, m65, m66, m67, m68, m69, m70, m71, m72, m73, m74, m75, m76, m77, m78, m79, m80, m81, m82, m83, m84, m85, m86, m87, m88, m89, m90, m91, .int 0, .int 0, m94, m95, m96, m97, m98, m99, m100, m101, m102, m103, m104, m105, m106, m107, m108, m109, .long 0, .long 0, .int 0, m113, m114, m115, m116, m117, m118, m119, m120, m121, m122])), (h1, .inl (cB, 1500, .inl (upd (upd (upd f1 0 (vp_nar .byte y7)) 1 (vp_nar .byte y10)) 2 (vp_nar .byte y13))))] H := hP
  have hD : va_D A [(h0, .inr (16, [.int 0, m1, .ref h1, .int 4, .int 0, m5, m6, m7, m8, m9, m10, m11, m12, m13, m14, m15, m16, .null, m18, m19, m20, m21, m22, m23, m24, m25, m26, .int 0, m28, m29, .int 0, .int 0, .int 0, m33, m34, m35, .int 0, m37, m38, m39, m40, m41, m42, m43, m44, m45, m46, m47, m48, m49, .int 0, m51, m52, m53, m54, m55, m56, m57, m58, m59, m60, m61, m62, m63, m64, m65, m66, m67, m68, m69, m70, m71, m72, m73, m74, m75, m76, m77, m78, m79, m80, m81, m82, m83, m84, m85, m86, m87, m88, m89, m90, m91, .int 0, .int 0, m94, m95, m96, m97, m98, m99, m100, m101, m102, m103, m104, m105, m106, m107, m108, m109, .long 0, .long 0, .int 0, m113, m114, m115, m116, m117, m118, m119, m120, m121, m122])), (h1, .inl (cB, 1500, .inl (upd (upd (upd f1 0 (vp_nar .byte y7)) 1 (vp_nar .byte y10)) 2 (vp_nar .byte y13))))] := hD
  refine lv_lload_n hx hb dX16_feed_7_69 rfl (lv_at hl 2 rfl) ?_
  refine lv_bipush (v := 8) hx hb dX16_feed_7_70 (by decide) ?_
  refine lv_iload hx hb dX16_feed_7_72 (lv_at hl 0 rfl) ?_
  refine lv_imul hx hb dX16_feed_7_74 ?_
  refine W.eq (g2 := F0 m 75 ls [.int 24, .long g1, .int 3, .ref h1]) rfl ?_
  refine lv_lshr (v := _) hx hb dX16_feed_7_75 rfl ?_
  refine lv_topl (fun y14 _ => ?_)
  refine lv_l2i (v := _) hx hb dX16_feed_7_76 rfl ?_
  refine lv_topi (fun y15 _ => ?_)
  refine lv_i2b (v := _) hx hb dX16_feed_7_77 rfl ?_
  refine lv_topi (fun y16 _ => ?_)
  refine va_bast hx hb hK hP hD hS 1 0 rfl rfl (by unfold vp_in; decide) dX16_feed_7_78 (fun H locs hP hD hS => ?_)
  have hP : va_P (dC, dI) vwCl [(h0, .inr (16, [.int 0, m1, .ref h1, .int 4, .int 0, m5, m6, m7, m8, m9, m10, m11, m12, m13, m14, m15, m16, .null, m18, m19, m20, m21, m22, m23, m24, m25, m26, .int 0, m28, m29, .int 0, .int 0, .int 0, m33, m34, m35, .int 0, m37, m38, m39, m40, m41, m42, m43, m44, m45, m46, m47, m48, m49, .int 0, m51, m52, m53, m54, m55, m56, m57, m58, m59, m60, m61, m62, m63, m64, m65, m66, m67, m68, m69, m70, m71, m72, m73, m74, m75, m76, m77, m78, m79, m80, m81, m82, m83, m84, m85, m86, m87, m88, m89, m90, m91, .int 0, .int 0, m94, m95, m96, m97, m98, m99, m100, m101, m102, m103, m104, m105, m106, m107, m108, m109, .long 0, .long 0, .int 0, m113, m114, m115, m116, m117, m118, m119, m120, m121, m122])), (h1, .inl (cB, 1500, .inl (upd (upd (upd (upd f1 0 (vp_nar .byte y7)) 1 (vp_nar .byte y10)) 2 (vp_nar .byte y13)) 3 (vp_nar .byte y16))))] H := hP
  have hD : va_D A [(h0, .inr (16, [.int 0, m1, .ref h1, .int 4, .int 0, m5, m6, m7, m8, m9, m10, m11, m12, m13, m14, m15, m16, .null, m18, m19, m20, m21, m22, m23, m24, m25, m26, .int 0, m28, m29, .int 0, .int 0, .int 0, m33, m34, m35, .int 0, m37, m38, m39, m40, m41, m42, m43, m44, m45, m46, m47, m48, m49, .int 0, m51, m52, m53, m54, m55, m56, m57, m58, m59, m60, m61, m62, m63, m64, m65, m66, m67, m68, m69, m70, m71, m72, m73, m74, m75, m76, m77, m78, m79, m80, m81, m82, m83, m84, m85, m86, m87, m88, m89, m90, m91, .int 0, .int 0, m94, m95, m96, m97, m98, m99, m100, m101, m102, m103, m104, m105, m106, m107, m108, m109, .long 0, .long 0, .int 0, m113, m114, m115, m116, m117, m118, m119, m120, m121, m122])), (h1, .inl (cB, 1500, .inl (upd (upd (upd (upd f1 0 (vp_nar .byte y7)) 1 (vp_nar .byte y10)) 2 (vp_nar .byte y13)) 3 (vp_nar .byte y16))))] := hD
  refine lv_iinc (k := 0) (v := 2) (lv' := [(4, .int 2), (0, .ref h0), (1, .long g1), (3, .int 7)]) hx hb dX16_feed_7_79 hl rfl (by decide) (by decide) rfl (fun ls hl => ?_)
  refine lv_goto (tgt := 42) hx hb dX16_feed_7_82 (by decide) ?_
  refine lv_iload hx hb dX16_feed_7_42 (lv_at hl 0 rfl) ?_
  refine lv_if_lt (tgt := 85) hx hb dX16_feed_7_44 (by decide) (fun h9 => absurd h9 (by decide)) (fun _ => ?_)
  refine lv_aload_n hx hb dX16_feed_7_47 rfl (lv_at hl 1 rfl) ?_
  refine va_get (D := (dC, dI)) (ci := 16) (v := .int 0) (C := RX16) (T := TX16) (N := 123) hx hb hts wh_X16_feed_7_X16 hown hK hP 0 rfl rfl 0 (by decide) (hts (.fieldLink RX16 1 "StreamHouseModel" "code" "I") (wm_X16_feed_7 5 rfl)) (fun _ h9 => h9) rfl dX16_feed_7_48 ?_
  refine lv_if_ne (tgt := 85) hx hb dX16_feed_7_51 (by decide) (fun h9 => absurd (by decide) h9) (fun _ => ?_)
  refine lv_aload_n hx hb dX16_feed_7_54 rfl (lv_at hl 1 rfl) ?_
  refine va_get (D := (dC, dI)) (ci := 16) (v := .ref h1) (C := RX16) (T := TX16) (N := 123) hx hb hts wh_X16_feed_7_X16 hown hK hP 0 rfl rfl 2 (by decide) (hts (.fieldLink RX16 20 "StreamHouseModel" "tape" "[B") (wm_X16_feed_7 6 rfl)) (fun _ h9 => h9) rfl dX16_feed_7_55 ?_
  refine lv_aload_n hx hb dX16_feed_7_58 rfl (lv_at hl 1 rfl) ?_
  refine lv_dup hx hb dX16_feed_7_59 rfl ?_
  refine va_get (D := (dC, dI)) (ci := 16) (v := .int 4) (C := RX16) (T := TX16) (N := 123) hx hb hts wh_X16_feed_7_X16 hown hK hP 0 rfl rfl 3 (by decide) (hts (.fieldLink RX16 972 "StreamHouseModel" "taped" "I") (wm_X16_feed_7 4 rfl)) (fun _ h9 => h9) rfl dX16_feed_7_60 ?_
  refine lv_dup_x1 hx hb dX16_feed_7_63 rfl rfl ?_
  refine lv_iconst (v := 1) hx hb dX16_feed_7_64 (by decide) ?_
  refine lv_iadd hx hb dX16_feed_7_65 ?_
  refine W.eq (g2 := F0 m 66 ls [.int 5, .ref h0, .int 4, .ref h1]) rfl ?_
  refine va_put (D := (dC, dI)) (ci := 16) (v := .int 5) (ty := .int) (C := RX16) (T := TX16) (N := 123) hx hb hts wh_X16_feed_7_X16 tyX16 tyX16_ok nmX16 hown hK hP hD hS 0 rfl rfl 3 (by decide) (hts (.fieldLink RX16 972 "StreamHouseModel" "taped" "I") (wm_X16_feed_7 4 rfl)) (fun _ h9 => h9) rfl (by decide +kernel) rfl rfl (Nat.le_of_ble_eq_true rfl) dX16_feed_7_66 (fun H locs hP hD hS => ?_)
  have hP : va_P (dC, dI) vwCl [(h0, .inr (16, [.int 0, m1, .ref h1, .int 5, .int 0, m5, m6, m7, m8, m9, m10, m11, m12, m13, m14, m15, m16, .null, m18, m19, m20, m21, m22, m23, m24, m25, m26, .int 0, m28, m29, .int 0, .int 0, .int 0, m33, m34, m35, .int 0, m37, m38, m39, m40, m41, m42, m43, m44, m45, m46, m47, m48, m49, .int 0, m51, m52, m53, m54, m55, m56, m57, m58, m59, m60, m61, m62, m63, m64, m65, m66, m67, m68, m69, m70, m71, m72, m73, m74, m75, m76, m77, m78, m79, m80, m81, m82, m83, m84, m85, m86, m87, m88, m89, m90, m91, .int 0, .int 0, m94, m95, m96, m97, m98, m99, m100, m101, m102, m103, m104, m105, m106, m107, m108, m109, .long 0, .long 0, .int 0, m113, m114, m115, m116, m117, m118, m119, m120, m121, m122])), (h1, .inl (cB, 1500, .inl (upd (upd (upd (upd f1 0 (vp_nar .byte y7)) 1 (vp_nar .byte y10)) 2 (vp_nar .byte y13)) 3 (vp_nar .byte y16))))] H := hP
  have hD : va_D A [(h0, .inr (16, [.int 0, m1, .ref h1, .int 5, .int 0, m5, m6, m7, m8, m9, m10, m11, m12, m13, m14, m15, m16, .null, m18, m19, m20, m21, m22, m23, m24, m25, m26, .int 0, m28, m29, .int 0, .int 0, .int 0, m33, m34, m35, .int 0, m37, m38, m39, m40, m41, m42, m43, m44, m45, m46, m47, m48, m49, .int 0, m51, m52, m53, m54, m55, m56, m57, m58, m59, m60, m61, m62, m63, m64, m65, m66, m67, m68, m69, m70, m71, m72, m73, m74, m75, m76, m77, m78, m79, m80, m81, m82, m83, m84, m85, m86, m87, m88, m89, m90, m91, .int 0, .int 0, m94, m95, m96, m97, m98, m99, m100, m101, m102, m103, m104, m105, m106, m107, m108, m109, .long 0, .long 0, .int 0, m113, m114, m115, m116, m117, m118, m119, m120, m121, m122])), (h1, .inl (cB, 1500, .inl (upd (upd (upd (upd f1 0 (vp_nar .byte y7)) 1 (vp_nar .byte y10)) 2 (vp_nar .byte y13)) 3 (vp_nar .byte y16))))] := hD
  refine lv_lload_n hx hb dX16_feed_7_69 rfl (lv_at hl 2 rfl) ?_
  refine lv_bipush (v := 8) hx hb dX16_feed_7_70 (by decide) ?_
  refine lv_iload hx hb dX16_feed_7_72 (lv_at hl 0 rfl) ?_
  refine lv_imul hx hb dX16_feed_7_74 ?_
  refine W.eq (g2 := F0 m 75 ls [.int 16, .long g1, .int 4, .ref h1]) rfl ?_
  refine lv_lshr (v := _) hx hb dX16_feed_7_75 rfl ?_
  refine lv_topl (fun y17 _ => ?_)
  refine lv_l2i (v := _) hx hb dX16_feed_7_76 rfl ?_
  refine lv_topi (fun y18 _ => ?_)
  refine lv_i2b (v := _) hx hb dX16_feed_7_77 rfl ?_
  refine lv_topi (fun y19 _ => ?_)
  refine va_bast hx hb hK hP hD hS 1 0 rfl rfl (by unfold vp_in; decide) dX16_feed_7_78 (fun H locs hP hD hS => ?_)
  have hP : va_P (dC, dI) vwCl [(h0, .inr (16, [.int 0, m1, .ref h1, .int 5, .int 0, m5, m6, m7, m8, m9, m10, m11, m12, m13, m14, m15, m16, .null, m18, m19, m20, m21, m22, m23, m24, m25, m26, .int 0, m28, m29, .int 0, .int 0, .int 0, m33, m34, m35, .int 0, m37, m38, m39, m40, m41, m42, m43, m44, m45, m46, m47, m48, m49, .int 0, m51, m52, m53, m54, m55, m56, m57, m58, m59, m60, m61, m62, m63, m64, m65, m66, m67, m68, m69, m70, m71, m72, m73, m74, m75, m76, m77, m78, m79, m80, m81, m82, m83, m84, m85, m86, m87, m88, m89, m90, m91, .int 0, .int 0, m94, m95, m96, m97, m98, m99, m100, m101, m102, m103, m104, m105, m106, m107, m108, m109, .long 0, .long 0, .int 0, m113, m114, m115, m116, m117, m118, m119, m120, m121, m122])), (h1, .inl (cB, 1500, .inl (upd (upd (upd (upd (upd f1 0 (vp_nar .byte y7)) 1 (vp_nar .byte y10)) 2 (vp_nar .byte y13)) 3 (vp_nar .byte y16)) 4 (vp_nar .byte y19))))] H := hP
  have hD : va_D A [(h0, .inr (16, [.int 0, m1, .ref h1, .int 5, .int 0, m5, m6, m7, m8, m9, m10, m11, m12, m13, m14, m15, m16, .null, m18, m19, m20, m21, m22, m23, m24, m25, m26, .int 0, m28, m29, .int 0, .int 0, .int 0, m33, m34, m35, .int 0, m37, m38, m39, m40, m41, m42, m43, m44, m45, m46, m47, m48, m49, .int 0, m51, m52, m53, m54, m55, m56, m57, m58, m59, m60, m61, m62, m63, m64, m65, m66, m67, m68, m69, m70, m71, m72, m73, m74, m75, m76, m77, m78, m79, m80, m81, m82, m83, m84, m85, m86, m87, m88, m89, m90, m91, .int 0, .int 0, m94, m95, m96, m97, m98, m99, m100, m101, m102, m103, m104, m105, m106, m107, m108, m109, .long 0, .long 0, .int 0, m113, m114, m115, m116, m117, m118, m119, m120, m121, m122])), (h1, .inl (cB, 1500, .inl (upd (upd (upd (upd (upd f1 0 (vp_nar .byte y7)) 1 (vp_nar .byte y10)) 2 (vp_nar .byte y13)) 3 (vp_nar .byte y16)) 4 (vp_nar .byte y19))))] := hD
  refine lv_iinc (k := 0) (v := 1) (lv' := [(4, .int 1), (0, .ref h0), (1, .long g1), (3, .int 7)]) hx hb dX16_feed_7_79 hl rfl (by decide) (by decide) rfl (fun ls hl => ?_)
  refine lv_goto (tgt := 42) hx hb dX16_feed_7_82 (by decide) ?_
  refine lv_iload hx hb dX16_feed_7_42 (lv_at hl 0 rfl) ?_
  refine lv_if_lt (tgt := 85) hx hb dX16_feed_7_44 (by decide) (fun h9 => absurd h9 (by decide)) (fun _ => ?_)
  refine lv_aload_n hx hb dX16_feed_7_47 rfl (lv_at hl 1 rfl) ?_
  refine va_get (D := (dC, dI)) (ci := 16) (v := .int 0) (C := RX16) (T := TX16) (N := 123) hx hb hts wh_X16_feed_7_X16 hown hK hP 0 rfl rfl 0 (by decide) (hts (.fieldLink RX16 1 "StreamHouseModel" "code" "I") (wm_X16_feed_7 5 rfl)) (fun _ h9 => h9) rfl dX16_feed_7_48 ?_
  refine lv_if_ne (tgt := 85) hx hb dX16_feed_7_51 (by decide) (fun h9 => absurd (by decide) h9) (fun _ => ?_)
  refine lv_aload_n hx hb dX16_feed_7_54 rfl (lv_at hl 1 rfl) ?_
  refine va_get (D := (dC, dI)) (ci := 16) (v := .ref h1) (C := RX16) (T := TX16) (N := 123) hx hb hts wh_X16_feed_7_X16 hown hK hP 0 rfl rfl 2 (by decide) (hts (.fieldLink RX16 20 "StreamHouseModel" "tape" "[B") (wm_X16_feed_7 6 rfl)) (fun _ h9 => h9) rfl dX16_feed_7_55 ?_
  refine lv_aload_n hx hb dX16_feed_7_58 rfl (lv_at hl 1 rfl) ?_
  refine lv_dup hx hb dX16_feed_7_59 rfl ?_
  refine va_get (D := (dC, dI)) (ci := 16) (v := .int 5) (C := RX16) (T := TX16) (N := 123) hx hb hts wh_X16_feed_7_X16 hown hK hP 0 rfl rfl 3 (by decide) (hts (.fieldLink RX16 972 "StreamHouseModel" "taped" "I") (wm_X16_feed_7 4 rfl)) (fun _ h9 => h9) rfl dX16_feed_7_60 ?_
  refine lv_dup_x1 hx hb dX16_feed_7_63 rfl rfl ?_
  refine lv_iconst (v := 1) hx hb dX16_feed_7_64 (by decide) ?_
  refine lv_iadd hx hb dX16_feed_7_65 ?_
  refine W.eq (g2 := F0 m 66 ls [.int 6, .ref h0, .int 5, .ref h1]) rfl ?_
  refine va_put (D := (dC, dI)) (ci := 16) (v := .int 6) (ty := .int) (C := RX16) (T := TX16) (N := 123) hx hb hts wh_X16_feed_7_X16 tyX16 tyX16_ok nmX16 hown hK hP hD hS 0 rfl rfl 3 (by decide) (hts (.fieldLink RX16 972 "StreamHouseModel" "taped" "I") (wm_X16_feed_7 4 rfl)) (fun _ h9 => h9) rfl (by decide +kernel) rfl rfl (Nat.le_of_ble_eq_true rfl) dX16_feed_7_66 (fun H locs hP hD hS => ?_)
  have hP : va_P (dC, dI) vwCl [(h0, .inr (16, [.int 0, m1, .ref h1, .int 6, .int 0, m5, m6, m7, m8, m9, m10, m11, m12, m13, m14, m15, m16, .null, m18, m19, m20, m21, m22, m23, m24, m25, m26, .int 0, m28, m29, .int 0, .int 0, .int 0, m33, m34, m35, .int 0, m37, m38, m39, m40, m41, m42, m43, m44, m45, m46, m47, m48, m49, .int 0, m51, m52, m53, m54, m55, m56, m57, m58, m59, m60, m61, m62, m63, m64, m65, m66, m67, m68, m69, m70, m71, m72, m73, m74, m75, m76, m77, m78, m79, m80, m81, m82, m83, m84, m85, m86, m87, m88, m89, m90, m91, .int 0, .int 0, m94, m95, m96, m97, m98, m99, m100, m101, m102, m103, m104, m105, m106, m107, m108, m109, .long 0, .long 0, .int 0, m113, m114, m115, m116, m117, m118, m119, m120, m121, m122])), (h1, .inl (cB, 1500, .inl (upd (upd (upd (upd (upd f1 0 (vp_nar .byte y7)) 1 (vp_nar .byte y10)) 2 (vp_nar .byte y13)) 3 (vp_nar .byte y16)) 4 (vp_nar .byte y19))))] H := hP
  have hD : va_D A [(h0, .inr (16, [.int 0, m1, .ref h1, .int 6, .int 0, m5, m6, m7, m8, m9, m10, m11, m12, m13, m14, m15, m16, .null, m18, m19, m20, m21, m22, m23, m24, m25, m26, .int 0, m28, m29, .int 0, .int 0, .int 0, m33, m34, m35, .int 0, m37, m38, m39, m40, m41, m42, m43, m44, m45, m46, m47, m48, m49, .int 0, m51, m52, m53, m54, m55, m56, m57, m58, m59, m60, m61, m62, m63, m64, m65, m66, m67, m68, m69, m70, m71, m72, m73, m74, m75, m76, m77, m78, m79, m80, m81, m82, m83, m84, m85, m86, m87, m88, m89, m90, m91, .int 0, .int 0, m94, m95, m96, m97, m98, m99, m100, m101, m102, m103, m104, m105, m106, m107, m108, m109, .long 0, .long 0, .int 0, m113, m114, m115, m116, m117, m118, m119, m120, m121, m122])), (h1, .inl (cB, 1500, .inl (upd (upd (upd (upd (upd f1 0 (vp_nar .byte y7)) 1 (vp_nar .byte y10)) 2 (vp_nar .byte y13)) 3 (vp_nar .byte y16)) 4 (vp_nar .byte y19))))] := hD
  refine lv_lload_n hx hb dX16_feed_7_69 rfl (lv_at hl 2 rfl) ?_
  refine lv_bipush (v := 8) hx hb dX16_feed_7_70 (by decide) ?_
  refine lv_iload hx hb dX16_feed_7_72 (lv_at hl 0 rfl) ?_
  refine lv_imul hx hb dX16_feed_7_74 ?_
  refine W.eq (g2 := F0 m 75 ls [.int 8, .long g1, .int 5, .ref h1]) rfl ?_
  refine lv_lshr (v := _) hx hb dX16_feed_7_75 rfl ?_
  refine lv_topl (fun y20 _ => ?_)
  refine lv_l2i (v := _) hx hb dX16_feed_7_76 rfl ?_
  refine lv_topi (fun y21 _ => ?_)
  refine lv_i2b (v := _) hx hb dX16_feed_7_77 rfl ?_
  refine lv_topi (fun y22 _ => ?_)
  refine va_bast hx hb hK hP hD hS 1 0 rfl rfl (by unfold vp_in; decide) dX16_feed_7_78 (fun H locs hP hD hS => ?_)
  have hP : va_P (dC, dI) vwCl [(h0, .inr (16, [.int 0, m1, .ref h1, .int 6, .int 0, m5, m6, m7, m8, m9, m10, m11, m12, m13, m14, m15, m16, .null, m18, m19, m20, m21, m22, m23, m24, m25, m26, .int 0, m28, m29, .int 0, .int 0, .int 0, m33, m34, m35, .int 0, m37, m38, m39, m40, m41, m42, m43, m44, m45, m46, m47, m48, m49, .int 0, m51, m52, m53, m54, m55, m56, m57, m58, m59, m60, m61, m62, m63, m64, m65, m66, m67, m68, m69, m70, m71, m72, m73, m74, m75, m76, m77, m78, m79, m80, m81, m82, m83, m84, m85, m86, m87, m88, m89, m90, m91, .int 0, .int 0, m94, m95, m96, m97, m98, m99, m100, m101, m102, m103, m104, m105, m106, m107, m108, m109, .long 0, .long 0, .int 0, m113, m114, m115, m116, m117, m118, m119, m120, m121, m122])), (h1, .inl (cB, 1500, .inl (upd (upd (upd (upd (upd (upd f1 0 (vp_nar .byte y7)) 1 (vp_nar .byte y10)) 2 (vp_nar .byte y13)) 3 (vp_nar .byte y16)) 4 (vp_nar .byte y19)) 5 (vp_nar .byte y22))))] H := hP
  have hD : va_D A [(h0, .inr (16, [.int 0, m1, .ref h1, .int 6, .int 0, m5, m6, m7, m8, m9, m10, m11, m12, m13, m14, m15, m16, .null, m18, m19, m20, m21, m22, m23, m24, m25, m26, .int 0, m28, m29, .int 0, .int 0, .int 0, m33, m34, m35, .int 0, m37, m38, m39, m40, m41, m42, m43, m44, m45, m46, m47, m48, m49, .int 0, m51, m52, m53, m54, m55, m56, m57, m58, m59, m60, m61, m62, m63, m64, m65, m66, m67, m68, m69, m70, m71, m72, m73, m74, m75, m76, m77, m78, m79, m80, m81, m82, m83, m84, m85, m86, m87, m88, m89, m90, m91, .int 0, .int 0, m94, m95, m96, m97, m98, m99, m100, m101, m102, m103, m104, m105, m106, m107, m108, m109, .long 0, .long 0, .int 0, m113, m114, m115, m116, m117, m118, m119, m120, m121, m122])), (h1, .inl (cB, 1500, .inl (upd (upd (upd (upd (upd (upd f1 0 (vp_nar .byte y7)) 1 (vp_nar .byte y10)) 2 (vp_nar .byte y13)) 3 (vp_nar .byte y16)) 4 (vp_nar .byte y19)) 5 (vp_nar .byte y22))))] := hD
  refine lv_iinc (k := 0) (v := 0) (lv' := [(4, .int 0), (0, .ref h0), (1, .long g1), (3, .int 7)]) hx hb dX16_feed_7_79 hl rfl (by decide) (by decide) rfl (fun ls hl => ?_)
  refine lv_goto (tgt := 42) hx hb dX16_feed_7_82 (by decide) ?_
  refine lv_iload hx hb dX16_feed_7_42 (lv_at hl 0 rfl) ?_
  refine lv_if_lt (tgt := 85) hx hb dX16_feed_7_44 (by decide) (fun h9 => absurd h9 (by decide)) (fun _ => ?_)
  refine lv_aload_n hx hb dX16_feed_7_47 rfl (lv_at hl 1 rfl) ?_
  refine va_get (D := (dC, dI)) (ci := 16) (v := .int 0) (C := RX16) (T := TX16) (N := 123) hx hb hts wh_X16_feed_7_X16 hown hK hP 0 rfl rfl 0 (by decide) (hts (.fieldLink RX16 1 "StreamHouseModel" "code" "I") (wm_X16_feed_7 5 rfl)) (fun _ h9 => h9) rfl dX16_feed_7_48 ?_
  refine lv_if_ne (tgt := 85) hx hb dX16_feed_7_51 (by decide) (fun h9 => absurd (by decide) h9) (fun _ => ?_)
  refine lv_aload_n hx hb dX16_feed_7_54 rfl (lv_at hl 1 rfl) ?_
  refine va_get (D := (dC, dI)) (ci := 16) (v := .ref h1) (C := RX16) (T := TX16) (N := 123) hx hb hts wh_X16_feed_7_X16 hown hK hP 0 rfl rfl 2 (by decide) (hts (.fieldLink RX16 20 "StreamHouseModel" "tape" "[B") (wm_X16_feed_7 6 rfl)) (fun _ h9 => h9) rfl dX16_feed_7_55 ?_
  refine lv_aload_n hx hb dX16_feed_7_58 rfl (lv_at hl 1 rfl) ?_
  refine lv_dup hx hb dX16_feed_7_59 rfl ?_
  refine va_get (D := (dC, dI)) (ci := 16) (v := .int 6) (C := RX16) (T := TX16) (N := 123) hx hb hts wh_X16_feed_7_X16 hown hK hP 0 rfl rfl 3 (by decide) (hts (.fieldLink RX16 972 "StreamHouseModel" "taped" "I") (wm_X16_feed_7 4 rfl)) (fun _ h9 => h9) rfl dX16_feed_7_60 ?_
  refine lv_dup_x1 hx hb dX16_feed_7_63 rfl rfl ?_
  refine lv_iconst (v := 1) hx hb dX16_feed_7_64 (by decide) ?_
  refine lv_iadd hx hb dX16_feed_7_65 ?_
  refine W.eq (g2 := F0 m 66 ls [.int 7, .ref h0, .int 6, .ref h1]) rfl ?_
  refine va_put (D := (dC, dI)) (ci := 16) (v := .int 7) (ty := .int) (C := RX16) (T := TX16) (N := 123) hx hb hts wh_X16_feed_7_X16 tyX16 tyX16_ok nmX16 hown hK hP hD hS 0 rfl rfl 3 (by decide) (hts (.fieldLink RX16 972 "StreamHouseModel" "taped" "I") (wm_X16_feed_7 4 rfl)) (fun _ h9 => h9) rfl (by decide +kernel) rfl rfl (Nat.le_of_ble_eq_true rfl) dX16_feed_7_66 (fun H locs hP hD hS => ?_)
  have hP : va_P (dC, dI) vwCl [(h0, .inr (16, [.int 0, m1, .ref h1, .int 7, .int 0, m5, m6, m7, m8, m9, m10, m11, m12, m13, m14, m15, m16, .null, m18, m19, m20, m21, m22, m23, m24, m25, m26, .int 0, m28, m29, .int 0, .int 0, .int 0, m33, m34, m35, .int 0, m37, m38, m39, m40, m41, m42, m43, m44, m45, m46, m47, m48, m49, .int 0, m51, m52, m53, m54, m55, m56, m57, m58, m59, m60, m61, m62, m63, m64, m65, m66, m67, m68, m69, m70, m71, m72, m73, m74, m75, m76, m77, m78, m79, m80, m81, m82, m83, m84, m85, m86, m87, m88, m89, m90, m91, .int 0, .int 0, m94, m95, m96, m97, m98, m99, m100, m101, m102, m103, m104, m105, m106, m107, m108, m109, .long 0, .long 0, .int 0, m113, m114, m115, m116, m117, m118, m119, m120, m121, m122])), (h1, .inl (cB, 1500, .inl (upd (upd (upd (upd (upd (upd f1 0 (vp_nar .byte y7)) 1 (vp_nar .byte y10)) 2 (vp_nar .byte y13)) 3 (vp_nar .byte y16)) 4 (vp_nar .byte y19)) 5 (vp_nar .byte y22))))] H := hP
  have hD : va_D A [(h0, .inr (16, [.int 0, m1, .ref h1, .int 7, .int 0, m5, m6, m7, m8, m9, m10, m11, m12, m13, m14, m15, m16, .null, m18, m19, m20, m21, m22, m23, m24, m25, m26, .int 0, m28, m29, .int 0, .int 0, .int 0, m33, m34, m35, .int 0, m37, m38, m39, m40, m41, m42, m43, m44, m45, m46, m47, m48, m49, .int 0, m51, m52, m53, m54, m55, m56, m57, m58, m59, m60, m61, m62, m63, m64, m65, m66, m67, m68, m69, m70, m71, m72, m73, m74, m75, m76, m77, m78, m79, m80, m81, m82, m83, m84, m85, m86, m87, m88, m89, m90, m91, .int 0, .int 0, m94, m95, m96, m97, m98, m99, m100, m101, m102, m103, m104, m105, m106, m107, m108, m109, .long 0, .long 0, .int 0, m113, m114, m115, m116, m117, m118, m119, m120, m121, m122])), (h1, .inl (cB, 1500, .inl (upd (upd (upd (upd (upd (upd f1 0 (vp_nar .byte y7)) 1 (vp_nar .byte y10)) 2 (vp_nar .byte y13)) 3 (vp_nar .byte y16)) 4 (vp_nar .byte y19)) 5 (vp_nar .byte y22))))] := hD
  refine lv_lload_n hx hb dX16_feed_7_69 rfl (lv_at hl 2 rfl) ?_
  refine lv_bipush (v := 8) hx hb dX16_feed_7_70 (by decide) ?_
  refine lv_iload hx hb dX16_feed_7_72 (lv_at hl 0 rfl) ?_
  refine lv_imul hx hb dX16_feed_7_74 ?_
  refine W.eq (g2 := F0 m 75 ls [.int 0, .long g1, .int 6, .ref h1]) rfl ?_
  refine lv_lshr (v := _) hx hb dX16_feed_7_75 rfl ?_
  refine lv_topl (fun y23 _ => ?_)
  refine lv_l2i (v := _) hx hb dX16_feed_7_76 rfl ?_
  refine lv_topi (fun y24 _ => ?_)
  refine lv_i2b (v := _) hx hb dX16_feed_7_77 rfl ?_
  refine lv_topi (fun y25 _ => ?_)
  refine va_bast hx hb hK hP hD hS 1 0 rfl rfl (by unfold vp_in; decide) dX16_feed_7_78 (fun H locs hP hD hS => ?_)
  have hP : va_P (dC, dI) vwCl [(h0, .inr (16, [.int 0, m1, .ref h1, .int 7, .int 0, m5, m6, m7, m8, m9, m10, m11, m12, m13, m14, m15, m16, .null, m18, m19, m20, m21, m22, m23, m24, m25, m26, .int 0, m28, m29, .int 0, .int 0, .int 0, m33, m34, m35, .int 0, m37, m38, m39, m40, m41, m42, m43, m44, m45, m46, m47, m48, m49, .int 0, m51, m52, m53, m54, m55, m56, m57, m58, m59, m60, m61, m62, m63, m64, m65, m66, m67, m68, m69, m70, m71, m72, m73, m74, m75, m76, m77, m78, m79, m80, m81, m82, m83, m84, m85, m86, m87, m88, m89, m90, m91, .int 0, .int 0, m94, m95, m96, m97, m98, m99, m100, m101, m102, m103, m104, m105, m106, m107, m108, m109, .long 0, .long 0, .int 0, m113, m114, m115, m116, m117, m118, m119, m120, m121, m122])), (h1, .inl (cB, 1500, .inl (upd (upd (upd (upd (upd (upd (upd f1 0 (vp_nar .byte y7)) 1 (vp_nar .byte y10)) 2 (vp_nar .byte y13)) 3 (vp_nar .byte y16)) 4 (vp_nar .byte y19)) 5 (vp_nar .byte y22)) 6 (vp_nar .byte y25))))] H := hP
  have hD : va_D A [(h0, .inr (16, [.int 0, m1, .ref h1, .int 7, .int 0, m5, m6, m7, m8, m9, m10, m11, m12, m13, m14, m15, m16, .null, m18, m19, m20, m21, m22, m23, m24, m25, m26, .int 0, m28, m29, .int 0, .int 0, .int 0, m33, m34, m35, .int 0, m37, m38, m39, m40, m41, m42, m43, m44, m45, m46, m47, m48, m49, .int 0, m51, m52, m53, m54, m55, m56, m57, m58, m59, m60, m61, m62, m63, m64, m65, m66, m67, m68, m69, m70, m71, m72, m73, m74, m75, m76, m77, m78, m79, m80, m81, m82, m83, m84, m85, m86, m87, m88, m89, m90, m91, .int 0, .int 0, m94, m95, m96, m97, m98, m99, m100, m101, m102, m103, m104, m105, m106, m107, m108, m109, .long 0, .long 0, .int 0, m113, m114, m115, m116, m117, m118, m119, m120, m121, m122])), (h1, .inl (cB, 1500, .inl (upd (upd (upd (upd (upd (upd (upd f1 0 (vp_nar .byte y7)) 1 (vp_nar .byte y10)) 2 (vp_nar .byte y13)) 3 (vp_nar .byte y16)) 4 (vp_nar .byte y19)) 5 (vp_nar .byte y22)) 6 (vp_nar .byte y25))))] := hD
  refine lv_iinc (k := 0) (v := (-1)) (lv' := [(4, .int ((-1))), (0, .ref h0), (1, .long g1), (3, .int 7)]) hx hb dX16_feed_7_79 hl rfl (by decide) (by decide) rfl (fun ls hl => ?_)
  refine lv_goto (tgt := 42) hx hb dX16_feed_7_82 (by decide) ?_
  refine lv_iload hx hb dX16_feed_7_42 (lv_at hl 0 rfl) ?_
  refine lv_if_lt (tgt := 85) hx hb dX16_feed_7_44 (by decide) (fun _ => ?_) (fun h9 => absurd (by decide) h9)
  refine lv_aload_n hx hb dX16_feed_7_85 rfl (lv_at hl 1 rfl) ?_
  refine va_get (D := (dC, dI)) (ci := 16) (v := .int 0) (C := RX16) (T := TX16) (N := 123) hx hb hts wh_X16_feed_7_X16 hown hK hP 0 rfl rfl 0 (by decide) (hts (.fieldLink RX16 1 "StreamHouseModel" "code" "I") (wm_X16_feed_7 5 rfl)) (fun _ h9 => h9) rfl dX16_feed_7_86 ?_
  refine lv_if_le (tgt := 96) hx hb dX16_feed_7_89 (by decide) (fun _ => ?_) (fun h9 => absurd (by decide) h9)
  refine lv_aload_n hx hb dX16_feed_7_96 rfl (lv_at hl 1 rfl) ?_
  refine va_get (D := (dC, dI)) (ci := 16) (v := .int 7) (C := RX16) (T := TX16) (N := 123) hx hb hts wh_X16_feed_7_X16 hown hK hP 0 rfl rfl 3 (by decide) (hts (.fieldLink RX16 972 "StreamHouseModel" "taped" "I") (wm_X16_feed_7 4 rfl)) (fun _ h9 => h9) rfl dX16_feed_7_97 ?_
  have hP9 := hP.sub (ws' := [(h0, .inr (16, [.int 0, m1, .ref h1, .int 7, .int 0, m5, m6, m7, m8, m9, m10, m11, m12, m13, m14, m15, m16, .null, m18, m19, m20, m21, m22, m23, m24, m25, m26, .int 0, m28, m29, .int 0, .int 0, .int 0, m33, m34, m35, .int 0, m37, m38, m39, m40, m41, m42, m43, m44, m45, m46, m47, m48, m49, .int 0, m51, m52, m53, m54, m55, m56, m57, m58, m59, m60, m61, m62, m63, m64, m65, m66, m67, m68, m69, m70, m71, m72, m73, m74, m75, m76, m77, m78, m79, m80, m81, m82, m83, m84, m85, m86, m87, m88, m89, m90, m91, .int 0, .int 0, m94, m95, m96, m97, m98, m99, m100, m101, m102, m103, m104, m105, m106, m107, m108, m109, .long 0, .long 0, .int 0, m113, m114, m115, m116, m117, m118, m119, m120, m121, m122]))]) [0] rfl
  have hD9 := hD.sub (ws' := [(h0, .inr (16, [.int 0, m1, .ref h1, .int 7, .int 0, m5, m6, m7, m8, m9, m10, m11, m12, m13, m14, m15, m16, .null, m18, m19, m20, m21, m22, m23, m24, m25, m26, .int 0, m28, m29, .int 0, .int 0, .int 0, m33, m34, m35, .int 0, m37, m38, m39, m40, m41, m42, m43, m44, m45, m46, m47, m48, m49, .int 0, m51, m52, m53, m54, m55, m56, m57, m58, m59, m60, m61, m62, m63, m64, m65, m66, m67, m68, m69, m70, m71, m72, m73, m74, m75, m76, m77, m78, m79, m80, m81, m82, m83, m84, m85, m86, m87, m88, m89, m90, m91, .int 0, .int 0, m94, m95, m96, m97, m98, m99, m100, m101, m102, m103, m104, m105, m106, m107, m108, m109, .long 0, .long 0, .int 0, m113, m114, m115, m116, m117, m118, m119, m120, m121, m122]))]) [0] (by decide) rfl
  have hK9 := hK.sub (tys' := []) [] rfl
  refine W.widen (k := 0) (n := 0) (by decide) (by decide) ?_
  exact W.iret (v := 7) hx hb hr (fun t ht hW => ⟨⟨7, (), rfl, rfl, by rw [ht]; exact hP9, va_K.moved hW.alike hK9, hD9⟩, hS.F ht⟩) hS.2.2 dX16_feed_7_100

abbrev ar_X16_feed_8 (dC : Nat → ClassId) (dI : Nat → Nat → Nat) (A : Nat → Prop) (h0 h1 : Nat) (g1 : Int64) (cB : ClassId) (f1 : Nat → Int32) (m0 m1 m5 m6 m7 m8 m9 m10 m11 m12 m13 m14 m15 m16 m18 m19 m20 m21 m22 m23 m24 m25 m26 m28 m29 m33 m34 m35 m37 m38 m39 m40 m41 m42 m43 m44 m45 m46 m47 m48 m49 m51 m52 m53 m54 m55 m56 m57 m58 m59 m60 m61 m62 m63 m64 m65 m66 m67 m68 m69 m70 m71 m72 m73 m74 m75 m76 m77 m78 m79 m80 m81 m82 m83 m84 m85 m86 m87 m88 m89 m90 m91 m94 m95 m96 m97 m98 m99 m100 m101 m102 m103 m104 m105 m106 m107 m108 m109 m113 m114 m115 m116 m117 m118 m119 m120 m121 m122 : Value) (_ : Unit) (t : State) : Prop := va_P (dC, dI) vwCl [(h0, .inr (16, [.int 0, m1, .ref h1, .int 8, .int 0, m5, m6, m7, m8, m9, m10, m11, m12, m13, m14, m15, m16, .null, m18, m19, m20, m21, m22, m23, m24, m25, m26, .int 0, m28, m29, .int 0, .int 0, .int 0, m33, m34, m35, .int 0, m37, m38, m39, m40, m41, m42, m43, m44, m45, m46, m47, m48, m49, .int 0, m51, m52, m53, m54, m55, m56, m57, m58, m59, m60, m61, m62, m63, m64, m65, m66, m67, m68, m69, m70, m71, m72, m73, m74, m75, m76, m77, m78, m79, m80, m81, m82, m83, m84, m85, m86, m87, m88, m89, m90, m91, .int 0, .int 0, m94, m95, m96, m97, m98, m99, m100, m101, m102, m103, m104, m105, m106, m107, m108, m109, .long 0, .long 0, .int 0, m113, m114, m115, m116, m117, m118, m119, m120, m121, m122]))] t.heap ∧ va_K (dC, dI) vwCl [] t ∧ va_D A [(h0, .inr (16, [.int 0, m1, .ref h1, .int 8, .int 0, m5, m6, m7, m8, m9, m10, m11, m12, m13, m14, m15, m16, .null, m18, m19, m20, m21, m22, m23, m24, m25, m26, .int 0, m28, m29, .int 0, .int 0, .int 0, m33, m34, m35, .int 0, m37, m38, m39, m40, m41, m42, m43, m44, m45, m46, m47, m48, m49, .int 0, m51, m52, m53, m54, m55, m56, m57, m58, m59, m60, m61, m62, m63, m64, m65, m66, m67, m68, m69, m70, m71, m72, m73, m74, m75, m76, m77, m78, m79, m80, m81, m82, m83, m84, m85, m86, m87, m88, m89, m90, m91, .int 0, .int 0, m94, m95, m96, m97, m98, m99, m100, m101, m102, m103, m104, m105, m106, m107, m108, m109, .long 0, .long 0, .int 0, m113, m114, m115, m116, m117, m118, m119, m120, m121, m122]))]
theorem dX16_feed_8_0 : decode cX16_feed 0 = .ok (.aload_n 0, 1) := by decide +kernel
theorem dX16_feed_8_1 : decode cX16_feed 1 = .ok (.iload_n 3, 1) := by decide +kernel
theorem dX16_feed_8_2 : decode cX16_feed 2 = .ok (.i2l, 1) := by decide +kernel
theorem dX16_feed_8_3 : decode cX16_feed 3 = .ok (.lconst 1, 1) := by decide +kernel
theorem dX16_feed_8_4 : decode cX16_feed 4 = .ok (.ldc2_w 250, 3) := by decide +kernel
theorem dX16_feed_8_7 : decode cX16_feed 7 = .ok (.invokestatic 45, 3) := by decide +kernel
theorem dX16_feed_8_10 : decode cX16_feed 10 = .ok (.ifCond .ne 7, 3) := by decide +kernel
theorem dX16_feed_8_17 : decode cX16_feed 17 = .ok (.aload_n 0, 1) := by decide +kernel
theorem dX16_feed_8_18 : decode cX16_feed 18 = .ok (.getfield 972, 3) := by decide +kernel
theorem dX16_feed_8_21 : decode cX16_feed 21 = .ok (.iload_n 3, 1) := by decide +kernel
theorem dX16_feed_8_22 : decode cX16_feed 22 = .ok (.iadd, 1) := by decide +kernel
theorem dX16_feed_8_23 : decode cX16_feed 23 = .ok (.sipush 1500, 3) := by decide +kernel
theorem dX16_feed_8_26 : decode cX16_feed 26 = .ok (.if_icmp .le 7, 3) := by decide +kernel
theorem dX16_feed_8_33 : decode cX16_feed 33 = .ok (.iconst 0, 1) := by decide +kernel
theorem dX16_feed_8_34 : decode cX16_feed 34 = .ok (.putfield 1, 3) := by decide +kernel
theorem dX16_feed_8_37 : decode cX16_feed 37 = .ok (.iload_n 3, 1) := by decide +kernel
theorem dX16_feed_8_38 : decode cX16_feed 38 = .ok (.iconst 1, 1) := by decide +kernel
theorem dX16_feed_8_39 : decode cX16_feed 39 = .ok (.isub, 1) := by decide +kernel
theorem dX16_feed_8_40 : decode cX16_feed 40 = .ok (.istore 4, 2) := by decide +kernel
theorem dX16_feed_8_42 : decode cX16_feed 42 = .ok (.iload 4, 2) := by decide +kernel
theorem dX16_feed_8_44 : decode cX16_feed 44 = .ok (.ifCond .lt 41, 3) := by decide +kernel
theorem dX16_feed_8_47 : decode cX16_feed 47 = .ok (.aload_n 0, 1) := by decide +kernel
theorem dX16_feed_8_48 : decode cX16_feed 48 = .ok (.getfield 1, 3) := by decide +kernel
theorem dX16_feed_8_51 : decode cX16_feed 51 = .ok (.ifCond .ne 34, 3) := by decide +kernel
theorem dX16_feed_8_54 : decode cX16_feed 54 = .ok (.aload_n 0, 1) := by decide +kernel
theorem dX16_feed_8_55 : decode cX16_feed 55 = .ok (.getfield 20, 3) := by decide +kernel
theorem dX16_feed_8_58 : decode cX16_feed 58 = .ok (.aload_n 0, 1) := by decide +kernel
theorem dX16_feed_8_59 : decode cX16_feed 59 = .ok (.dup, 1) := by decide +kernel
theorem dX16_feed_8_60 : decode cX16_feed 60 = .ok (.getfield 972, 3) := by decide +kernel
theorem dX16_feed_8_63 : decode cX16_feed 63 = .ok (.dup_x1, 1) := by decide +kernel
theorem dX16_feed_8_64 : decode cX16_feed 64 = .ok (.iconst 1, 1) := by decide +kernel
theorem dX16_feed_8_65 : decode cX16_feed 65 = .ok (.iadd, 1) := by decide +kernel
theorem dX16_feed_8_66 : decode cX16_feed 66 = .ok (.putfield 972, 3) := by decide +kernel
theorem dX16_feed_8_69 : decode cX16_feed 69 = .ok (.lload_n 1, 1) := by decide +kernel
theorem dX16_feed_8_70 : decode cX16_feed 70 = .ok (.bipush 8, 2) := by decide +kernel
theorem dX16_feed_8_72 : decode cX16_feed 72 = .ok (.iload 4, 2) := by decide +kernel
theorem dX16_feed_8_74 : decode cX16_feed 74 = .ok (.imul, 1) := by decide +kernel
theorem dX16_feed_8_75 : decode cX16_feed 75 = .ok (.lshr, 1) := by decide +kernel
theorem dX16_feed_8_76 : decode cX16_feed 76 = .ok (.l2i, 1) := by decide +kernel
theorem dX16_feed_8_77 : decode cX16_feed 77 = .ok (.i2b, 1) := by decide +kernel
theorem dX16_feed_8_78 : decode cX16_feed 78 = .ok (.bastore, 1) := by decide +kernel
theorem dX16_feed_8_79 : decode cX16_feed 79 = .ok (.iinc 4 (-1), 3) := by decide +kernel
theorem dX16_feed_8_82 : decode cX16_feed 82 = .ok (.goto (-40), 3) := by decide +kernel
theorem dX16_feed_8_85 : decode cX16_feed 85 = .ok (.aload_n 0, 1) := by decide +kernel
theorem dX16_feed_8_86 : decode cX16_feed 86 = .ok (.getfield 1, 3) := by decide +kernel
theorem dX16_feed_8_89 : decode cX16_feed 89 = .ok (.ifCond .le 7, 3) := by decide +kernel
theorem dX16_feed_8_96 : decode cX16_feed 96 = .ok (.aload_n 0, 1) := by decide +kernel
theorem dX16_feed_8_97 : decode cX16_feed 97 = .ok (.getfield 972, 3) := by decide +kernel
theorem dX16_feed_8_100 : decode cX16_feed 100 = .ok (.ireturn, 1) := by decide +kernel
def ww_X16_feed_8 : List Cond := [.constantLong RX16 250 8, .initialized RX16, .methodLink RX16 45 yX16_within, .static yX16_within, .fieldLink RX16 972 "StreamHouseModel" "taped" "I", .fieldLink RX16 1 "StreamHouseModel" "code" "I", .fieldLink RX16 20 "StreamHouseModel" "tape" "[B"]
def wv_X16_feed_8 : List Cond := .code yX16_feed cX16_feed 5 (some .int) :: (ww_X16_feed_8 ++ (wv_X16_within_1 ++ (u_ws RX16 TX16 123 ++ [])))
theorem wm_X16_feed_8 {w : Cond} (i : Nat) (h : ww_X16_feed_8[i]? = some w) : w ∈ wv_X16_feed_8 := List.mem_cons_of_mem _ (List.mem_append_left _ (List.mem_of_getElem? h))
set_option maxRecDepth 100000 in
theorem gw_X16_feed_8 : wv_X16_feed_8.all goodWord = true := by decide +kernel
theorem wg_X16_feed_8_X16_within_1 : GoodIn wv_X16_feed_8 wv_X16_within_1 := goodIn_sub (fun w h => List.mem_cons_of_mem _ (List.mem_append_right _ (List.mem_append_left _ h))) gw_X16_within_1
theorem wt_X16_feed_8_X16_within_1 : GoodIn wv_X16_feed_8 (va_wsS RX16 45 yX16_within wv_X16_within_1) := goodIn_app (goodIn_sub (fun w h => by simp only [List.mem_cons, List.not_mem_nil, or_false] at h; rcases h with rfl | rfl | rfl <;> first | exact wm_X16_feed_8 2 rfl | exact wm_X16_feed_8 3 rfl | exact wm_X16_feed_8 1 rfl) (by decide +kernel)) wg_X16_feed_8_X16_within_1
theorem wh_X16_feed_8_X16 : ∀ w ∈ u_ws RX16 TX16 123, w ∈ wv_X16_feed_8 := fun w h => List.mem_cons_of_mem _ (List.mem_append_right _ (List.mem_append_right _ (List.mem_append_left _ h)))
set_option maxHeartbeats 4000000 in
set_option maxRecDepth 100000 in
/-- feed(g, 8) of the fresh reference -/
theorem r_X16_feed_8 (l : Launch) (dC : Nat → ClassId) (dI : Nat → Nat → Nat) (h0 h1 : Nat) (g1 : Int64) (cB : ClassId) (f1 : Nat → Int32) (m0 m1 m5 m6 m7 m8 m9 m10 m11 m12 m13 m14 m15 m16 m18 m19 m20 m21 m22 m23 m24 m25 m26 m28 m29 m33 m34 m35 m37 m38 m39 m40 m41 m42 m43 m44 m45 m46 m47 m48 m49 m51 m52 m53 m54 m55 m56 m57 m58 m59 m60 m61 m62 m63 m64 m65 m66 m67 m68 m69 m70 m71 m72 m73 m74 m75 m76 m77 m78 m79 m80 m81 m82 m83 m84 m85 m86 m87 m88 m89 m90 m91 m94 m95 m96 m97 m98 m99 m100 m101 m102 m103 m104 m105 m106 m107 m108 m109 m113 m114 m115 m116 m117 m118 m119 m120 m121 m122 : Value) (sz : Nat) : Met l yX16_feed wv_X16_feed_8 ({ frames := 1, cells := 0, slots := 0, locals := 25 }) (va_Pc [.ref h0, .long g1, .int 8] (fun U => U.heap.size = sz ∧ va_P (dC, dI) vwCl [(h0, .inr (16, [m0, m1, .ref h1, .int 0, .int 0, m5, m6, m7, m8, m9, m10, m11, m12, m13, m14, m15, m16, .null, m18, m19, m20, m21, m22, m23, m24, m25, m26, .int 0, m28, m29, .int 0, .int 0, .int 0, m33, m34, m35, .int 0, m37, m38, m39, m40, m41, m42, m43, m44, m45, m46, m47, m48, m49, .int 0, m51, m52, m53, m54, m55, m56, m57, m58, m59, m60, m61, m62, m63, m64, m65, m66, m67, m68, m69, m70, m71, m72, m73, m74, m75, m76, m77, m78, m79, m80, m81, m82, m83, m84, m85, m86, m87, m88, m89, m90, m91, .int 0, .int 0, m94, m95, m96, m97, m98, m99, m100, m101, m102, m103, m104, m105, m106, m107, m108, m109, .long 0, .long 0, .int 0, m113, m114, m115, m116, m117, m118, m119, m120, m121, m122])), (h1, .inl (cB, 1500, .inl f1))] U.heap ∧ va_K (dC, dI) vwCl [(cB, .byte)] U ∧ va_D (fun _ => True) [(h0, .inr (16, [m0, m1, .ref h1, .int 0, .int 0, m5, m6, m7, m8, m9, m10, m11, m12, m13, m14, m15, m16, .null, m18, m19, m20, m21, m22, m23, m24, m25, m26, .int 0, m28, m29, .int 0, .int 0, .int 0, m33, m34, m35, .int 0, m37, m38, m39, m40, m41, m42, m43, m44, m45, m46, m47, m48, m49, .int 0, m51, m52, m53, m54, m55, m56, m57, m58, m59, m60, m61, m62, m63, m64, m65, m66, m67, m68, m69, m70, m71, m72, m73, m74, m75, m76, m77, m78, m79, m80, m81, m82, m83, m84, m85, m86, m87, m88, m89, m90, m91, .int 0, .int 0, m94, m95, m96, m97, m98, m99, m100, m101, m102, m103, m104, m105, m106, m107, m108, m109, .long 0, .long 0, .int 0, m113, m114, m115, m116, m117, m118, m119, m120, m121, m122])), (h1, .inl (cB, 1500, .inl f1))])) (va_Qi (fun r (_ : Unit) => r = 8) (ar_X16_feed_8 dC dI (va_A [(h0, .inr (16, [m0, m1, .ref h1, .int 0, .int 0, m5, m6, m7, m8, m9, m10, m11, m12, m13, m14, m15, m16, .null, m18, m19, m20, m21, m22, m23, m24, m25, m26, .int 0, m28, m29, .int 0, .int 0, .int 0, m33, m34, m35, .int 0, m37, m38, m39, m40, m41, m42, m43, m44, m45, m46, m47, m48, m49, .int 0, m51, m52, m53, m54, m55, m56, m57, m58, m59, m60, m61, m62, m63, m64, m65, m66, m67, m68, m69, m70, m71, m72, m73, m74, m75, m76, m77, m78, m79, m80, m81, m82, m83, m84, m85, m86, m87, m88, m89, m90, m91, .int 0, .int 0, m94, m95, m96, m97, m98, m99, m100, m101, m102, m103, m104, m105, m106, m107, m108, m109, .long 0, .long 0, .int 0, m113, m114, m115, m116, m117, m118, m119, m120, m121, m122])), (h1, .inl (cB, 1500, .inl f1))] sz) h0 h1 g1 cB f1 m0 m1 m5 m6 m7 m8 m9 m10 m11 m12 m13 m14 m15 m16 m18 m19 m20 m21 m22 m23 m24 m25 m26 m28 m29 m33 m34 m35 m37 m38 m39 m40 m41 m42 m43 m44 m45 m46 m47 m48 m49 m51 m52 m53 m54 m55 m56 m57 m58 m59 m60 m61 m62 m63 m64 m65 m66 m67 m68 m69 m70 m71 m72 m73 m74 m75 m76 m77 m78 m79 m80 m81 m82 m83 m84 m85 m86 m87 m88 m89 m90 m91 m94 m95 m96 m97 m98 m99 m100 m101 m102 m103 m104 m105 m106 m107 m108 m109 m113 m114 m115 m116 m117 m118 m119 m120 m121 m122) (va_A [(h0, .inr (16, [m0, m1, .ref h1, .int 0, .int 0, m5, m6, m7, m8, m9, m10, m11, m12, m13, m14, m15, m16, .null, m18, m19, m20, m21, m22, m23, m24, m25, m26, .int 0, m28, m29, .int 0, .int 0, .int 0, m33, m34, m35, .int 0, m37, m38, m39, m40, m41, m42, m43, m44, m45, m46, m47, m48, m49, .int 0, m51, m52, m53, m54, m55, m56, m57, m58, m59, m60, m61, m62, m63, m64, m65, m66, m67, m68, m69, m70, m71, m72, m73, m74, m75, m76, m77, m78, m79, m80, m81, m82, m83, m84, m85, m86, m87, m88, m89, m90, m91, .int 0, .int 0, m94, m95, m96, m97, m98, m99, m100, m101, m102, m103, m104, m105, m106, m107, m108, m109, .long 0, .long 0, .int 0, m113, m114, m115, m116, m117, m118, m119, m120, m121, m122])), (h1, .inl (cB, 1500, .inl f1))] sz)) 0 0 (va_A [(h0, .inr (16, [m0, m1, .ref h1, .int 0, .int 0, m5, m6, m7, m8, m9, m10, m11, m12, m13, m14, m15, m16, .null, m18, m19, m20, m21, m22, m23, m24, m25, m26, .int 0, m28, m29, .int 0, .int 0, .int 0, m33, m34, m35, .int 0, m37, m38, m39, m40, m41, m42, m43, m44, m45, m46, m47, m48, m49, .int 0, m51, m52, m53, m54, m55, m56, m57, m58, m59, m60, m61, m62, m63, m64, m65, m66, m67, m68, m69, m70, m71, m72, m73, m74, m75, m76, m77, m78, m79, m80, m81, m82, m83, m84, m85, m86, m87, m88, m89, m90, m91, .int 0, .int 0, m94, m95, m96, m97, m98, m99, m100, m101, m102, m103, m104, m105, m106, m107, m108, m109, .long 0, .long 0, .int 0, m113, m114, m115, m116, m117, m118, m119, m120, m121, m122])), (h1, .inl (cB, 1500, .inl f1))] sz) := by
  refine Met.ofW (cc := cX16_feed) (maxL := 5) (ret := (some .int)) (by decide) rfl ?_
  intro p e s m args below meth c s₁ B hml hv
  obtain ⟨rfl, hsz, hP, hK, hD0⟩ := hv
  have hx := B.exec
  have hb := B.bytes
  have hr := B.returns
  have hts := atoms_spec (ws := wv_X16_feed_8) B.pre
  have hown : s.vm.findClass RX16 = some m.cls := findClass_of_methodNamed B.named
  have hlocks := B.notSynchronized
  subst hsz
  have hD := hD0.self (sz := s.heap.size)
  generalize hAe : va_A [(h0, .inr (16, [m0, m1, .ref h1, .int 0, .int 0, m5, m6, m7, m8, m9, m10, m11, m12, m13, m14, m15, m16, .null, m18, m19, m20, m21, m22, m23, m24, m25, m26, .int 0, m28, m29, .int 0, .int 0, .int 0, m33, m34, m35, .int 0, m37, m38, m39, m40, m41, m42, m43, m44, m45, m46, m47, m48, m49, .int 0, m51, m52, m53, m54, m55, m56, m57, m58, m59, m60, m61, m62, m63, m64, m65, m66, m67, m68, m69, m70, m71, m72, m73, m74, m75, m76, m77, m78, m79, m80, m81, m82, m83, m84, m85, m86, m87, m88, m89, m90, m91, .int 0, .int 0, m94, m95, m96, m97, m98, m99, m100, m101, m102, m103, m104, m105, m106, m107, m108, m109, .long 0, .long 0, .int 0, m113, m114, m115, m116, m117, m118, m119, m120, m121, m122])), (h1, .inl (cB, 1500, .inl f1))] s.heap.size = A at hD ⊢
  have hA : ∀ q : Nat, s.heap.size ≤ q → A q := fun q h => by rw [← hAe]; exact Or.inr h
  have hS : va_S A s.heap s.heap [] := va_S.rf
  have hP : va_P (dC, dI) vwCl [(h0, .inr (16, [m0, m1, .ref h1, .int 0, .int 0, m5, m6, m7, m8, m9, m10, m11, m12, m13, m14, m15, m16, .null, m18, m19, m20, m21, m22, m23, m24, m25, m26, .int 0, m28, m29, .int 0, .int 0, .int 0, m33, m34, m35, .int 0, m37, m38, m39, m40, m41, m42, m43, m44, m45, m46, m47, m48, m49, .int 0, m51, m52, m53, m54, m55, m56, m57, m58, m59, m60, m61, m62, m63, m64, m65, m66, m67, m68, m69, m70, m71, m72, m73, m74, m75, m76, m77, m78, m79, m80, m81, m82, m83, m84, m85, m86, m87, m88, m89, m90, m91, .int 0, .int 0, m94, m95, m96, m97, m98, m99, m100, m101, m102, m103, m104, m105, m106, m107, m108, m109, .long 0, .long 0, .int 0, m113, m114, m115, m116, m117, m118, m119, m120, m121, m122])), (h1, .inl (cB, 1500, .inl f1))] s.heap := hP
  have hl := lv_entry ([.ref h0, .long g1, .int 8]) (n := 5) (Nat.le_of_ble_eq_true rfl)
  rw [lg_entry_eq]
  generalize (lg_sl ([.ref h0, .long g1, .int 8]) ++ List.replicate (5 - (lg_sl ([.ref h0, .long g1, .int 8])).length) Slot.unset).toArray = ls at hl ⊢
  have hl : lv_has ls 5 [(0, .ref h0), (1, .long g1), (3, .int 8)] := hl
  refine lv_aload_n hx hb dX16_feed_8_0 rfl (lv_at hl 0 rfl) ?_
  refine lv_iload_n hx hb dX16_feed_8_1 rfl (lv_at hl 2 rfl) ?_
  refine lv_i2l (v := 8) hx hb dX16_feed_8_2 (by decide) ?_
  refine lv_lconst (v := 1) hx hb dX16_feed_8_3 (by decide) ?_
  refine lv_ldc2 hx hb hown (hts (.constantLong RX16 250 8) (wm_X16_feed_8 0 rfl)) dX16_feed_8_4 ?_
  have hPc := hP.sub (ws' := []) [] rfl
  have hDc := hD.sub (ws' := []) [] (by decide) rfl
  have hKc := hK.sub (tys' := []) [] rfl
  have hFc := va_free (wc := []) hD hS hA [] rfl
  have h_1 : 0 ≤ 0 := by decide
  have h_2 : 0 ≤ 0 := by decide
  refine va_calli (va_runS (As := [.long 8, .long 1, .long 8]) (rest := [.ref h0]) ⟨hx, hb, hml, hown, hts⟩ (r_X16_within_1 l dC dI 8 1 8 _) (va_cwS 3 hts wt_X16_feed_8_X16_within_1 rfl rfl rfl (by decide +kernel) ⟨Nat.le_of_ble_eq_true rfl, Nat.le_of_ble_eq_true rfl⟩) ⟨fun a U g mk q => by obtain ⟨q0, q1, qP, qK, qD, qp⟩ := q; exact ⟨q0, q1, qP, va_K.moved (u := U) (U := U.calling g mk a) (Vm.Alike.refl U.vm) qK, qD, qp⟩, fun U hU hW => ⟨rfl, by rw [hU], by rw [hU]; exact hPc, va_K.moved hW.alike hKc, hDc.weaken (fun _ _ _ _ => trivial), ⟨by decide, by decide⟩⟩⟩ rfl rfl hl.1 rfl (lv_room (Nat.le_of_ble_eq_true rfl)) dX16_feed_8_7 ⟨h_1, h_2⟩) hS (fun q _ h => hFc q h) hFc (fun y4 u3 t H1 locs ht hvm hw hB hz1 hk1 hS => ?_)
  obtain ⟨hP1, hK1, hD1⟩ := hB
  rw [ht] at hP1
  have hK1 := va_K.moved hvm.symm hK1
  obtain ⟨hP, hD⟩ := va_join (wr := [(h0, .inr (16, [m0, m1, .ref h1, .int 0, .int 0, m5, m6, m7, m8, m9, m10, m11, m12, m13, m14, m15, m16, .null, m18, m19, m20, m21, m22, m23, m24, m25, m26, .int 0, m28, m29, .int 0, .int 0, .int 0, m33, m34, m35, .int 0, m37, m38, m39, m40, m41, m42, m43, m44, m45, m46, m47, m48, m49, .int 0, m51, m52, m53, m54, m55, m56, m57, m58, m59, m60, m61, m62, m63, m64, m65, m66, m67, m68, m69, m70, m71, m72, m73, m74, m75, m76, m77, m78, m79, m80, m81, m82, m83, m84, m85, m86, m87, m88, m89, m90, m91, .int 0, .int 0, m94, m95, m96, m97, m98, m99, m100, m101, m102, m103, m104, m105, m106, m107, m108, m109, .long 0, .long 0, .int 0, m113, m114, m115, m116, m117, m118, m119, m120, m121, m122])), (h1, .inl (cB, 1500, .inl f1))]) (w1 := []) hP hD [] [0, 1] rfl rfl (by decide) (by decide) hk1 hFc hP1 hD1
  have hK := (hK.sub (tys' := [(cB, .byte)]) [0] rfl).app hK1
  generalize H1 = H at hP hS ⊢
  have hP : va_P (dC, dI) vwCl [(h0, .inr (16, [m0, m1, .ref h1, .int 0, .int 0, m5, m6, m7, m8, m9, m10, m11, m12, m13, m14, m15, m16, .null, m18, m19, m20, m21, m22, m23, m24, m25, m26, .int 0, m28, m29, .int 0, .int 0, .int 0, m33, m34, m35, .int 0, m37, m38, m39, m40, m41, m42, m43, m44, m45, m46, m47, m48, m49, .int 0, m51, m52, m53, m54, m55, m56, m57, m58, m59, m60, m61, m62, m63, m64, m65, m66, m67, m68, m69, m70, m71, m72, m73, m74, m75, m76, m77, m78, m79, m80, m81, m82, m83, m84, m85, m86, m87, m88, m89, m90, m91, .int 0, .int 0, m94, m95, m96, m97, m98, m99, m100, m101, m102, m103, m104, m105, m106, m107, m108, m109, .long 0, .long 0, .int 0, m113, m114, m115, m116, m117, m118, m119, m120, m121, m122])), (h1, .inl (cB, 1500, .inl f1))] H := hP
  have hD : va_D A [(h0, .inr (16, [m0, m1, .ref h1, .int 0, .int 0, m5, m6, m7, m8, m9, m10, m11, m12, m13, m14, m15, m16, .null, m18, m19, m20, m21, m22, m23, m24, m25, m26, .int 0, m28, m29, .int 0, .int 0, .int 0, m33, m34, m35, .int 0, m37, m38, m39, m40, m41, m42, m43, m44, m45, m46, m47, m48, m49, .int 0, m51, m52, m53, m54, m55, m56, m57, m58, m59, m60, m61, m62, m63, m64, m65, m66, m67, m68, m69, m70, m71, m72, m73, m74, m75, m76, m77, m78, m79, m80, m81, m82, m83, m84, m85, m86, m87, m88, m89, m90, m91, .int 0, .int 0, m94, m95, m96, m97, m98, m99, m100, m101, m102, m103, m104, m105, m106, m107, m108, m109, .long 0, .long 0, .int 0, m113, m114, m115, m116, m117, m118, m119, m120, m121, m122])), (h1, .inl (cB, 1500, .inl f1))] := hD
  have hK : va_K (dC, dI) vwCl [(cB, .byte)] s := hK
  refine W.widen (k := 0) (n := 0) (by decide) (by decide) ?_
  have hw : y4 = 1 := hw
  subst hw
  refine lv_if_ne (tgt := 17) hx hb dX16_feed_8_10 (by decide) (fun _ => ?_) (fun h9 => absurd h9 (by decide))
  refine lv_aload_n hx hb dX16_feed_8_17 rfl (lv_at hl 0 rfl) ?_
  refine va_get (D := (dC, dI)) (ci := 16) (v := .int 0) (C := RX16) (T := TX16) (N := 123) hx hb hts wh_X16_feed_8_X16 hown hK hP 0 rfl rfl 3 (by decide) (hts (.fieldLink RX16 972 "StreamHouseModel" "taped" "I") (wm_X16_feed_8 4 rfl)) (fun _ h9 => h9) rfl dX16_feed_8_18 ?_
  refine lv_iload_n hx hb dX16_feed_8_21 rfl (lv_at hl 2 rfl) ?_
  refine lv_iadd hx hb dX16_feed_8_22 ?_
  refine W.eq (g2 := F0 m 23 ls [.int 8, .ref h0]) rfl ?_
  refine lv_sipush (v := 1500) hx hb dX16_feed_8_23 (by decide) ?_
  refine lv_icmp_le (tgt := 33) hx hb dX16_feed_8_26 (by decide) (fun _ => ?_) (fun h9 => absurd (by decide) h9)
  refine lv_iconst (v := 0) hx hb dX16_feed_8_33 (by decide) ?_
  refine va_put (D := (dC, dI)) (ci := 16) (v := .int 0) (ty := .int) (C := RX16) (T := TX16) (N := 123) hx hb hts wh_X16_feed_8_X16 tyX16 tyX16_ok nmX16 hown hK hP hD hS 0 rfl rfl 0 (by decide) (hts (.fieldLink RX16 1 "StreamHouseModel" "code" "I") (wm_X16_feed_8 5 rfl)) (fun _ h9 => h9) rfl (by decide +kernel) rfl rfl (Nat.le_of_ble_eq_true rfl) dX16_feed_8_34 (fun H locs hP hD hS => ?_)
  have hP : va_P (dC, dI) vwCl [(h0, .inr (16, [.int 0, m1, .ref h1, .int 0, .int 0, m5, m6, m7, m8, m9, m10, m11, m12, m13, m14, m15, m16, .null, m18, m19, m20, m21, m22, m23, m24, m25, m26, .int 0, m28, m29, .int 0, .int 0, .int 0, m33, m34, m35, .int 0, m37, m38, m39, m40, m41, m42, m43, m44, m45, m46, m47, m48, m49, .int 0, m51, m52, m53, m54, m55, m56, m57, m58, m59, m60, m61, m62, m63, m64, m65, m66, m67, m68, m69, m70, m71, m72, m73, m74, m75, m76, m77, m78, m79, m80, m81, m82, m83, m84, m85, m86, m87, m88, m89, m90, m91, .int 0, .int 0, m94, m95, m96, m97, m98, m99, m100, m101, m102, m103, m104, m105, m106, m107, m108, m109, .long 0, .long 0, .int 0, m113, m114, m115, m116, m117, m118, m119, m120, m121, m122])), (h1, .inl (cB, 1500, .inl f1))] H := hP
  have hD : va_D A [(h0, .inr (16, [.int 0, m1, .ref h1, .int 0, .int 0, m5, m6, m7, m8, m9, m10, m11, m12, m13, m14, m15, m16, .null, m18, m19, m20, m21, m22, m23, m24, m25, m26, .int 0, m28, m29, .int 0, .int 0, .int 0, m33, m34, m35, .int 0, m37, m38, m39, m40, m41, m42, m43, m44, m45, m46, m47, m48, m49, .int 0, m51, m52, m53, m54, m55, m56, m57, m58, m59, m60, m61, m62, m63, m64, m65, m66, m67, m68, m69, m70, m71, m72, m73, m74, m75, m76, m77, m78, m79, m80, m81, m82, m83, m84, m85, m86, m87, m88, m89, m90, m91, .int 0, .int 0, m94, m95, m96, m97, m98, m99, m100, m101, m102, m103, m104, m105, m106, m107, m108, m109, .long 0, .long 0, .int 0, m113, m114, m115, m116, m117, m118, m119, m120, m121, m122])), (h1, .inl (cB, 1500, .inl f1))] := hD
  refine lv_iload_n hx hb dX16_feed_8_37 rfl (lv_at hl 2 rfl) ?_
  refine lv_iconst (v := 1) hx hb dX16_feed_8_38 (by decide) ?_
  refine lv_isub hx hb dX16_feed_8_39 ?_
  refine W.eq (g2 := F0 m 40 ls [.int 7]) rfl ?_
  refine lv_istore (lv' := [(4, .int 7), (0, .ref h0), (1, .long g1), (3, .int 8)]) hx hb dX16_feed_8_40 hl (by decide) rfl (fun ls hl => ?_)
  refine lv_iload hx hb dX16_feed_8_42 (lv_at hl 0 rfl) ?_
  refine lv_if_lt (tgt := 85) hx hb dX16_feed_8_44 (by decide) (fun h9 => absurd h9 (by decide)) (fun _ => ?_)
  refine lv_aload_n hx hb dX16_feed_8_47 rfl (lv_at hl 1 rfl) ?_
  refine va_get (D := (dC, dI)) (ci := 16) (v := .int 0) (C := RX16) (T := TX16) (N := 123) hx hb hts wh_X16_feed_8_X16 hown hK hP 0 rfl rfl 0 (by decide) (hts (.fieldLink RX16 1 "StreamHouseModel" "code" "I") (wm_X16_feed_8 5 rfl)) (fun _ h9 => h9) rfl dX16_feed_8_48 ?_
  refine lv_if_ne (tgt := 85) hx hb dX16_feed_8_51 (by decide) (fun h9 => absurd (by decide) h9) (fun _ => ?_)
  refine lv_aload_n hx hb dX16_feed_8_54 rfl (lv_at hl 1 rfl) ?_
  refine va_get (D := (dC, dI)) (ci := 16) (v := .ref h1) (C := RX16) (T := TX16) (N := 123) hx hb hts wh_X16_feed_8_X16 hown hK hP 0 rfl rfl 2 (by decide) (hts (.fieldLink RX16 20 "StreamHouseModel" "tape" "[B") (wm_X16_feed_8 6 rfl)) (fun _ h9 => h9) rfl dX16_feed_8_55 ?_
  refine lv_aload_n hx hb dX16_feed_8_58 rfl (lv_at hl 1 rfl) ?_
  refine lv_dup hx hb dX16_feed_8_59 rfl ?_
  refine va_get (D := (dC, dI)) (ci := 16) (v := .int 0) (C := RX16) (T := TX16) (N := 123) hx hb hts wh_X16_feed_8_X16 hown hK hP 0 rfl rfl 3 (by decide) (hts (.fieldLink RX16 972 "StreamHouseModel" "taped" "I") (wm_X16_feed_8 4 rfl)) (fun _ h9 => h9) rfl dX16_feed_8_60 ?_
  refine lv_dup_x1 hx hb dX16_feed_8_63 rfl rfl ?_
  refine lv_iconst (v := 1) hx hb dX16_feed_8_64 (by decide) ?_
  refine lv_iadd hx hb dX16_feed_8_65 ?_
  refine W.eq (g2 := F0 m 66 ls [.int 1, .ref h0, .int 0, .ref h1]) rfl ?_
  refine va_put (D := (dC, dI)) (ci := 16) (v := .int 1) (ty := .int) (C := RX16) (T := TX16) (N := 123) hx hb hts wh_X16_feed_8_X16 tyX16 tyX16_ok nmX16 hown hK hP hD hS 0 rfl rfl 3 (by decide) (hts (.fieldLink RX16 972 "StreamHouseModel" "taped" "I") (wm_X16_feed_8 4 rfl)) (fun _ h9 => h9) rfl (by decide +kernel) rfl rfl (Nat.le_of_ble_eq_true rfl) dX16_feed_8_66 (fun H locs hP hD hS => ?_)
  have hP : va_P (dC, dI) vwCl [(h0, .inr (16, [.int 0, m1, .ref h1, .int 1, .int 0, m5, m6, m7, m8, m9, m10, m11, m12, m13, m14, m15, m16, .null, m18, m19, m20, m21, m22, m23, m24, m25, m26, .int 0, m28, m29, .int 0, .int 0, .int 0, m33, m34, m35, .int 0, m37, m38, m39, m40, m41, m42, m43, m44, m45, m46, m47, m48, m49, .int 0, m51, m52, m53, m54, m55, m56, m57, m58, m59, m60, m61, m62, m63, m64, m65, m66, m67, m68, m69, m70, m71, m72, m73, m74, m75, m76, m77, m78, m79, m80, m81, m82, m83, m84, m85, m86, m87, m88, m89, m90, m91, .int 0, .int 0, m94, m95, m96, m97, m98, m99, m100, m101, m102, m103, m104, m105, m106, m107, m108, m109, .long 0, .long 0, .int 0, m113, m114, m115, m116, m117, m118, m119, m120, m121, m122])), (h1, .inl (cB, 1500, .inl f1))] H := hP
  have hD : va_D A [(h0, .inr (16, [.int 0, m1, .ref h1, .int 1, .int 0, m5, m6, m7, m8, m9, m10, m11, m12, m13, m14, m15, m16, .null, m18, m19, m20, m21, m22, m23, m24, m25, m26, .int 0, m28, m29, .int 0, .int 0, .int 0, m33, m34, m35, .int 0, m37, m38, m39, m40, m41, m42, m43, m44, m45, m46, m47, m48, m49, .int 0, m51, m52, m53, m54, m55, m56, m57, m58, m59, m60, m61, m62, m63, m64, m65, m66, m67, m68, m69, m70, m71, m72, m73, m74, m75, m76, m77, m78, m79, m80, m81, m82, m83, m84, m85, m86, m87, m88, m89, m90, m91, .int 0, .int 0, m94, m95, m96, m97, m98, m99, m100, m101, m102, m103, m104, m105, m106, m107, m108, m109, .long 0, .long 0, .int 0, m113, m114, m115, m116, m117, m118, m119, m120, m121, m122])), (h1, .inl (cB, 1500, .inl f1))] := hD
  refine lv_lload_n hx hb dX16_feed_8_69 rfl (lv_at hl 2 rfl) ?_
  refine lv_bipush (v := 8) hx hb dX16_feed_8_70 (by decide) ?_
  refine lv_iload hx hb dX16_feed_8_72 (lv_at hl 0 rfl) ?_
  refine lv_imul hx hb dX16_feed_8_74 ?_
  refine W.eq (g2 := F0 m 75 ls [.int 56, .long g1, .int 0, .ref h1]) rfl ?_
  refine lv_lshr (v := _) hx hb dX16_feed_8_75 rfl ?_
  refine lv_topl (fun y5 _ => ?_)
  refine lv_l2i (v := _) hx hb dX16_feed_8_76 rfl ?_
  refine lv_topi (fun y6 _ => ?_)
  refine lv_i2b (v := _) hx hb dX16_feed_8_77 rfl ?_
  refine lv_topi (fun y7 _ => ?_)
  refine va_bast hx hb hK hP hD hS 1 0 rfl rfl (by unfold vp_in; decide) dX16_feed_8_78 (fun H locs hP hD hS => ?_)
  have hP : va_P (dC, dI) vwCl [(h0, .inr (16, [.int 0, m1, .ref h1, .int 1, .int 0, m5, m6, m7, m8, m9, m10, m11, m12, m13, m14, m15, m16, .null, m18, m19, m20, m21, m22, m23, m24, m25, m26, .int 0, m28, m29, .int 0, .int 0, .int 0, m33, m34, m35, .int 0, m37, m38, m39, m40, m41, m42, m43, m44, m45, m46, m47, m48, m49, .int 0, m51, m52, m53, m54, m55, m56, m57, m58, m59, m60, m61, m62, m63, m64, m65, m66, m67, m68, m69, m70, m71, m72, m73, m74, m75, m76, m77, m78, m79, m80, m81, m82, m83, m84, m85, m86, m87, m88, m89, m90, m91, .int 0, .int 0, m94, m95, m96, m97, m98, m99, m100, m101, m102, m103, m104, m105, m106, m107, m108, m109, .long 0, .long 0, .int 0, m113, m114, m115, m116, m117, m118, m119, m120, m121, m122])), (h1, .inl (cB, 1500, .inl (upd f1 0 (vp_nar .byte y7))))] H := hP
  have hD : va_D A [(h0, .inr (16, [.int 0, m1, .ref h1, .int 1, .int 0, m5, m6, m7, m8, m9, m10, m11, m12, m13, m14, m15, m16, .null, m18, m19, m20, m21, m22, m23, m24, m25, m26, .int 0, m28, m29, .int 0, .int 0, .int 0, m33, m34, m35, .int 0, m37, m38, m39, m40, m41, m42, m43, m44, m45, m46, m47, m48, m49, .int 0, m51, m52, m53, m54, m55, m56, m57, m58, m59, m60, m61, m62, m63, m64, m65, m66, m67, m68, m69, m70, m71, m72, m73, m74, m75, m76, m77, m78, m79, m80, m81, m82, m83, m84, m85, m86, m87, m88, m89, m90, m91, .int 0, .int 0, m94, m95, m96, m97, m98, m99, m100, m101, m102, m103, m104, m105, m106, m107, m108, m109, .long 0, .long 0, .int 0, m113, m114, m115, m116, m117, m118, m119, m120, m121, m122])), (h1, .inl (cB, 1500, .inl (upd f1 0 (vp_nar .byte y7))))] := hD
  refine lv_iinc (k := 0) (v := 6) (lv' := [(4, .int 6), (0, .ref h0), (1, .long g1), (3, .int 8)]) hx hb dX16_feed_8_79 hl rfl (by decide) (by decide) rfl (fun ls hl => ?_)
  refine lv_goto (tgt := 42) hx hb dX16_feed_8_82 (by decide) ?_
  refine lv_iload hx hb dX16_feed_8_42 (lv_at hl 0 rfl) ?_
  refine lv_if_lt (tgt := 85) hx hb dX16_feed_8_44 (by decide) (fun h9 => absurd h9 (by decide)) (fun _ => ?_)
  refine lv_aload_n hx hb dX16_feed_8_47 rfl (lv_at hl 1 rfl) ?_
  refine va_get (D := (dC, dI)) (ci := 16) (v := .int 0) (C := RX16) (T := TX16) (N := 123) hx hb hts wh_X16_feed_8_X16 hown hK hP 0 rfl rfl 0 (by decide) (hts (.fieldLink RX16 1 "StreamHouseModel" "code" "I") (wm_X16_feed_8 5 rfl)) (fun _ h9 => h9) rfl dX16_feed_8_48 ?_
  refine lv_if_ne (tgt := 85) hx hb dX16_feed_8_51 (by decide) (fun h9 => absurd (by decide) h9) (fun _ => ?_)
  refine lv_aload_n hx hb dX16_feed_8_54 rfl (lv_at hl 1 rfl) ?_
  refine va_get (D := (dC, dI)) (ci := 16) (v := .ref h1) (C := RX16) (T := TX16) (N := 123) hx hb hts wh_X16_feed_8_X16 hown hK hP 0 rfl rfl 2 (by decide) (hts (.fieldLink RX16 20 "StreamHouseModel" "tape" "[B") (wm_X16_feed_8 6 rfl)) (fun _ h9 => h9) rfl dX16_feed_8_55 ?_
  refine lv_aload_n hx hb dX16_feed_8_58 rfl (lv_at hl 1 rfl) ?_
  refine lv_dup hx hb dX16_feed_8_59 rfl ?_
  refine va_get (D := (dC, dI)) (ci := 16) (v := .int 1) (C := RX16) (T := TX16) (N := 123) hx hb hts wh_X16_feed_8_X16 hown hK hP 0 rfl rfl 3 (by decide) (hts (.fieldLink RX16 972 "StreamHouseModel" "taped" "I") (wm_X16_feed_8 4 rfl)) (fun _ h9 => h9) rfl dX16_feed_8_60 ?_
  refine lv_dup_x1 hx hb dX16_feed_8_63 rfl rfl ?_
  refine lv_iconst (v := 1) hx hb dX16_feed_8_64 (by decide) ?_
  refine lv_iadd hx hb dX16_feed_8_65 ?_
  refine W.eq (g2 := F0 m 66 ls [.int 2, .ref h0, .int 1, .ref h1]) rfl ?_
  refine va_put (D := (dC, dI)) (ci := 16) (v := .int 2) (ty := .int) (C := RX16) (T := TX16) (N := 123) hx hb hts wh_X16_feed_8_X16 tyX16 tyX16_ok nmX16 hown hK hP hD hS 0 rfl rfl 3 (by decide) (hts (.fieldLink RX16 972 "StreamHouseModel" "taped" "I") (wm_X16_feed_8 4 rfl)) (fun _ h9 => h9) rfl (by decide +kernel) rfl rfl (Nat.le_of_ble_eq_true rfl) dX16_feed_8_66 (fun H locs hP hD hS => ?_)
  have hP : va_P (dC, dI) vwCl [(h0, .inr (16, [.int 0, m1, .ref h1, .int 2, .int 0, m5, m6, m7, m8, m9, m10, m11, m12, m13, m14, m15, m16, .null, m18, m19, m20, m21, m22, m23, m24, m25, m26, .int 0, m28, m29, .int 0, .int 0, .int 0, m33, m34, m35, .int 0, m37, m38, m39, m40, m41, m42, m43, m44, m45, m46, m47, m48, m49, .int 0, m51, m52, m53, m54, m55, m56, m57, m58, m59, m60, m61, m62, m63, m64, m65, m66, m67, m68, m69, m70, m71, m72, m73, m74, m75, m76, m77, m78, m79, m80, m81, m82, m83, m84, m85, m86, m87, m88, m89, m90, m91, .int 0, .int 0, m94, m95, m96, m97, m98, m99, m100, m101, m102, m103, m104, m105, m106, m107, m108, m109, .long 0, .long 0, .int 0, m113, m114, m115, m116, m117, m118, m119, m120, m121, m122])), (h1, .inl (cB, 1500, .inl (upd f1 0 (vp_nar .byte y7))))] H := hP
  have hD : va_D A [(h0, .inr (16, [.int 0, m1, .ref h1, .int 2, .int 0, m5, m6, m7, m8, m9, m10, m11, m12, m13, m14, m15, m16, .null, m18, m19, m20, m21, m22, m23, m24, m25, m26, .int 0, m28, m29, .int 0, .int 0, .int 0, m33, m34, m35, .int 0, m37, m38, m39, m40, m41, m42, m43, m44, m45, m46, m47, m48, m49, .int 0, m51, m52, m53, m54, m55, m56, m57, m58, m59, m60, m61, m62, m63, m64, m65, m66, m67, m68, m69, m70, m71, m72, m73, m74, m75, m76, m77, m78, m79, m80, m81, m82, m83, m84, m85, m86, m87, m88, m89, m90, m91, .int 0, .int 0, m94, m95, m96, m97, m98, m99, m100, m101, m102, m103, m104, m105, m106, m107, m108, m109, .long 0, .long 0, .int 0, m113, m114, m115, m116, m117, m118, m119, m120, m121, m122])), (h1, .inl (cB, 1500, .inl (upd f1 0 (vp_nar .byte y7))))] := hD
  refine lv_lload_n hx hb dX16_feed_8_69 rfl (lv_at hl 2 rfl) ?_
  refine lv_bipush (v := 8) hx hb dX16_feed_8_70 (by decide) ?_
  refine lv_iload hx hb dX16_feed_8_72 (lv_at hl 0 rfl) ?_
  refine lv_imul hx hb dX16_feed_8_74 ?_
  refine W.eq (g2 := F0 m 75 ls [.int 48, .long g1, .int 1, .ref h1]) rfl ?_
  refine lv_lshr (v := _) hx hb dX16_feed_8_75 rfl ?_
  refine lv_topl (fun y8 _ => ?_)
  refine lv_l2i (v := _) hx hb dX16_feed_8_76 rfl ?_
  refine lv_topi (fun y9 _ => ?_)
  refine lv_i2b (v := _) hx hb dX16_feed_8_77 rfl ?_
  refine lv_topi (fun y10 _ => ?_)
  refine va_bast hx hb hK hP hD hS 1 0 rfl rfl (by unfold vp_in; decide) dX16_feed_8_78 (fun H locs hP hD hS => ?_)
  have hP : va_P (dC, dI) vwCl [(h0, .inr (16, [.int 0, m1, .ref h1, .int 2, .int 0, m5, m6, m7, m8, m9, m10, m11, m12, m13, m14, m15, m16, .null, m18, m19, m20, m21, m22, m23, m24, m25, m26, .int 0, m28, m29, .int 0, .int 0, .int 0, m33, m34, m35, .int 0, m37, m38, m39, m40, m41, m42, m43, m44, m45, m46, m47, m48, m49, .int 0, m51, m52, m53, m54, m55, m56, m57, m58, m59, m60, m61, m62, m63, m64, m65, m66, m67, m68, m69, m70, m71, m72, m73, m74, m75, m76, m77, m78, m79, m80, m81, m82, m83, m84, m85, m86, m87, m88, m89, m90, m91, .int 0, .int 0, m94, m95, m96, m97, m98, m99, m100, m101, m102, m103, m104, m105, m106, m107, m108, m109, .long 0, .long 0, .int 0, m113, m114, m115, m116, m117, m118, m119, m120, m121, m122])), (h1, .inl (cB, 1500, .inl (upd (upd f1 0 (vp_nar .byte y7)) 1 (vp_nar .byte y10))))] H := hP
  have hD : va_D A [(h0, .inr (16, [.int 0, m1, .ref h1, .int 2, .int 0, m5, m6, m7, m8, m9, m10, m11, m12, m13, m14, m15, m16, .null, m18, m19, m20, m21, m22, m23, m24, m25, m26, .int 0, m28, m29, .int 0, .int 0, .int 0, m33, m34, m35, .int 0, m37, m38, m39, m40, m41, m42, m43, m44, m45, m46, m47, m48, m49, .int 0, m51, m52, m53, m54, m55, m56, m57, m58, m59, m60, m61, m62, m63, m64, m65, m66, m67, m68, m69, m70, m71, m72, m73, m74, m75, m76, m77, m78, m79, m80, m81, m82, m83, m84, m85, m86, m87, m88, m89, m90, m91, .int 0, .int 0, m94, m95, m96, m97, m98, m99, m100, m101, m102, m103, m104, m105, m106, m107, m108, m109, .long 0, .long 0, .int 0, m113, m114, m115, m116, m117, m118, m119, m120, m121, m122])), (h1, .inl (cB, 1500, .inl (upd (upd f1 0 (vp_nar .byte y7)) 1 (vp_nar .byte y10))))] := hD
  refine lv_iinc (k := 0) (v := 5) (lv' := [(4, .int 5), (0, .ref h0), (1, .long g1), (3, .int 8)]) hx hb dX16_feed_8_79 hl rfl (by decide) (by decide) rfl (fun ls hl => ?_)
  refine lv_goto (tgt := 42) hx hb dX16_feed_8_82 (by decide) ?_
  refine lv_iload hx hb dX16_feed_8_42 (lv_at hl 0 rfl) ?_
  refine lv_if_lt (tgt := 85) hx hb dX16_feed_8_44 (by decide) (fun h9 => absurd h9 (by decide)) (fun _ => ?_)
  refine lv_aload_n hx hb dX16_feed_8_47 rfl (lv_at hl 1 rfl) ?_
  refine va_get (D := (dC, dI)) (ci := 16) (v := .int 0) (C := RX16) (T := TX16) (N := 123) hx hb hts wh_X16_feed_8_X16 hown hK hP 0 rfl rfl 0 (by decide) (hts (.fieldLink RX16 1 "StreamHouseModel" "code" "I") (wm_X16_feed_8 5 rfl)) (fun _ h9 => h9) rfl dX16_feed_8_48 ?_
  refine lv_if_ne (tgt := 85) hx hb dX16_feed_8_51 (by decide) (fun h9 => absurd (by decide) h9) (fun _ => ?_)
  refine lv_aload_n hx hb dX16_feed_8_54 rfl (lv_at hl 1 rfl) ?_
  refine va_get (D := (dC, dI)) (ci := 16) (v := .ref h1) (C := RX16) (T := TX16) (N := 123) hx hb hts wh_X16_feed_8_X16 hown hK hP 0 rfl rfl 2 (by decide) (hts (.fieldLink RX16 20 "StreamHouseModel" "tape" "[B") (wm_X16_feed_8 6 rfl)) (fun _ h9 => h9) rfl dX16_feed_8_55 ?_
  refine lv_aload_n hx hb dX16_feed_8_58 rfl (lv_at hl 1 rfl) ?_
  refine lv_dup hx hb dX16_feed_8_59 rfl ?_
  refine va_get (D := (dC, dI)) (ci := 16) (v := .int 2) (C := RX16) (T := TX16) (N := 123) hx hb hts wh_X16_feed_8_X16 hown hK hP 0 rfl rfl 3 (by decide) (hts (.fieldLink RX16 972 "StreamHouseModel" "taped" "I") (wm_X16_feed_8 4 rfl)) (fun _ h9 => h9) rfl dX16_feed_8_60 ?_
  refine lv_dup_x1 hx hb dX16_feed_8_63 rfl rfl ?_
  refine lv_iconst (v := 1) hx hb dX16_feed_8_64 (by decide) ?_
  refine lv_iadd hx hb dX16_feed_8_65 ?_
  refine W.eq (g2 := F0 m 66 ls [.int 3, .ref h0, .int 2, .ref h1]) rfl ?_
  refine va_put (D := (dC, dI)) (ci := 16) (v := .int 3) (ty := .int) (C := RX16) (T := TX16) (N := 123) hx hb hts wh_X16_feed_8_X16 tyX16 tyX16_ok nmX16 hown hK hP hD hS 0 rfl rfl 3 (by decide) (hts (.fieldLink RX16 972 "StreamHouseModel" "taped" "I") (wm_X16_feed_8 4 rfl)) (fun _ h9 => h9) rfl (by decide +kernel) rfl rfl (Nat.le_of_ble_eq_true rfl) dX16_feed_8_66 (fun H locs hP hD hS => ?_)
  have hP : va_P (dC, dI) vwCl [(h0, .inr (16, [.int 0, m1, .ref h1, .int 3, .int 0, m5, m6, m7, m8, m9, m10, m11, m12, m13, m14, m15, m16, .null, m18, m19, m20, m21, m22, m23, m24, m25, m26, .int 0, m28, m29, .int 0, .int 0, .int 0, m33, m34, m35, .int 0, m37, m38, m39, m40, m41, m42, m43, m44, m45, m46, m47, m48, m49, .int 0, m51, m52, m53, m54, m55, m56, m57, m58, m59, m60, m61, m62, m63, m64, m65, m66, m67, m68, m69, m70, m71, m72, m73, m74, m75, m76, m77, m78, m79, m80, m81, m82, m83, m84, m85, m86, m87, m88, m89, m90, m91, .int 0, .int 0, m94, m95, m96, m97, m98, m99, m100, m101, m102, m103, m104, m105, m106, m107, m108, m109, .long 0, .long 0, .int 0, m113, m114, m115, m116, m117, m118, m119, m120, m121, m122])), (h1, .inl (cB, 1500, .inl (upd (upd f1 0 (vp_nar .byte y7)) 1 (vp_nar .byte y10))))] H := hP
  have hD : va_D A [(h0, .inr (16, [.int 0, m1, .ref h1, .int 3, .int 0, m5, m6, m7, m8, m9, m10, m11, m12, m13, m14, m15, m16, .null, m18, m19, m20, m21, m22, m23, m24, m25, m26, .int 0, m28, m29, .int 0, .int 0, .int 0, m33, m34, m35, .int 0, m37, m38, m39, m40, m41, m42, m43, m44, m45, m46, m47, m48, m49, .int 0, m51, m52, m53, m54, m55, m56, m57, m58, m59, m60, m61, m62, m63, m64, m65, m66, m67, m68, m69, m70, m71, m72, m73, m74, m75, m76, m77, m78, m79, m80, m81, m82, m83, m84, m85, m86, m87, m88, m89, m90, m91, .int 0, .int 0, m94, m95, m96, m97, m98, m99, m100, m101, m102, m103, m104, m105, m106, m107, m108, m109, .long 0, .long 0, .int 0, m113, m114, m115, m116, m117, m118, m119, m120, m121, m122])), (h1, .inl (cB, 1500, .inl (upd (upd f1 0 (vp_nar .byte y7)) 1 (vp_nar .byte y10))))] := hD
  refine lv_lload_n hx hb dX16_feed_8_69 rfl (lv_at hl 2 rfl) ?_
  refine lv_bipush (v := 8) hx hb dX16_feed_8_70 (by decide) ?_
  refine lv_iload hx hb dX16_feed_8_72 (lv_at hl 0 rfl) ?_
  refine lv_imul hx hb dX16_feed_8_74 ?_
  refine W.eq (g2 := F0 m 75 ls [.int 40, .long g1, .int 2, .ref h1]) rfl ?_
  refine lv_lshr (v := _) hx hb dX16_feed_8_75 rfl ?_
  refine lv_topl (fun y11 _ => ?_)
  refine lv_l2i (v := _) hx hb dX16_feed_8_76 rfl ?_
  refine lv_topi (fun y12 _ => ?_)
  refine lv_i2b (v := _) hx hb dX16_feed_8_77 rfl ?_
  refine lv_topi (fun y13 _ => ?_)
  refine va_bast hx hb hK hP hD hS 1 0 rfl rfl (by unfold vp_in; decide) dX16_feed_8_78 (fun H locs hP hD hS => ?_)
  have hP : va_P (dC, dI) vwCl [(h0, .inr (16, [.int 0, m1, .ref h1, .int 3, .int 0, m5, m6, m7, m8, m9, m10, m11, m12, m13, m14, m15, m16, .null, m18, m19, m20, m21, m22, m23, m24, m25, m26, .int 0, m28, m29, .int 0, .int 0, .int 0, m33, m34, m35, .int 0, m37, m38, m39, m40, m41, m42, m43, m44, m45, m46, m47, m48, m49, .int 0, m51, m52, m53, m54, m55, m56, m57, m58, m59, m60, m61, m62, m63, m64, m65, m66, m67, m68, m69, m70, m71, m72, m73, m74, m75, m76, m77, m78, m79, m80, m81, m82, m83, m84, m85, m86, m87, m88, m89, m90, m91, .int 0, .int 0, m94, m95, m96, m97, m98, m99, m100, m101, m102, m103, m104, m105, m106, m107, m108, m109, .long 0, .long 0, .int 0, m113, m114, m115, m116, m117, m118, m119, m120, m121, m122])), (h1, .inl (cB, 1500, .inl (upd (upd (upd f1 0 (vp_nar .byte y7)) 1 (vp_nar .byte y10)) 2 (vp_nar .byte y13))))] H := hP
  have hD : va_D A [(h0, .inr (16, [.int 0, m1, .ref h1, .int 3, .int 0, m5, m6, m7, m8, m9, m10, m11, m12, m13, m14, m15, m16, .null, m18, m19, m20, m21, m22, m23, m24, m25, m26, .int 0, m28, m29, .int 0, .int 0, .int 0, m33, m34, m35, .int 0, m37, m38, m39, m40, m41, m42, m43, m44, m45, m46, m47, m48, m49, .int 0, m51, m52, m53, m54, m55, m56, m57, m58, m59, m60, m61, m62, m63, m64, m65, m66, m67, m68, m69, m70, m71, m72, m73, m74, m75, m76, m77, m78, m79, m80, m81, m82, m83, m84, m85, m86, m87, m88, m89, m90, m91, .int 0, .int 0, m94, m95, m96, m97, m98, m99, m100, m101, m102, m103, m104, m105, m106, m107, m108, m109, .long 0, .long 0, .int 0, m113, m114, m115, m116, m117, m118, m119, m120, m121, m122])), (h1, .inl (cB, 1500, .inl (upd (upd (upd f1 0 (vp_nar .byte y7)) 1 (vp_nar .byte y10)) 2 (vp_nar .byte y13))))] := hD
  refine lv_iinc (k := 0) (v := 4) (lv' := [(4, .int 4), (0, .ref h0), (1, .long g1), (3, .int 8)]) hx hb dX16_feed_8_79 hl rfl (by decide) (by decide) rfl (fun ls hl => ?_)
  refine lv_goto (tgt := 42) hx hb dX16_feed_8_82 (by decide) ?_
  refine lv_iload hx hb dX16_feed_8_42 (lv_at hl 0 rfl) ?_
  refine lv_if_lt (tgt := 85) hx hb dX16_feed_8_44 (by decide) (fun h9 => absurd h9 (by decide)) (fun _ => ?_)
  refine lv_aload_n hx hb dX16_feed_8_47 rfl (lv_at hl 1 rfl) ?_
  refine va_get (D := (dC, dI)) (ci := 16) (v := .int 0) (C := RX16) (T := TX16) (N := 123) hx hb hts wh_X16_feed_8_X16 hown hK hP 0 rfl rfl 0 (by decide) (hts (.fieldLink RX16 1 "StreamHouseModel" "code" "I") (wm_X16_feed_8 5 rfl)) (fun _ h9 => h9) rfl dX16_feed_8_48 ?_
  refine lv_if_ne (tgt := 85) hx hb dX16_feed_8_51 (by decide) (fun h9 => absurd (by decide) h9) (fun _ => ?_)
  refine lv_aload_n hx hb dX16_feed_8_54 rfl (lv_at hl 1 rfl) ?_
  refine va_get (D := (dC, dI)) (ci := 16) (v := .ref h1) (C := RX16) (T := TX16) (N := 123) hx hb hts wh_X16_feed_8_X16 hown hK hP 0 rfl rfl 2 (by decide) (hts (.fieldLink RX16 20 "StreamHouseModel" "tape" "[B") (wm_X16_feed_8 6 rfl)) (fun _ h9 => h9) rfl dX16_feed_8_55 ?_
  refine lv_aload_n hx hb dX16_feed_8_58 rfl (lv_at hl 1 rfl) ?_
  refine lv_dup hx hb dX16_feed_8_59 rfl ?_
  refine va_get (D := (dC, dI)) (ci := 16) (v := .int 3) (C := RX16) (T := TX16) (N := 123) hx hb hts wh_X16_feed_8_X16 hown hK hP 0 rfl rfl 3 (by decide) (hts (.fieldLink RX16 972 "StreamHouseModel" "taped" "I") (wm_X16_feed_8 4 rfl)) (fun _ h9 => h9) rfl dX16_feed_8_60 ?_
  refine lv_dup_x1 hx hb dX16_feed_8_63 rfl rfl ?_
  refine lv_iconst (v := 1) hx hb dX16_feed_8_64 (by decide) ?_
  refine lv_iadd hx hb dX16_feed_8_65 ?_
  refine W.eq (g2 := F0 m 66 ls [.int 4, .ref h0, .int 3, .ref h1]) rfl ?_
  refine va_put (D := (dC, dI)) (ci := 16) (v := .int 4) (ty := .int) (C := RX16) (T := TX16) (N := 123) hx hb hts wh_X16_feed_8_X16 tyX16 tyX16_ok nmX16 hown hK hP hD hS 0 rfl rfl 3 (by decide) (hts (.fieldLink RX16 972 "StreamHouseModel" "taped" "I") (wm_X16_feed_8 4 rfl)) (fun _ h9 => h9) rfl (by decide +kernel) rfl rfl (Nat.le_of_ble_eq_true rfl) dX16_feed_8_66 (fun H locs hP hD hS => ?_)
  have hP : va_P (dC, dI) vwCl [(h0, .inr (16, [.int 0, m1, .ref h1, .int 4, .int 0, m5, m6, m7, m8, m9, m10, m11, m12, m13, m14, m15, m16, .null, m18, m19, m20, m21, m22, m23, m24, m25, m26, .int 0, m28, m29, .int 0, .int 0, .int 0, m33, m34, m35, .int 0, m37, m38, m39, m40, m41, m42, m43, m44, m45, m46, m47, m48, m49, .int 0, m51, m52, m53, m54, m55, m56, m57, m58, m59, m60, m61, m62, m63, m64, m65, m66, m67, m68, m69, m70, m71, m72, m73, m74, m75, m76, m77, m78, m79, m80, m81, m82, m83, m84, m85, m86, m87, m88, m89, m90, m91, .int 0, .int 0, m94, m95, m96, m97, m98, m99, m100, m101, m102, m103, m104, m105, m106, m107, m108, m109, .long 0, .long 0, .int 0, m113, m114, m115, m116, m117, m118, m119, m120, m121, m122])), (h1, .inl (cB, 1500, .inl (upd (upd (upd f1 0 (vp_nar .byte y7)) 1 (vp_nar .byte y10)) 2 (vp_nar .byte y13))))] H := hP
  have hD : va_D A [(h0, .inr (16, [.int 0, m1, .ref h1, .int 4, .int 0, m5, m6, m7, m8, m9, m10, m11, m12, m13, m14, m15, m16, .null, m18, m19, m20, m21, m22, m23, m24, m25, m26, .int 0, m28, m29, .int 0, .int 0, .int 0, m33, m34, m35, .int 0, m37, m38, m39, m40, m41, m42, m43, m44, m45, m46, m47, m48, m49, .int 0, m51, m52, m53, m54, m55, m56, m57, m58, m59, m60, m61, m62, m63, m64, m65, m66, m67, m68, m69, m70, m71, m72, m73, m74, m75, m76, m77, m78, m79, m80, m81, m82, m83, m84, m85, m86, m87, m88, m89, m90, m91, .int 0, .int 0, m94, m95, m96, m97, m98, m99, m100, m101, m102, m103, m104, m105, m106, m107, m108, m109, .long 0, .long 0, .int 0, m113, m114, m115, m116, m117, m118, m119, m120, m121, m122])), (h1, .inl (cB, 1500, .inl (upd (upd (upd f1 0 (vp_nar .byte y7)) 1 (vp_nar .byte y10)) 2 (vp_nar .byte y13))))] := hD
  refine lv_lload_n hx hb dX16_feed_8_69 rfl (lv_at hl 2 rfl) ?_
  refine lv_bipush (v := 8) hx hb dX16_feed_8_70 (by decide) ?_
  refine lv_iload hx hb dX16_feed_8_72 (lv_at hl 0 rfl) ?_
  refine lv_imul hx hb dX16_feed_8_74 ?_
  refine W.eq (g2 := F0 m 75 ls [.int 32, .long g1, .int 3, .ref h1]) rfl ?_
  refine lv_lshr (v := _) hx hb dX16_feed_8_75 rfl ?_
  refine lv_topl (fun y14 _ => ?_)
  refine lv_l2i (v := _) hx hb dX16_feed_8_76 rfl ?_
  refine lv_topi (fun y15 _ => ?_)
  refine lv_i2b (v := _) hx hb dX16_feed_8_77 rfl ?_
  refine lv_topi (fun y16 _ => ?_)
  refine va_bast hx hb hK hP hD hS 1 0 rfl rfl (by unfold vp_in; decide) dX16_feed_8_78 (fun H locs hP hD hS => ?_)
  have hP : va_P (dC, dI) vwCl [(h0, .inr (16, [.int 0, m1, .ref h1, .int 4, .int 0, m5, m6, m7, m8, m9, m10, m11, m12, m13, m14, m15, m16, .null, m18, m19, m20, m21, m22, m23, m24, m25, m26, .int 0, m28, m29, .int 0, .int 0, .int 0, m33, m34, m35, .int 0, m37, m38, m39, m40, m41, m42, m43, m44, m45, m46, m47, m48, m49, .int 0, m51, m52, m53, m54, m55, m56, m57, m58, m59, m60, m61, m62, m63, m64, m65, m66, m67, m68, m69, m70, m71, m72, m73, m74, m75, m76, m77, m78, m79, m80, m81, m82, m83, m84, m85, m86, m87, m88, m89, m90, m91, .int 0, .int 0, m94, m95, m96, m97, m98, m99, m100, m101, m102, m103, m104, m105, m106, m107, m108, m109, .long 0, .long 0, .int 0, m113, m114, m115, m116, m117, m118, m119, m120, m121, m122])), (h1, .inl (cB, 1500, .inl (upd (upd (upd (upd f1 0 (vp_nar .byte y7)) 1 (vp_nar .byte y10)) 2 (vp_nar .byte y13)) 3 (vp_nar .byte y16))))] H := hP
  have hD : va_D A [(h0, .inr (16, [.int 0, m1, .ref h1, .int 4, .int 0, m5, m6, m7, m8, m9, m10, m11, m12, m13, m14, m15, m16, .null, m18, m19, m20, m21, m22, m23, m24, m25, m26, .int 0, m28, m29, .int 0, .int 0, .int 0, m33, m34, m35, .int 0, m37, m38, m39, m40, m41, m42, m43, m44, m45, m46, m47, m48, m49, .int 0, m51, m52, m53, m54, m55, m56, m57, m58, m59, m60, m61, m62, m63, m64, m65, m66, m67, m68, m69, m70, m71, m72, m73, m74, m75, m76, m77, m78, m79, m80, m81, m82, m83, m84, m85, m86, m87, m88, m89, m90, m91, .int 0, .int 0, m94, m95, m96, m97, m98, m99, m100, m101, m102, m103, m104, m105, m106, m107, m108, m109, .long 0, .long 0, .int 0, m113, m114, m115, m116, m117, m118, m119, m120, m121, m122])), (h1, .inl (cB, 1500, .inl (upd (upd (upd (upd f1 0 (vp_nar .byte y7)) 1 (vp_nar .byte y10)) 2 (vp_nar .byte y13)) 3 (vp_nar .byte y16))))] := hD
  refine lv_iinc (k := 0) (v := 3) (lv' := [(4, .int 3), (0, .ref h0), (1, .long g1), (3, .int 8)]) hx hb dX16_feed_8_79 hl rfl (by decide) (by decide) rfl (fun ls hl => ?_)
  refine lv_goto (tgt := 42) hx hb dX16_feed_8_82 (by decide) ?_
  refine lv_iload hx hb dX16_feed_8_42 (lv_at hl 0 rfl) ?_
  refine lv_if_lt (tgt := 85) hx hb dX16_feed_8_44 (by decide) (fun h9 => absurd h9 (by decide)) (fun _ => ?_)
  refine lv_aload_n hx hb dX16_feed_8_47 rfl (lv_at hl 1 rfl) ?_
  refine va_get (D := (dC, dI)) (ci := 16) (v := .int 0) (C := RX16) (T := TX16) (N := 123) hx hb hts wh_X16_feed_8_X16 hown hK hP 0 rfl rfl 0 (by decide) (hts (.fieldLink RX16 1 "StreamHouseModel" "code" "I") (wm_X16_feed_8 5 rfl)) (fun _ h9 => h9) rfl dX16_feed_8_48 ?_
  refine lv_if_ne (tgt := 85) hx hb dX16_feed_8_51 (by decide) (fun h9 => absurd (by decide) h9) (fun _ => ?_)
  refine lv_aload_n hx hb dX16_feed_8_54 rfl (lv_at hl 1 rfl) ?_
  refine va_get (D := (dC, dI)) (ci := 16) (v := .ref h1) (C := RX16) (T := TX16) (N := 123) hx hb hts wh_X16_feed_8_X16 hown hK hP 0 rfl rfl 2 (by decide) (hts (.fieldLink RX16 20 "StreamHouseModel" "tape" "[B") (wm_X16_feed_8 6 rfl)) (fun _ h9 => h9) rfl dX16_feed_8_55 ?_
  refine lv_aload_n hx hb dX16_feed_8_58 rfl (lv_at hl 1 rfl) ?_
  refine lv_dup hx hb dX16_feed_8_59 rfl ?_
  refine va_get (D := (dC, dI)) (ci := 16) (v := .int 4) (C := RX16) (T := TX16) (N := 123) hx hb hts wh_X16_feed_8_X16 hown hK hP 0 rfl rfl 3 (by decide) (hts (.fieldLink RX16 972 "StreamHouseModel" "taped" "I") (wm_X16_feed_8 4 rfl)) (fun _ h9 => h9) rfl dX16_feed_8_60 ?_
  refine lv_dup_x1 hx hb dX16_feed_8_63 rfl rfl ?_
  refine lv_iconst (v := 1) hx hb dX16_feed_8_64 (by decide) ?_
  refine lv_iadd hx hb dX16_feed_8_65 ?_
  refine W.eq (g2 := F0 m 66 ls [.int 5, .ref h0, .int 4, .ref h1]) rfl ?_
  refine va_put (D := (dC, dI)) (ci := 16) (v := .int 5) (ty := .int) (C := RX16) (T := TX16) (N := 123) hx hb hts wh_X16_feed_8_X16 tyX16 tyX16_ok nmX16 hown hK hP hD hS 0 rfl rfl 3 (by decide) (hts (.fieldLink RX16 972 "StreamHouseModel" "taped" "I") (wm_X16_feed_8 4 rfl)) (fun _ h9 => h9) rfl (by decide +kernel) rfl rfl (Nat.le_of_ble_eq_true rfl) dX16_feed_8_66 (fun H locs hP hD hS => ?_)
  have hP : va_P (dC, dI) vwCl [(h0, .inr (16, [.int 0, m1, .ref h1, .int 5, .int 0, m5, m6, m7, m8, m9, m10, m11, m12, m13, m14, m15, m16, .null, m18, m19, m20, m21, m22, m23, m24, m25, m26, .int 0, m28, m29, .int 0, .int 0, .int 0, m33, m34, m35, .int 0, m37, m38, m39, m40, m41, m42, m43, m44, m45, m46, m47, m48, m49, .int 0, m51, m52, m53, m54, m55, m56, m57, m58, m59, m60, m61, m62, m63, m64, m65, m66, m67, m68, m69, m70, m71, m72, m73, m74, m75, m76, m77, m78, m79, m80, m81, m82, m83, m84, m85, m86, m87, m88, m89, m90, m91, .int 0, .int 0, m94, m95, m96, m97, m98, m99, m100, m101, m102, m103, m104, m105, m106, m107, m108, m109, .long 0, .long 0, .int 0, m113, m114, m115, m116, m117, m118, m119, m120, m121, m122])), (h1, .inl (cB, 1500, .inl (upd (upd (upd (upd f1 0 (vp_nar .byte y7)) 1 (vp_nar .byte y10)) 2 (vp_nar .byte y13)) 3 (vp_nar .byte y16))))] H := hP
  have hD : va_D A [(h0, .inr (16, [.int 0, m1, .ref h1, .int 5, .int 0, m5, m6, m7, m8, m9, m10, m11, m12, m13, m14, m15, m16, .null, m18, m19, m20, m21, m22, m23, m24, m25, m26, .int 0, m28, m29, .int 0, .int 0, .int 0, m33, m34, m35, .int 0, m37, m38, m39, m40, m41, m42, m43, m44, m45, m46, m47, m48, m49, .int 0, m51, m52, m53, m54, m55, m56, m57, m58, m59, m60, m61, m62, m63, m64, m65, m66, m67, m68, m69, m70, m71, m72, m73, m74, m75, m76, m77, m78, m79, m80, m81, m82, m83, m84, m85, m86, m87, m88, m89, m90, m91, .int 0, .int 0, m94, m95, m96, m97, m98, m99, m100, m101, m102, m103, m104, m105, m106, m107, m108, m109, .long 0, .long 0, .int 0, m113, m114, m115, m116, m117, m118, m119, m120, m121, m122])), (h1, .inl (cB, 1500, .inl (upd (upd (upd (upd f1 0 (vp_nar .byte y7)) 1 (vp_nar .byte y10)) 2 (vp_nar .byte y13)) 3 (vp_nar .byte y16))))] := hD
  refine lv_lload_n hx hb dX16_feed_8_69 rfl (lv_at hl 2 rfl) ?_
  refine lv_bipush (v := 8) hx hb dX16_feed_8_70 (by decide) ?_
  refine lv_iload hx hb dX16_feed_8_72 (lv_at hl 0 rfl) ?_
  refine lv_imul hx hb dX16_feed_8_74 ?_
  refine W.eq (g2 := F0 m 75 ls [.int 24, .long g1, .int 4, .ref h1]) rfl ?_
  refine lv_lshr (v := _) hx hb dX16_feed_8_75 rfl ?_
  refine lv_topl (fun y17 _ => ?_)
  refine lv_l2i (v := _) hx hb dX16_feed_8_76 rfl ?_
  refine lv_topi (fun y18 _ => ?_)
  refine lv_i2b (v := _) hx hb dX16_feed_8_77 rfl ?_
  refine lv_topi (fun y19 _ => ?_)
  refine va_bast hx hb hK hP hD hS 1 0 rfl rfl (by unfold vp_in; decide) dX16_feed_8_78 (fun H locs hP hD hS => ?_)
  have hP : va_P (dC, dI) vwCl [(h0, .inr (16, [.int 0, m1, .ref h1, .int 5, .int 0, m5, m6, m7, m8, m9, m10, m11, m12, m13, m14, m15, m16, .null, m18, m19, m20, m21, m22, m23, m24, m25, m26, .int 0, m28, m29, .int 0, .int 0, .int 0, m33, m34, m35, .int 0, m37, m38, m39, m40, m41, m42, m43, m44, m45, m46, m47, m48, m49, .int 0, m51, m52, m53, m54, m55, m56, m57, m58, m59, m60, m61, m62, m63, m64, m65, m66, m67, m68, m69, m70, m71, m72, m73, m74, m75, m76, m77, m78, m79, m80, m81, m82, m83, m84, m85, m86, m87, m88, m89, m90, m91, .int 0, .int 0, m94, m95, m96, m97, m98, m99, m100, m101, m102, m103, m104, m105, m106, m107, m108, m109, .long 0, .long 0, .int 0, m113, m114, m115, m116, m117, m118, m119, m120, m121, m122])), (h1, .inl (cB, 1500, .inl (upd (upd (upd (upd (upd f1 0 (vp_nar .byte y7)) 1 (vp_nar .byte y10)) 2 (vp_nar .byte y13)) 3 (vp_nar .byte y16)) 4 (vp_nar .byte y19))))] H := hP
  have hD : va_D A [(h0, .inr (16, [.int 0, m1, .ref h1, .int 5, .int 0, m5, m6, m7, m8, m9, m10, m11, m12, m13, m14, m15, m16, .null, m18, m19, m20, m21, m22, m23, m24, m25, m26, .int 0, m28, m29, .int 0, .int 0, .int 0, m33, m34, m35, .int 0, m37, m38, m39, m40, m41, m42, m43, m44, m45, m46, m47, m48, m49, .int 0, m51, m52, m53, m54, m55, m56, m57, m58, m59, m60, m61, m62, m63, m64, m65, m66, m67, m68, m69, m70, m71, m72, m73, m74, m75, m76, m77, m78, m79, m80, m81, m82, m83, m84, m85, m86, m87, m88, m89, m90, m91, .int 0, .int 0, m94, m95, m96, m97, m98, m99, m100, m101, m102, m103, m104, m105, m106, m107, m108, m109, .long 0, .long 0, .int 0, m113, m114, m115, m116, m117, m118, m119, m120, m121, m122])), (h1, .inl (cB, 1500, .inl (upd (upd (upd (upd (upd f1 0 (vp_nar .byte y7)) 1 (vp_nar .byte y10)) 2 (vp_nar .byte y13)) 3 (vp_nar .byte y16)) 4 (vp_nar .byte y19))))] := hD
  refine lv_iinc (k := 0) (v := 2) (lv' := [(4, .int 2), (0, .ref h0), (1, .long g1), (3, .int 8)]) hx hb dX16_feed_8_79 hl rfl (by decide) (by decide) rfl (fun ls hl => ?_)
  refine lv_goto (tgt := 42) hx hb dX16_feed_8_82 (by decide) ?_
  refine lv_iload hx hb dX16_feed_8_42 (lv_at hl 0 rfl) ?_
  refine lv_if_lt (tgt := 85) hx hb dX16_feed_8_44 (by decide) (fun h9 => absurd h9 (by decide)) (fun _ => ?_)
  refine lv_aload_n hx hb dX16_feed_8_47 rfl (lv_at hl 1 rfl) ?_
  refine va_get (D := (dC, dI)) (ci := 16) (v := .int 0) (C := RX16) (T := TX16) (N := 123) hx hb hts wh_X16_feed_8_X16 hown hK hP 0 rfl rfl 0 (by decide) (hts (.fieldLink RX16 1 "StreamHouseModel" "code" "I") (wm_X16_feed_8 5 rfl)) (fun _ h9 => h9) rfl dX16_feed_8_48 ?_
  refine lv_if_ne (tgt := 85) hx hb dX16_feed_8_51 (by decide) (fun h9 => absurd (by decide) h9) (fun _ => ?_)
  refine lv_aload_n hx hb dX16_feed_8_54 rfl (lv_at hl 1 rfl) ?_
  refine va_get (D := (dC, dI)) (ci := 16) (v := .ref h1) (C := RX16) (T := TX16) (N := 123) hx hb hts wh_X16_feed_8_X16 hown hK hP 0 rfl rfl 2 (by decide) (hts (.fieldLink RX16 20 "StreamHouseModel" "tape" "[B") (wm_X16_feed_8 6 rfl)) (fun _ h9 => h9) rfl dX16_feed_8_55 ?_
  refine lv_aload_n hx hb dX16_feed_8_58 rfl (lv_at hl 1 rfl) ?_
  refine lv_dup hx hb dX16_feed_8_59 rfl ?_
  refine va_get (D := (dC, dI)) (ci := 16) (v := .int 5) (C := RX16) (T := TX16) (N := 123) hx hb hts wh_X16_feed_8_X16 hown hK hP 0 rfl rfl 3 (by decide) (hts (.fieldLink RX16 972 "StreamHouseModel" "taped" "I") (wm_X16_feed_8 4 rfl)) (fun _ h9 => h9) rfl dX16_feed_8_60 ?_
  refine lv_dup_x1 hx hb dX16_feed_8_63 rfl rfl ?_
  refine lv_iconst (v := 1) hx hb dX16_feed_8_64 (by decide) ?_
  refine lv_iadd hx hb dX16_feed_8_65 ?_
  refine W.eq (g2 := F0 m 66 ls [.int 6, .ref h0, .int 5, .ref h1]) rfl ?_
  refine va_put (D := (dC, dI)) (ci := 16) (v := .int 6) (ty := .int) (C := RX16) (T := TX16) (N := 123) hx hb hts wh_X16_feed_8_X16 tyX16 tyX16_ok nmX16 hown hK hP hD hS 0 rfl rfl 3 (by decide) (hts (.fieldLink RX16 972 "StreamHouseModel" "taped" "I") (wm_X16_feed_8 4 rfl)) (fun _ h9 => h9) rfl (by decide +kernel) rfl rfl (Nat.le_of_ble_eq_true rfl) dX16_feed_8_66 (fun H locs hP hD hS => ?_)
  have hP : va_P (dC, dI) vwCl [(h0, .inr (16, [.int 0, m1, .ref h1, .int 6, .int 0, m5, m6, m7, m8, m9, m10, m11, m12, m13, m14, m15, m16, .null, m18, m19, m20, m21, m22, m23, m24, m25, m26, .int 0, m28, m29, .int 0, .int 0, .int 0, m33, m34, m35, .int 0, m37, m38, m39, m40, m41, m42, m43, m44, m45, m46, m47, m48, m49, .int 0, m51, m52, m53, m54, m55, m56, m57, m58, m59, m60, m61, m62, m63, m64, m65, m66, m67, m68, m69, m70, m71, m72, m73, m74, m75, m76, m77, m78, m79, m80, m81, m82, m83, m84, m85, m86, m87, m88, m89, m90, m91, .int 0, .int 0, m94, m95, m96, m97, m98, m99, m100, m101, m102, m103, m104, m105, m106, m107, m108, m109, .long 0, .long 0, .int 0, m113, m114, m115, m116, m117, m118, m119, m120, m121, m122])), (h1, .inl (cB, 1500, .inl (upd (upd (upd (upd (upd f1 0 (vp_nar .byte y7)) 1 (vp_nar .byte y10)) 2 (vp_nar .byte y13)) 3 (vp_nar .byte y16)) 4 (vp_nar .byte y19))))] H := hP
  have hD : va_D A [(h0, .inr (16, [.int 0, m1, .ref h1, .int 6, .int 0, m5, m6, m7, m8, m9, m10, m11, m12, m13, m14, m15, m16, .null, m18, m19, m20, m21, m22, m23, m24, m25, m26, .int 0, m28, m29, .int 0, .int 0, .int 0, m33, m34, m35, .int 0, m37, m38, m39, m40, m41, m42, m43, m44, m45, m46, m47, m48, m49, .int 0, m51, m52, m53, m54, m55, m56, m57, m58, m59, m60, m61, m62, m63, m64, m65, m66, m67, m68, m69, m70, m71, m72, m73, m74, m75, m76, m77, m78, m79, m80, m81, m82, m83, m84, m85, m86, m87, m88, m89, m90, m91, .int 0, .int 0, m94, m95, m96, m97, m98, m99, m100, m101, m102, m103, m104, m105, m106, m107, m108, m109, .long 0, .long 0, .int 0, m113, m114, m115, m116, m117, m118, m119, m120, m121, m122])), (h1, .inl (cB, 1500, .inl (upd (upd (upd (upd (upd f1 0 (vp_nar .byte y7)) 1 (vp_nar .byte y10)) 2 (vp_nar .byte y13)) 3 (vp_nar .byte y16)) 4 (vp_nar .byte y19))))] := hD
  refine lv_lload_n hx hb dX16_feed_8_69 rfl (lv_at hl 2 rfl) ?_
  refine lv_bipush (v := 8) hx hb dX16_feed_8_70 (by decide) ?_
  refine lv_iload hx hb dX16_feed_8_72 (lv_at hl 0 rfl) ?_
  refine lv_imul hx hb dX16_feed_8_74 ?_
  refine W.eq (g2 := F0 m 75 ls [.int 16, .long g1, .int 5, .ref h1]) rfl ?_
  refine lv_lshr (v := _) hx hb dX16_feed_8_75 rfl ?_
  refine lv_topl (fun y20 _ => ?_)
  refine lv_l2i (v := _) hx hb dX16_feed_8_76 rfl ?_
  refine lv_topi (fun y21 _ => ?_)
  refine lv_i2b (v := _) hx hb dX16_feed_8_77 rfl ?_
  refine lv_topi (fun y22 _ => ?_)
  refine va_bast hx hb hK hP hD hS 1 0 rfl rfl (by unfold vp_in; decide) dX16_feed_8_78 (fun H locs hP hD hS => ?_)
  have hP : va_P (dC, dI) vwCl [(h0, .inr (16, [.int 0, m1, .ref h1, .int 6, .int 0, m5, m6, m7, m8, m9, m10, m11, m12, m13, m14, m15, m16, .null, m18, m19, m20, m21, m22, m23, m24, m25, m26, .int 0, m28, m29, .int 0, .int 0, .int 0, m33, m34, m35, .int 0, m37, m38, m39, m40, m41, m42, m43, m44, m45, m46, m47, m48, m49, .int 0, m51, m52, m53, m54, m55, m56, m57, m58, m59, m60, m61, m62, m63, m64, m65, m66, m67, m68, m69, m70, m71, m72, m73, m74, m75, m76, m77, m78, m79, m80, m81, m82, m83, m84, m85, m86, m87, m88, m89, m90, m91, .int 0, .int 0, m94, m95, m96, m97, m98, m99, m100, m101, m102, m103, m104, m105, m106, m107, m108, m109, .long 0, .long 0, .int 0, m113, m114, m115, m116, m117, m118, m119, m120, m121, m122])), (h1, .inl (cB, 1500, .inl (upd (upd (upd (upd (upd (upd f1 0 (vp_nar .byte y7)) 1 (vp_nar .byte y10)) 2 (vp_nar .byte y13)) 3 (vp_nar .byte y16)) 4 (vp_nar .byte y19)) 5 (vp_nar .byte y22))))] H := hP
  have hD : va_D A [(h0, .inr (16, [.int 0, m1, .ref h1, .int 6, .int 0, m5, m6, m7, m8, m9, m10, m11, m12, m13, m14, m15, m16, .null, m18, m19, m20, m21, m22, m23, m24, m25, m26, .int 0, m28, m29, .int 0, .int 0, .int 0, m33, m34, m35, .int 0, m37, m38, m39, m40, m41, m42, m43, m44, m45, m46, m47, m48, m49, .int 0, m51, m52, m53, m54, m55, m56, m57, m58, m59, m60, m61, m62, m63, m64, m65, m66, m67, m68, m69, m70, m71, m72, m73, m74, m75, m76, m77, m78, m79, m80, m81, m82, m83, m84, m85, m86, m87, m88, m89, m90, m91, .int 0, .int 0, m94, m95, m96, m97, m98, m99, m100, m101, m102, m103, m104, m105, m106, m107, m108, m109, .long 0, .long 0, .int 0, m113, m114, m115, m116, m117, m118, m119, m120, m121, m122])), (h1, .inl (cB, 1500, .inl (upd (upd (upd (upd (upd (upd f1 0 (vp_nar .byte y7)) 1 (vp_nar .byte y10)) 2 (vp_nar .byte y13)) 3 (vp_nar .byte y16)) 4 (vp_nar .byte y19)) 5 (vp_nar .byte y22))))] := hD
  refine lv_iinc (k := 0) (v := 1) (lv' := [(4, .int 1), (0, .ref h0), (1, .long g1), (3, .int 8)]) hx hb dX16_feed_8_79 hl rfl (by decide) (by decide) rfl (fun ls hl => ?_)
  refine lv_goto (tgt := 42) hx hb dX16_feed_8_82 (by decide) ?_
  refine lv_iload hx hb dX16_feed_8_42 (lv_at hl 0 rfl) ?_
  refine lv_if_lt (tgt := 85) hx hb dX16_feed_8_44 (by decide) (fun h9 => absurd h9 (by decide)) (fun _ => ?_)
  refine lv_aload_n hx hb dX16_feed_8_47 rfl (lv_at hl 1 rfl) ?_
  refine va_get (D := (dC, dI)) (ci := 16) (v := .int 0) (C := RX16) (T := TX16) (N := 123) hx hb hts wh_X16_feed_8_X16 hown hK hP 0 rfl rfl 0 (by decide) (hts (.fieldLink RX16 1 "StreamHouseModel" "code" "I") (wm_X16_feed_8 5 rfl)) (fun _ h9 => h9) rfl dX16_feed_8_48 ?_
  refine lv_if_ne (tgt := 85) hx hb dX16_feed_8_51 (by decide) (fun h9 => absurd (by decide) h9) (fun _ => ?_)
  refine lv_aload_n hx hb dX16_feed_8_54 rfl (lv_at hl 1 rfl) ?_
  refine va_get (D := (dC, dI)) (ci := 16) (v := .ref h1) (C := RX16) (T := TX16) (N := 123) hx hb hts wh_X16_feed_8_X16 hown hK hP 0 rfl rfl 2 (by decide) (hts (.fieldLink RX16 20 "StreamHouseModel" "tape" "[B") (wm_X16_feed_8 6 rfl)) (fun _ h9 => h9) rfl dX16_feed_8_55 ?_
  refine lv_aload_n hx hb dX16_feed_8_58 rfl (lv_at hl 1 rfl) ?_
  refine lv_dup hx hb dX16_feed_8_59 rfl ?_
  refine va_get (D := (dC, dI)) (ci := 16) (v := .int 6) (C := RX16) (T := TX16) (N := 123) hx hb hts wh_X16_feed_8_X16 hown hK hP 0 rfl rfl 3 (by decide) (hts (.fieldLink RX16 972 "StreamHouseModel" "taped" "I") (wm_X16_feed_8 4 rfl)) (fun _ h9 => h9) rfl dX16_feed_8_60 ?_
  refine lv_dup_x1 hx hb dX16_feed_8_63 rfl rfl ?_
  refine lv_iconst (v := 1) hx hb dX16_feed_8_64 (by decide) ?_
  refine lv_iadd hx hb dX16_feed_8_65 ?_
  refine W.eq (g2 := F0 m 66 ls [.int 7, .ref h0, .int 6, .ref h1]) rfl ?_
  refine va_put (D := (dC, dI)) (ci := 16) (v := .int 7) (ty := .int) (C := RX16) (T := TX16) (N := 123) hx hb hts wh_X16_feed_8_X16 tyX16 tyX16_ok nmX16 hown hK hP hD hS 0 rfl rfl 3 (by decide) (hts (.fieldLink RX16 972 "StreamHouseModel" "taped" "I") (wm_X16_feed_8 4 rfl)) (fun _ h9 => h9) rfl (by decide +kernel) rfl rfl (Nat.le_of_ble_eq_true rfl) dX16_feed_8_66 (fun H locs hP hD hS => ?_)
  have hP : va_P (dC, dI) vwCl [(h0, .inr (16, [.int 0, m1, .ref h1, .int 7, .int 0, m5, m6, m7, m8, m9, m10, m11, m12, m13, m14, m15, m16, .null, m18, m19, m20, m21, m22, m23, m24, m25, m26, .int 0, m28, m29, .int 0, .int 0, .int 0, m33, m34, m35, .int 0, m37, m38, m39, m40, m41, m42, m43, m44, m45, m46, m47, m48, m49, .int 0, m51, m52, m53, m54, m55, m56, m57, m58, m59, m60, m61, m62, m63, m64, m65, m66, m67, m68, m69, m70, m71, m72, m73, m74, m75, m76, m77, m78, m79, m80, m81, m82, m83, m84, m85, m86, m87, m88, m89, m90, m91, .int 0, .int 0, m94, m95, m96, m97, m98, m99, m100, m101, m102, m103, m104, m105, m106, m107, m108, m109, .long 0, .long 0, .int 0, m113, m114, m115, m116, m117, m118, m119, m120, m121, m122])), (h1, .inl (cB, 1500, .inl (upd (upd (upd (upd (upd (upd f1 0 (vp_nar .byte y7)) 1 (vp_nar .byte y10)) 2 (vp_nar .byte y13)) 3 (vp_nar .byte y16)) 4 (vp_nar .byte y19)) 5 (vp_nar .byte y22))))] H := hP
  have hD : va_D A [(h0, .inr (16, [.int 0, m1, .ref h1, .int 7, .int 0, m5, m6, m7, m8, m9, m10, m11, m12, m13, m14, m15, m16, .null, m18, m19, m20, m21, m22, m23, m24, m25, m26, .int 0, m28, m29, .int 0, .int 0, .int 0, m33, m34, m35, .int 0, m37, m38, m39, m40, m41, m42, m43, m44, m45, m46, m47, m48, m49, .int 0, m51, m52, m53, m54, m55, m56, m57, m58, m59, m60, m61, m62, m63, m64, m65, m66, m67, m68, m69, m70, m71, m72, m73, m74, m75, m76, m77, m78, m79, m80, m81, m82, m83, m84, m85, m86, m87, m88, m89, m90, m91, .int 0, .int 0, m94, m95, m96, m97, m98, m99, m100, m101, m102, m103, m104, m105, m106, m107, m108, m109, .long 0, .long 0, .int 0, m113, m114, m115, m116, m117, m118, m119, m120, m121, m122])), (h1, .inl (cB, 1500, .inl (upd (upd (upd (upd (upd (upd f1 0 (vp_nar .byte y7)) 1 (vp_nar .byte y10)) 2 (vp_nar .byte y13)) 3 (vp_nar .byte y16)) 4 (vp_nar .byte y19)) 5 (vp_nar .byte y22))))] := hD
  refine lv_lload_n hx hb dX16_feed_8_69 rfl (lv_at hl 2 rfl) ?_
  refine lv_bipush (v := 8) hx hb dX16_feed_8_70 (by decide) ?_
  refine lv_iload hx hb dX16_feed_8_72 (lv_at hl 0 rfl) ?_
  refine lv_imul hx hb dX16_feed_8_74 ?_
  refine W.eq (g2 := F0 m 75 ls [.int 8, .long g1, .int 6, .ref h1]) rfl ?_
  refine lv_lshr (v := _) hx hb dX16_feed_8_75 rfl ?_
  refine lv_topl (fun y23 _ => ?_)
  refine lv_l2i (v := _) hx hb dX16_feed_8_76 rfl ?_
  refine lv_topi (fun y24 _ => ?_)
  refine lv_i2b (v := _) hx hb dX16_feed_8_77 rfl ?_
  refine lv_topi (fun y25 _ => ?_)
  refine va_bast hx hb hK hP hD hS 1 0 rfl rfl (by unfold vp_in; decide) dX16_feed_8_78 (fun H locs hP hD hS => ?_)
  have hP : va_P (dC, dI) vwCl [(h0, .inr (16, [.int 0, m1, .ref h1, .int 7, .int 0, m5, m6, m7, m8, m9, m10, m11, m12, m13, m14, m15, m16, .null, m18, m19, m20, m21, m22, m23, m24, m25, m26, .int 0, m28, m29, .int 0, .int 0, .int 0, m33, m34, m35, .int 0, m37, m38, m39, m40, m41, m42, m43, m44, m45, m46, m47, m48, m49, .int 0, m51, m52, m53, m54, m55, m56, m57, m58, m59, m60, m61, m62, m63, m64, m65, m66, m67, m68, m69, m70, m71, m72, m73, m74, m75, m76, m77, m78, m79, m80, m81, m82, m83, m84, m85, m86, m87, m88, m89, m90, m91, .int 0, .int 0, m94, m95, m96, m97, m98, m99, m100, m101, m102, m103, m104, m105, m106, m107, m108, m109, .long 0, .long 0, .int 0, m113, m114, m115, m116, m117, m118, m119, m120, m121, m122])), (h1, .inl (cB, 1500, .inl (upd (upd (upd (upd (upd (upd (upd f1 0 (vp_nar .byte y7)) 1 (vp_nar .byte y10)) 2 (vp_nar .byte y13)) 3 (vp_nar .byte y16)) 4 (vp_nar .byte y19)) 5 (vp_nar .byte y22)) 6 (vp_nar .byte y25))))] H := hP
  have hD : va_D A [(h0, .inr (16, [.int 0, m1, .ref h1, .int 7, .int 0, m5, m6, m7, m8, m9, m10, m11, m12, m13, m14, m15, m16, .null, m18, m19, m20, m21, m22, m23, m24, m25, m26, .int 0, m28, m29, .int 0, .int 0, .int 0, m33, m34, m35, .int 0, m37, m38, m39, m40, m41, m42, m43, m44, m45, m46, m47, m48, m49, .int 0, m51, m52, m53, m54, m55, m56, m57, m58, m59, m60, m61, m62, m63, m64, m65, m66, m67, m68, m69, m70, m71, m72, m73, m74, m75, m76, m77, m78, m79, m80, m81, m82, m83, m84, m85, m86, m87, m88, m89, m90, m91, .int 0, .int 0, m94, m95, m96, m97, m98, m99, m100, m101, m102, m103, m104, m105, m106, m107, m108, m109, .long 0, .long 0, .int 0, m113, m114, m115, m116, m117, m118, m119, m120, m121, m122])), (h1, .inl (cB, 1500, .inl (upd (upd (upd (upd (upd (upd (upd f1 0 (vp_nar .byte y7)) 1 (vp_nar .byte y10)) 2 (vp_nar .byte y13)) 3 (vp_nar .byte y16)) 4 (vp_nar .byte y19)) 5 (vp_nar .byte y22)) 6 (vp_nar .byte y25))))] := hD
  refine lv_iinc (k := 0) (v := 0) (lv' := [(4, .int 0), (0, .ref h0), (1, .long g1), (3, .int 8)]) hx hb dX16_feed_8_79 hl rfl (by decide) (by decide) rfl (fun ls hl => ?_)
  refine lv_goto (tgt := 42) hx hb dX16_feed_8_82 (by decide) ?_
  refine lv_iload hx hb dX16_feed_8_42 (lv_at hl 0 rfl) ?_
  refine lv_if_lt (tgt := 85) hx hb dX16_feed_8_44 (by decide) (fun h9 => absurd h9 (by decide)) (fun _ => ?_)
  refine lv_aload_n hx hb dX16_feed_8_47 rfl (lv_at hl 1 rfl) ?_
  refine va_get (D := (dC, dI)) (ci := 16) (v := .int 0) (C := RX16) (T := TX16) (N := 123) hx hb hts wh_X16_feed_8_X16 hown hK hP 0 rfl rfl 0 (by decide) (hts (.fieldLink RX16 1 "StreamHouseModel" "code" "I") (wm_X16_feed_8 5 rfl)) (fun _ h9 => h9) rfl dX16_feed_8_48 ?_
  refine lv_if_ne (tgt := 85) hx hb dX16_feed_8_51 (by decide) (fun h9 => absurd (by decide) h9) (fun _ => ?_)
  refine lv_aload_n hx hb dX16_feed_8_54 rfl (lv_at hl 1 rfl) ?_
  refine va_get (D := (dC, dI)) (ci := 16) (v := .ref h1) (C := RX16) (T := TX16) (N := 123) hx hb hts wh_X16_feed_8_X16 hown hK hP 0 rfl rfl 2 (by decide) (hts (.fieldLink RX16 20 "StreamHouseModel" "tape" "[B") (wm_X16_feed_8 6 rfl)) (fun _ h9 => h9) rfl dX16_feed_8_55 ?_
  refine lv_aload_n hx hb dX16_feed_8_58 rfl (lv_at hl 1 rfl) ?_
  refine lv_dup hx hb dX16_feed_8_59 rfl ?_
  refine va_get (D := (dC, dI)) (ci := 16) (v := .int 7) (C := RX16) (T := TX16) (N := 123) hx hb hts wh_X16_feed_8_X16 hown hK hP 0 rfl rfl 3 (by decide) (hts (.fieldLink RX16 972 "StreamHouseModel" "taped" "I") (wm_X16_feed_8 4 rfl)) (fun _ h9 => h9) rfl dX16_feed_8_60 ?_
  refine lv_dup_x1 hx hb dX16_feed_8_63 rfl rfl ?_
  refine lv_iconst (v := 1) hx hb dX16_feed_8_64 (by decide) ?_
  refine lv_iadd hx hb dX16_feed_8_65 ?_
  refine W.eq (g2 := F0 m 66 ls [.int 8, .ref h0, .int 7, .ref h1]) rfl ?_
  refine va_put (D := (dC, dI)) (ci := 16) (v := .int 8) (ty := .int) (C := RX16) (T := TX16) (N := 123) hx hb hts wh_X16_feed_8_X16 tyX16 tyX16_ok nmX16 hown hK hP hD hS 0 rfl rfl 3 (by decide) (hts (.fieldLink RX16 972 "StreamHouseModel" "taped" "I") (wm_X16_feed_8 4 rfl)) (fun _ h9 => h9) rfl (by decide +kernel) rfl rfl (Nat.le_of_ble_eq_true rfl) dX16_feed_8_66 (fun H locs hP hD hS => ?_)
  have hP : va_P (dC, dI) vwCl [(h0, .inr (16, [.int 0, m1, .ref h1, .int 8, .int 0, m5, m6, m7, m8, m9, m10, m11, m12, m13, m14, m15, m16, .null, m18, m19, m20, m21, m22, m23, m24, m25, m26, .int 0, m28, m29, .int 0, .int 0, .int 0, m33, m34, m35, .int 0, m37, m38, m39, m40, m41, m42, m43, m44, m45, m46, m47, m48, m49, .int 0, m51, m52, m53, m54, m55, m56, m57, m58, m59, m60, m61, m62, m63, m64, m65, m66, m67, m68, m69, m70, m71, m72, m73, m74, m75, m76, m77, m78, m79, m80, m81, m82, m83, m84, m85, m86, m87, m88, m89, m90, m91, .int 0, .int 0, m94, m95, m96, m97, m98, m99, m100, m101, m102, m103, m104, m105, m106, m107, m108, m109, .long 0, .long 0, .int 0, m113, m114, m115, m116, m117, m118, m119, m120, m121, m122])), (h1, .inl (cB, 1500, .inl (upd (upd (upd (upd (upd (upd (upd f1 0 (vp_nar .byte y7)) 1 (vp_nar .byte y10)) 2 (vp_nar .byte y13)) 3 (vp_nar .byte y16)) 4 (vp_nar .byte y19)) 5 (vp_nar .byte y22)) 6 (vp_nar .byte y25))))] H := hP
  have hD : va_D A [(h0, .inr (16, [.int 0, m1, .ref h1, .int 8, .int 0, m5, m6, m7, m8, m9, m10, m11, m12, m13, m14, m15, m16, .null, m18, m19, m20, m21, m22, m23, m24, m25, m26, .int 0, m28, m29, .int 0, .int 0, .int 0, m33, m34, m35, .int 0, m37, m38, m39, m40, m41, m42, m43, m44, m45, m46, m47, m48, m49, .int 0, m51, m52, m53, m54, m55, m56, m57, m58, m59, m60, m61, m62, m63, m64, m65, m66, m67, m68, m69, m70, m71, m72, m73, m74, m75, m76, m77, m78, m79, m80, m81, m82, m83, m84, m85, m86, m87, m88, m89, m90, m91, .int 0, .int 0, m94, m95, m96, m97, m98, m99, m100, m101, m102, m103, m104, m105, m106, m107, m108, m109, .long 0, .long 0, .int 0, m113, m114, m115, m116, m117, m118, m119, m120, m121, m122])), (h1, .inl (cB, 1500, .inl (upd (upd (upd (upd (upd (upd (upd f1 0 (vp_nar .byte y7)) 1 (vp_nar .byte y10)) 2 (vp_nar .byte y13)) 3 (vp_nar .byte y16)) 4 (vp_nar .byte y19)) 5 (vp_nar .byte y22)) 6 (vp_nar .byte y25))))] := hD
  refine lv_lload_n hx hb dX16_feed_8_69 rfl (lv_at hl 2 rfl) ?_
  refine lv_bipush (v := 8) hx hb dX16_feed_8_70 (by decide) ?_
  refine lv_iload hx hb dX16_feed_8_72 (lv_at hl 0 rfl) ?_
  refine lv_imul hx hb dX16_feed_8_74 ?_
  refine W.eq (g2 := F0 m 75 ls [.int 0, .long g1, .int 7, .ref h1]) rfl ?_
  refine lv_lshr (v := _) hx hb dX16_feed_8_75 rfl ?_
  refine lv_topl (fun y26 _ => ?_)
  refine lv_l2i (v := _) hx hb dX16_feed_8_76 rfl ?_
  refine lv_topi (fun y27 _ => ?_)
  refine lv_i2b (v := _) hx hb dX16_feed_8_77 rfl ?_
  refine lv_topi (fun y28 _ => ?_)
  refine va_bast hx hb hK hP hD hS 1 0 rfl rfl (by unfold vp_in; decide) dX16_feed_8_78 (fun H locs hP hD hS => ?_)
  have hP : va_P (dC, dI) vwCl [(h0, .inr (16, [.int 0, m1, .ref h1, .int 8, .int 0, m5, m6, m7, m8, m9, m10, m11, m12, m13, m14, m15, m16, .null, m18, m19, m20, m21, m22, m23, m24, m25, m26, .int 0, m28, m29, .int 0, .int 0, .int 0, m33, m34, m35, .int 0, m37, m38, m39, m40, m41, m42, m43, m44, m45, m46, m47, m48, m49, .int 0, m51, m52, m53, m54, m55, m56, m57, m58, m59, m60, m61, m62, m63, m64, m65, m66, m67, m68, m69, m70, m71, m72, m73, m74, m75, m76, m77, m78, m79, m80, m81, m82, m83, m84, m85, m86, m87, m88, m89, m90, m91, .int 0, .int 0, m94, m95, m96, m97, m98, m99, m100, m101, m102, m103, m104, m105, m106, m107, m108, m109, .long 0, .long 0, .int 0, m113, m114, m115, m116, m117, m118, m119, m120, m121, m122])), (h1, .inl (cB, 1500, .inl (upd (upd (upd (upd (upd (upd (upd (upd f1 0 (vp_nar .byte y7)) 1 (vp_nar .byte y10)) 2 (vp_nar .byte y13)) 3 (vp_nar .byte y16)) 4 (vp_nar .byte y19)) 5 (vp_nar .byte y22)) 6 (vp_nar .byte y25)) 7 (vp_nar .byte y28))))] H := hP
  have hD : va_D A [(h0, .inr (16, [.int 0, m1, .ref h1, .int 8, .int 0, m5, m6, m7, m8, m9, m10, m11, m12, m13, m14, m15, m16, .null, m18, m19, m20, m21, m22, m23, m24, m25, m26, .int 0, m28, m29, .int 0, .int 0, .int 0, m33, m34, m35, .int 0, m37, m38, m39, m40, m41, m42, m43, m44, m45, m46, m47, m48, m49, .int 0, m51, m52, m53, m54, m55, m56, m57, m58, m59, m60, m61, m62, m63, m64, m65, m66, m67, m68, m69, m70, m71, m72, m73, m74, m75, m76, m77, m78, m79, m80, m81, m82, m83, m84, m85, m86, m87, m88, m89, m90, m91, .int 0, .int 0, m94, m95, m96, m97, m98, m99, m100, m101, m102, m103, m104, m105, m106, m107, m108, m109, .long 0, .long 0, .int 0, m113, m114, m115, m116, m117, m118, m119, m120, m121, m122])), (h1, .inl (cB, 1500, .inl (upd (upd (upd (upd (upd (upd (upd (upd f1 0 (vp_nar .byte y7)) 1 (vp_nar .byte y10)) 2 (vp_nar .byte y13)) 3 (vp_nar .byte y16)) 4 (vp_nar .byte y19)) 5 (vp_nar .byte y22)) 6 (vp_nar .byte y25)) 7 (vp_nar .byte y28))))] := hD
  refine lv_iinc (k := 0) (v := (-1)) (lv' := [(4, .int ((-1))), (0, .ref h0), (1, .long g1), (3, .int 8)]) hx hb dX16_feed_8_79 hl rfl (by decide) (by decide) rfl (fun ls hl => ?_)
  refine lv_goto (tgt := 42) hx hb dX16_feed_8_82 (by decide) ?_
  refine lv_iload hx hb dX16_feed_8_42 (lv_at hl 0 rfl) ?_
  refine lv_if_lt (tgt := 85) hx hb dX16_feed_8_44 (by decide) (fun _ => ?_) (fun h9 => absurd (by decide) h9)
  refine lv_aload_n hx hb dX16_feed_8_85 rfl (lv_at hl 1 rfl) ?_
  refine va_get (D := (dC, dI)) (ci := 16) (v := .int 0) (C := RX16) (T := TX16) (N := 123) hx hb hts wh_X16_feed_8_X16 hown hK hP 0 rfl rfl 0 (by decide) (hts (.fieldLink RX16 1 "StreamHouseModel" "code" "I") (wm_X16_feed_8 5 rfl)) (fun _ h9 => h9) rfl dX16_feed_8_86 ?_
  refine lv_if_le (tgt := 96) hx hb dX16_feed_8_89 (by decide) (fun _ => ?_) (fun h9 => absurd (by decide) h9)
  refine lv_aload_n hx hb dX16_feed_8_96 rfl (lv_at hl 1 rfl) ?_
  refine va_get (D := (dC, dI)) (ci := 16) (v := .int 8) (C := RX16) (T := TX16) (N := 123) hx hb hts wh_X16_feed_8_X16 hown hK hP 0 rfl rfl 3 (by decide) (hts (.fieldLink RX16 972 "StreamHouseModel" "taped" "I") (wm_X16_feed_8 4 rfl)) (fun _ h9 => h9) rfl dX16_feed_8_97 ?_
  have hP9 := hP.sub (ws' := [(h0, .inr (16, [.int 0, m1, .ref h1, .int 8, .int 0, m5, m6, m7, m8, m9, m10, m11, m12, m13, m14, m15, m16, .null, m18, m19, m20, m21, m22, m23, m24, m25, m26, .int 0, m28, m29, .int 0, .int 0, .int 0, m33, m34, m35, .int 0, m37, m38, m39, m40, m41, m42, m43, m44, m45, m46, m47, m48, m49, .int 0, m51, m52, m53, m54, m55, m56, m57, m58, m59, m60, m61, m62, m63, m64, m65, m66, m67, m68, m69, m70, m71, m72, m73, m74, m75, m76, m77, m78, m79, m80, m81, m82, m83, m84, m85, m86, m87, m88, m89, m90, m91, .int 0, .int 0, m94, m95, m96, m97, m98, m99, m100, m101, m102, m103, m104, m105, m106, m107, m108, m109, .long 0, .long 0, .int 0, m113, m114, m115, m116, m117, m118, m119, m120, m121, m122]))]) [0] rfl
  have hD9 := hD.sub (ws' := [(h0, .inr (16, [.int 0, m1, .ref h1, .int 8, .int 0, m5, m6, m7, m8, m9, m10, m11, m12, m13, m14, m15, m16, .null, m18, m19, m20, m21, m22, m23, m24, m25, m26, .int 0, m28, m29, .int 0, .int 0, .int 0, m33, m34, m35, .int 0, m37, m38, m39, m40, m41, m42, m43, m44, m45, m46, m47, m48, m49, .int 0, m51, m52, m53, m54, m55, m56, m57, m58, m59, m60, m61, m62, m63, m64, m65, m66, m67, m68, m69, m70, m71, m72, m73, m74, m75, m76, m77, m78, m79, m80, m81, m82, m83, m84, m85, m86, m87, m88, m89, m90, m91, .int 0, .int 0, m94, m95, m96, m97, m98, m99, m100, m101, m102, m103, m104, m105, m106, m107, m108, m109, .long 0, .long 0, .int 0, m113, m114, m115, m116, m117, m118, m119, m120, m121, m122]))]) [0] (by decide) rfl
  have hK9 := hK.sub (tys' := []) [] rfl
  refine W.widen (k := 0) (n := 0) (by decide) (by decide) ?_
  exact W.iret (v := 8) hx hb hr (fun t ht hW => ⟨⟨8, (), rfl, rfl, by rw [ht]; exact hP9, va_K.moved hW.alike hK9, hD9⟩, hS.F ht⟩) hS.2.2 dX16_feed_8_100


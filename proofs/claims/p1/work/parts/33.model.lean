abbrev at_X15_init (dC : Nat → ClassId) (dI : Nat → Nat → Nat) (A : Nat → Prop) (h0 h1 : Nat) (u : Nat × Nat × Nat × Nat × Nat × Nat × Nat × Nat × Nat × Nat × Nat × Nat × Nat × Nat × Nat × Nat × ClassId) (t : State) : Prop := match u with
  | (q3, q7, q11, q15, q19, q23, q27, q31, q35, q39, q43, q47, q51, q55, q59, q63, cA64) => va_P (dC, dI) vwCl [(h0, .inr (15, [.int 0, .int 0, .ref q3, .ref q7, .ref q11, .ref q15, .ref q19, .ref q23, .ref q27, .ref q31, .ref q35, .ref q39, .ref q43, .ref q47, .ref q51, .ref q55, .ref q59, .int 0, .ref q63, .ref h1])), (q63, .inl (cA64, 4, .inl (fun _ => 0)))] t.heap ∧ va_K (dC, dI) vwCl [(cA64, .int)] t ∧ va_D A [(h0, .inr (15, [.int 0, .int 0, .ref q3, .ref q7, .ref q11, .ref q15, .ref q19, .ref q23, .ref q27, .ref q31, .ref q35, .ref q39, .ref q43, .ref q47, .ref q51, .ref q55, .ref q59, .int 0, .ref q63, .ref h1])), (q63, .inl (cA64, 4, .inl (fun _ => 0)))]
theorem dX15_init_0 : decode cX15_init 0 = .ok (.aload_n 0, 1) := by decide +kernel
theorem dX15_init_1 : decode cX15_init 1 = .ok (.aload_n 1, 1) := by decide +kernel
theorem dX15_init_2 : decode cX15_init 2 = .ok (.putfield 3, 3) := by decide +kernel
theorem dX15_init_5 : decode cX15_init 5 = .ok (.aload_n 0, 1) := by decide +kernel
theorem dX15_init_6 : decode cX15_init 6 = .ok (.invokespecial 9, 3) := by decide +kernel
theorem dX15_init_9 : decode cX15_init 9 = .ok (.aload_n 0, 1) := by decide +kernel
theorem dX15_init_10 : decode cX15_init 10 = .ok (.bipush 16, 2) := by decide +kernel
theorem dX15_init_12 : decode cX15_init 12 = .ok (.newarray .int, 2) := by decide +kernel
theorem dX15_init_14 : decode cX15_init 14 = .ok (.putfield 15, 3) := by decide +kernel
theorem dX15_init_17 : decode cX15_init 17 = .ok (.aload_n 0, 1) := by decide +kernel
theorem dX15_init_18 : decode cX15_init 18 = .ok (.bipush 16, 2) := by decide +kernel
theorem dX15_init_20 : decode cX15_init 20 = .ok (.newarray .long, 2) := by decide +kernel
theorem dX15_init_22 : decode cX15_init 22 = .ok (.putfield 19, 3) := by decide +kernel
theorem dX15_init_25 : decode cX15_init 25 = .ok (.aload_n 0, 1) := by decide +kernel
theorem dX15_init_26 : decode cX15_init 26 = .ok (.bipush 16, 2) := by decide +kernel
theorem dX15_init_28 : decode cX15_init 28 = .ok (.newarray .int, 2) := by decide +kernel
theorem dX15_init_30 : decode cX15_init 30 = .ok (.putfield 23, 3) := by decide +kernel
theorem dX15_init_33 : decode cX15_init 33 = .ok (.aload_n 0, 1) := by decide +kernel
theorem dX15_init_34 : decode cX15_init 34 = .ok (.bipush 16, 2) := by decide +kernel
theorem dX15_init_36 : decode cX15_init 36 = .ok (.newarray .int, 2) := by decide +kernel
theorem dX15_init_38 : decode cX15_init 38 = .ok (.putfield 26, 3) := by decide +kernel
theorem dX15_init_41 : decode cX15_init 41 = .ok (.aload_n 0, 1) := by decide +kernel
theorem dX15_init_42 : decode cX15_init 42 = .ok (.bipush 16, 2) := by decide +kernel
theorem dX15_init_44 : decode cX15_init 44 = .ok (.newarray .int, 2) := by decide +kernel
theorem dX15_init_46 : decode cX15_init 46 = .ok (.putfield 29, 3) := by decide +kernel
theorem dX15_init_49 : decode cX15_init 49 = .ok (.aload_n 0, 1) := by decide +kernel
theorem dX15_init_50 : decode cX15_init 50 = .ok (.sipush 144, 3) := by decide +kernel
theorem dX15_init_53 : decode cX15_init 53 = .ok (.newarray .long, 2) := by decide +kernel
theorem dX15_init_55 : decode cX15_init 55 = .ok (.putfield 32, 3) := by decide +kernel
theorem dX15_init_58 : decode cX15_init 58 = .ok (.aload_n 0, 1) := by decide +kernel
theorem dX15_init_59 : decode cX15_init 59 = .ok (.bipush 16, 2) := by decide +kernel
theorem dX15_init_61 : decode cX15_init 61 = .ok (.newarray .long, 2) := by decide +kernel
theorem dX15_init_63 : decode cX15_init 63 = .ok (.putfield 35, 3) := by decide +kernel
theorem dX15_init_66 : decode cX15_init 66 = .ok (.aload_n 0, 1) := by decide +kernel
theorem dX15_init_67 : decode cX15_init 67 = .ok (.bipush 16, 2) := by decide +kernel
theorem dX15_init_69 : decode cX15_init 69 = .ok (.newarray .long, 2) := by decide +kernel
theorem dX15_init_71 : decode cX15_init 71 = .ok (.putfield 38, 3) := by decide +kernel
theorem dX15_init_74 : decode cX15_init 74 = .ok (.aload_n 0, 1) := by decide +kernel
theorem dX15_init_75 : decode cX15_init 75 = .ok (.bipush 16, 2) := by decide +kernel
theorem dX15_init_77 : decode cX15_init 77 = .ok (.newarray .int, 2) := by decide +kernel
theorem dX15_init_79 : decode cX15_init 79 = .ok (.putfield 41, 3) := by decide +kernel
theorem dX15_init_82 : decode cX15_init 82 = .ok (.aload_n 0, 1) := by decide +kernel
theorem dX15_init_83 : decode cX15_init 83 = .ok (.bipush 16, 2) := by decide +kernel
theorem dX15_init_85 : decode cX15_init 85 = .ok (.newarray .int, 2) := by decide +kernel
theorem dX15_init_87 : decode cX15_init 87 = .ok (.putfield 44, 3) := by decide +kernel
theorem dX15_init_90 : decode cX15_init 90 = .ok (.aload_n 0, 1) := by decide +kernel
theorem dX15_init_91 : decode cX15_init 91 = .ok (.bipush 16, 2) := by decide +kernel
theorem dX15_init_93 : decode cX15_init 93 = .ok (.newarray .int, 2) := by decide +kernel
theorem dX15_init_95 : decode cX15_init 95 = .ok (.putfield 47, 3) := by decide +kernel
theorem dX15_init_98 : decode cX15_init 98 = .ok (.aload_n 0, 1) := by decide +kernel
theorem dX15_init_99 : decode cX15_init 99 = .ok (.sipush 128, 3) := by decide +kernel
theorem dX15_init_102 : decode cX15_init 102 = .ok (.newarray .int, 2) := by decide +kernel
theorem dX15_init_104 : decode cX15_init 104 = .ok (.putfield 50, 3) := by decide +kernel
theorem dX15_init_107 : decode cX15_init 107 = .ok (.aload_n 0, 1) := by decide +kernel
theorem dX15_init_108 : decode cX15_init 108 = .ok (.sipush 128, 3) := by decide +kernel
theorem dX15_init_111 : decode cX15_init 111 = .ok (.newarray .int, 2) := by decide +kernel
theorem dX15_init_113 : decode cX15_init 113 = .ok (.putfield 53, 3) := by decide +kernel
theorem dX15_init_116 : decode cX15_init 116 = .ok (.aload_n 0, 1) := by decide +kernel
theorem dX15_init_117 : decode cX15_init 117 = .ok (.sipush 6000, 3) := by decide +kernel
theorem dX15_init_120 : decode cX15_init 120 = .ok (.newarray .int, 2) := by decide +kernel
theorem dX15_init_122 : decode cX15_init 122 = .ok (.putfield 56, 3) := by decide +kernel
theorem dX15_init_125 : decode cX15_init 125 = .ok (.aload_n 0, 1) := by decide +kernel
theorem dX15_init_126 : decode cX15_init 126 = .ok (.sipush 6000, 3) := by decide +kernel
theorem dX15_init_129 : decode cX15_init 129 = .ok (.newarray .long, 2) := by decide +kernel
theorem dX15_init_131 : decode cX15_init 131 = .ok (.putfield 59, 3) := by decide +kernel
theorem dX15_init_134 : decode cX15_init 134 = .ok (.aload_n 0, 1) := by decide +kernel
theorem dX15_init_135 : decode cX15_init 135 = .ok (.iconst 4, 1) := by decide +kernel
theorem dX15_init_136 : decode cX15_init 136 = .ok (.newarray .int, 2) := by decide +kernel
theorem dX15_init_138 : decode cX15_init 138 = .ok (.putfield 62, 3) := by decide +kernel
theorem dX15_init_141 : decode cX15_init 141 = .ok (.return_, 1) := by decide +kernel
def ww_X15_init : List Cond := [.fieldLink RX15 3 "StreamHouseModel$Job" "this$0" "LStreamHouseModel;", .methodLink RX15 9 objectInit, .instanceMethod objectInit, .code objectInit ⟨#[0xb1]⟩ 1 none, .arrayClass .int, .fieldLink RX15 15 "StreamHouseModel$Job" "kinds" "[I", .arrayClass .long, .fieldLink RX15 19 "StreamHouseModel$Job" "names" "[J", .fieldLink RX15 23 "StreamHouseModel$Job" "first" "[I", .fieldLink RX15 26 "StreamHouseModel$Job" "second" "[I", .fieldLink RX15 29 "StreamHouseModel$Job" "columns" "[I", .fieldLink RX15 32 "StreamHouseModel$Job" "columnNames" "[J", .fieldLink RX15 35 "StreamHouseModel$Job" "one" "[J", .fieldLink RX15 38 "StreamHouseModel$Job" "other" "[J", .fieldLink RX15 41 "StreamHouseModel$Job" "by" "[I", .fieldLink RX15 44 "StreamHouseModel$Job" "byOther" "[I", .fieldLink RX15 47 "StreamHouseModel$Job" "values" "[I", .fieldLink RX15 50 "StreamHouseModel$Job" "valueAt" "[I", .fieldLink RX15 53 "StreamHouseModel$Job" "aggregate" "[I", .fieldLink RX15 56 "StreamHouseModel$Job" "steps" "[I", .fieldLink RX15 59 "StreamHouseModel$Job" "arguments" "[J", .fieldLink RX15 62 "StreamHouseModel$Job" "sourceOf" "[I"]
def wv_X15_init : List Cond := .code yX15_init cX15_init 2 none :: (ww_X15_init ++ (u_ws RX15 TX15 20 ++ []))
theorem wm_X15_init {w : Cond} (i : Nat) (h : ww_X15_init[i]? = some w) : w ∈ wv_X15_init := List.mem_cons_of_mem _ (List.mem_append_left _ (List.mem_of_getElem? h))
theorem gw_X15_init : wv_X15_init.all goodWord = true := by decide +kernel
theorem wh_X15_init_X15 : ∀ w ∈ u_ws RX15 TX15 20, w ∈ wv_X15_init := fun w h => List.mem_cons_of_mem _ (List.mem_append_right _ (List.mem_append_left _ h))
set_option maxHeartbeats 4000000 in
set_option maxRecDepth 100000 in
/-- Job of the reference -/
theorem c_X15_init (l : Launch) (dC : Nat → ClassId) (dI : Nat → Nat → Nat) (h0 h1 : Nat) (sz : Nat) : Met l yX15_init wv_X15_init ({ frames := 1, cells := 16, slots := 12564, locals := 12 }) (va_Pc [.ref h0, .ref h1] (fun U => U.heap.size = sz ∧ va_P (dC, dI) vwCl [(h0, .inr (15, [.int 0, .int 0, .null, .null, .null, .null, .null, .null, .null, .null, .null, .null, .null, .null, .null, .null, .null, .int 0, .null, .null]))] U.heap ∧ va_K (dC, dI) vwCl [] U ∧ va_D (fun _ => True) [(h0, .inr (15, [.int 0, .int 0, .null, .null, .null, .null, .null, .null, .null, .null, .null, .null, .null, .null, .null, .null, .null, .int 0, .null, .null]))])) (va_Qv (fun _ : Nat × Nat × Nat × Nat × Nat × Nat × Nat × Nat × Nat × Nat × Nat × Nat × Nat × Nat × Nat × Nat × ClassId => True) (at_X15_init dC dI (va_A [(h0, .inr (15, [.int 0, .int 0, .null, .null, .null, .null, .null, .null, .null, .null, .null, .null, .null, .null, .null, .null, .null, .int 0, .null, .null]))] sz) h0 h1) (va_A [(h0, .inr (15, [.int 0, .int 0, .null, .null, .null, .null, .null, .null, .null, .null, .null, .null, .null, .null, .null, .null, .null, .int 0, .null, .null]))] sz)) 16 12564 (va_A [(h0, .inr (15, [.int 0, .int 0, .null, .null, .null, .null, .null, .null, .null, .null, .null, .null, .null, .null, .null, .null, .null, .int 0, .null, .null]))] sz) := by
  refine Met.ofW (cc := cX15_init) (maxL := 2) (ret := none) (by decide) rfl ?_
  intro p e s m args below meth c s₁ B hml hv
  obtain ⟨rfl, hsz, hP, hK, hD0⟩ := hv
  have hx := B.exec
  have hb := B.bytes
  have hr := B.returns
  have hts := atoms_spec (ws := wv_X15_init) B.pre
  have hown : s.vm.findClass RX15 = some m.cls := findClass_of_methodNamed B.named
  have hlocks := B.notSynchronized
  have hin0 : meth.name = "<init>" := (name_of_methodNamed B.named B.method).1
  subst hsz
  have hD := hD0.self (sz := s.heap.size)
  generalize hAe : va_A [(h0, .inr (15, [.int 0, .int 0, .null, .null, .null, .null, .null, .null, .null, .null, .null, .null, .null, .null, .null, .null, .null, .int 0, .null, .null]))] s.heap.size = A at hD ⊢
  have hA : ∀ q : Nat, s.heap.size ≤ q → A q := fun q h => by rw [← hAe]; exact Or.inr h
  have hS : va_S A s.heap s.heap [] := va_S.rf
  have hP : va_P (dC, dI) vwCl [(h0, .inr (15, [.int 0, .int 0, .null, .null, .null, .null, .null, .null, .null, .null, .null, .null, .null, .null, .null, .null, .null, .int 0, .null, .null]))] s.heap := hP
  have hl := lv_entry ([.ref h0, .ref h1]) (n := 2) (Nat.le_of_ble_eq_true rfl)
  rw [lg_entry_eq]
  generalize (lg_sl ([.ref h0, .ref h1]) ++ List.replicate (2 - (lg_sl ([.ref h0, .ref h1])).length) Slot.unset).toArray = ls at hl ⊢
  have hl : lv_has ls 2 [(0, .ref h0), (1, .ref h1)] := hl
  refine lv_aload_n hx hb dX15_init_0 rfl (lv_at hl 0 rfl) ?_
  refine lv_aload_n hx hb dX15_init_1 rfl (lv_at hl 1 rfl) ?_
  refine va_putF (D := (dC, dI)) (ci := 15) (v := .ref h1) (ty := .object "StreamHouseModel") (C := RX15) (T := TX15) (N := 20) hx hb hts wh_X15_init_X15 tyX15 tyX15_ok nmX15 hown hK hP hD hS 0 rfl rfl 19 (by decide) (hts (.fieldLink RX15 3 "StreamHouseModel$Job" "this$0" "LStreamHouseModel;") (wm_X15_init 0 rfl)) (fun _ h9 => h9) rfl hin0 rfl (by decide +kernel) rfl rfl (Nat.le_of_ble_eq_true rfl) dX15_init_2 (fun H locs hP hD hS => ?_)
  have hP : va_P (dC, dI) vwCl [(h0, .inr (15, [.int 0, .int 0, .null, .null, .null, .null, .null, .null, .null, .null, .null, .null, .null, .null, .null, .null, .null, .int 0, .null, .ref h1]))] H := hP
  have hD : va_D A [(h0, .inr (15, [.int 0, .int 0, .null, .null, .null, .null, .null, .null, .null, .null, .null, .null, .null, .null, .null, .null, .null, .int 0, .null, .ref h1]))] := hD
  refine lv_aload_n hx hb dX15_init_5 rfl (lv_at hl 0 rfl) ?_
  refine W.objInit hx hb hown (hts (.methodLink RX15 9 objectInit) (wm_X15_init 1 rfl)) (hts (.instanceMethod objectInit) (wm_X15_init 2 rfl)) (hts (.code objectInit ⟨#[0xb1]⟩ 1 none) (wm_X15_init 3 rfl)) rfl (by rw [hml]; exact hl.1) rfl dX15_init_6 (Nat.le_of_ble_eq_true rfl) (Nat.le_of_ble_eq_true rfl) ?_
  refine W.eq (g2 := F0 m 9 ls []) rfl ?_
  refine lv_aload_n hx hb dX15_init_9 rfl (lv_at hl 0 rfl) ?_
  refine lv_bipush (v := 16) hx hb dX15_init_10 (by decide) ?_
  have h_1 : 1 ≤ 16 := by decide
  have h_2 : 16 ≤ 12564 := by decide
  refine va_newa (atype := .int) (ty := .int) (n := 16) (N' := 16) (a0 := (16, .inl (fun _ => 0))) hx hb (hts (.arrayClass .int) (wm_X15_init 4 rfl)) rfl hK hP hD hS hA (fun cA => vp_cell_i cA 16 (fun _ => 0)) (by decide) (by decide) (Nat.le_of_ble_eq_true rfl) h_1 h_2 dX15_init_12 (fun q3 cA4 H hK hP hD hS => ?_)
  have hP : va_P (dC, dI) vwCl [(h0, .inr (15, [.int 0, .int 0, .null, .null, .null, .null, .null, .null, .null, .null, .null, .null, .null, .null, .null, .null, .null, .int 0, .null, .ref h1])), (q3, .inl (cA4, 16, .inl (fun _ => 0)))] H := hP
  have hD : va_D A [(h0, .inr (15, [.int 0, .int 0, .null, .null, .null, .null, .null, .null, .null, .null, .null, .null, .null, .null, .null, .null, .null, .int 0, .null, .ref h1])), (q3, .inl (cA4, 16, .inl (fun _ => 0)))] := hD
  have hK : va_K (dC, dI) vwCl [(cA4, .int)] s := hK
  refine W.widen (k := 1) (n := 16) (by decide) (by decide) ?_
  refine va_putF (D := (dC, dI)) (ci := 15) (v := .ref q3) (ty := .array .int) (C := RX15) (T := TX15) (N := 20) hx hb hts wh_X15_init_X15 tyX15 tyX15_ok nmX15 hown hK hP hD hS 0 rfl rfl 2 (by decide) (hts (.fieldLink RX15 15 "StreamHouseModel$Job" "kinds" "[I") (wm_X15_init 5 rfl)) (fun _ h9 => h9) rfl hin0 rfl (by decide +kernel) rfl rfl (Nat.le_of_ble_eq_true rfl) dX15_init_14 (fun H locs hP hD hS => ?_)
  have hP : va_P (dC, dI) vwCl [(h0, .inr (15, [.int 0, .int 0, .ref q3, .null, .null, .null, .null, .null, .null, .null, .null, .null, .null, .null, .null, .null, .null, .int 0, .null, .ref h1])), (q3, .inl (cA4, 16, .inl (fun _ => 0)))] H := hP
  have hD : va_D A [(h0, .inr (15, [.int 0, .int 0, .ref q3, .null, .null, .null, .null, .null, .null, .null, .null, .null, .null, .null, .null, .null, .null, .int 0, .null, .ref h1])), (q3, .inl (cA4, 16, .inl (fun _ => 0)))] := hD
  have hP := hP.sub (ws' := [(h0, .inr (15, [.int 0, .int 0, .ref q3, .null, .null, .null, .null, .null, .null, .null, .null, .null, .null, .null, .null, .null, .null, .int 0, .null, .ref h1]))]) [0] rfl
  have hD := hD.sub (ws' := [(h0, .inr (15, [.int 0, .int 0, .ref q3, .null, .null, .null, .null, .null, .null, .null, .null, .null, .null, .null, .null, .null, .null, .int 0, .null, .ref h1]))]) [0] (by decide) rfl
  have hK := hK.sub (tys' := []) [] rfl
  refine lv_aload_n hx hb dX15_init_17 rfl (lv_at hl 0 rfl) ?_
  refine lv_bipush (v := 16) hx hb dX15_init_18 (by decide) ?_
  have h_5 : 2 ≤ 16 := by decide
  have h_6 : 32 ≤ 12564 := by decide
  refine va_newa (atype := .long) (ty := .long) (n := 16) (N' := 16) (a0 := (16, .inr (.inl (fun _ => 0)))) hx hb (hts (.arrayClass .long) (wm_X15_init 6 rfl)) rfl hK hP hD hS hA (fun cA => vp_cell_l cA 16 (fun _ => 0)) (by decide) (by decide) (Nat.le_of_ble_eq_true rfl) h_5 h_6 dX15_init_20 (fun q7 cA8 H hK hP hD hS => ?_)
  have hP : va_P (dC, dI) vwCl [(h0, .inr (15, [.int 0, .int 0, .ref q3, .null, .null, .null, .null, .null, .null, .null, .null, .null, .null, .null, .null, .null, .null, .int 0, .null, .ref h1])), (q7, .inl (cA8, 16, .inr (.inl (fun _ => 0))))] H := hP
  have hD : va_D A [(h0, .inr (15, [.int 0, .int 0, .ref q3, .null, .null, .null, .null, .null, .null, .null, .null, .null, .null, .null, .null, .null, .null, .int 0, .null, .ref h1])), (q7, .inl (cA8, 16, .inr (.inl (fun _ => 0))))] := hD
  have hK : va_K (dC, dI) vwCl [(cA8, .long)] s := hK
  refine W.widen (k := 2) (n := 32) (by decide) (by decide) ?_
  refine va_putF (D := (dC, dI)) (ci := 15) (v := .ref q7) (ty := .array .long) (C := RX15) (T := TX15) (N := 20) hx hb hts wh_X15_init_X15 tyX15 tyX15_ok nmX15 hown hK hP hD hS 0 rfl rfl 3 (by decide) (hts (.fieldLink RX15 19 "StreamHouseModel$Job" "names" "[J") (wm_X15_init 7 rfl)) (fun _ h9 => h9) rfl hin0 rfl (by decide +kernel) rfl rfl (Nat.le_of_ble_eq_true rfl) dX15_init_22 (fun H locs hP hD hS => ?_)
  have hP : va_P (dC, dI) vwCl [(h0, .inr (15, [.int 0, .int 0, .ref q3, .ref q7, .null, .null, .null, .null, .null, .null, .null, .null, .null, .null, .null, .null, .null, .int 0, .null, .ref h1])), (q7, .inl (cA8, 16, .inr (.inl (fun _ => 0))))] H := hP
  have hD : va_D A [(h0, .inr (15, [.int 0, .int 0, .ref q3, .ref q7, .null, .null, .null, .null, .null, .null, .null, .null, .null, .null, .null, .null, .null, .int 0, .null, .ref h1])), (q7, .inl (cA8, 16, .inr (.inl (fun _ => 0))))] := hD
  have hP := hP.sub (ws' := [(h0, .inr (15, [.int 0, .int 0, .ref q3, .ref q7, .null, .null, .null, .null, .null, .null, .null, .null, .null, .null, .null, .null, .null, .int 0, .null, .ref h1]))]) [0] rfl
  have hD := hD.sub (ws' := [(h0, .inr (15, [.int 0, .int 0, .ref q3, .ref q7, .null, .null, .null, .null, .null, .null, .null, .null, .null, .null, .null, .null, .null, .int 0, .null, .ref h1]))]) [0] (by decide) rfl
  have hK := hK.sub (tys' := []) [] rfl
  refine lv_aload_n hx hb dX15_init_25 rfl (lv_at hl 0 rfl) ?_
  refine lv_bipush (v := 16) hx hb dX15_init_26 (by decide) ?_
  have h_9 : 3 ≤ 16 := by decide
  have h_10 : 48 ≤ 12564 := by decide
  refine va_newa (atype := .int) (ty := .int) (n := 16) (N' := 16) (a0 := (16, .inl (fun _ => 0))) hx hb (hts (.arrayClass .int) (wm_X15_init 4 rfl)) rfl hK hP hD hS hA (fun cA => vp_cell_i cA 16 (fun _ => 0)) (by decide) (by decide) (Nat.le_of_ble_eq_true rfl) h_9 h_10 dX15_init_28 (fun q11 cA12 H hK hP hD hS => ?_)
  have hP : va_P (dC, dI) vwCl [(h0, .inr (15, [.int 0, .int 0, .ref q3, .ref q7, .null, .null, .null, .null, .null, .null, .null, .null, .null, .null, .null, .null, .null, .int 0, .null, .ref h1])), (q11, .inl (cA12, 16, .inl (fun _ => 0)))] H := hP
  have hD : va_D A [(h0, .inr (15, [.int 0, .int 0, .ref q3, .ref q7, .null, .null, .null, .null, .null, .null, .null, .null, .null, .null, .null, .null, .null, .int 0, .null, .ref h1])), (q11, .inl (cA12, 16, .inl (fun _ => 0)))] := hD
  have hK : va_K (dC, dI) vwCl [(cA12, .int)] s := hK
  refine W.widen (k := 3) (n := 48) (by decide) (by decide) ?_
  refine va_putF (D := (dC, dI)) (ci := 15) (v := .ref q11) (ty := .array .int) (C := RX15) (T := TX15) (N := 20) hx hb hts wh_X15_init_X15 tyX15 tyX15_ok nmX15 hown hK hP hD hS 0 rfl rfl 4 (by decide) (hts (.fieldLink RX15 23 "StreamHouseModel$Job" "first" "[I") (wm_X15_init 8 rfl)) (fun _ h9 => h9) rfl hin0 rfl (by decide +kernel) rfl rfl (Nat.le_of_ble_eq_true rfl) dX15_init_30 (fun H locs hP hD hS => ?_)
  have hP : va_P (dC, dI) vwCl [(h0, .inr (15, [.int 0, .int 0, .ref q3, .ref q7, .ref q11, .null, .null, .null, .null, .null, .null, .null, .null, .null, .null, .null, .null, .int 0, .null, .ref h1])), (q11, .inl (cA12, 16, .inl (fun _ => 0)))] H := hP
  have hD : va_D A [(h0, .inr (15, [.int 0, .int 0, .ref q3, .ref q7, .ref q11, .null, .null, .null, .null, .null, .null, .null, .null, .null, .null, .null, .null, .int 0, .null, .ref h1])), (q11, .inl (cA12, 16, .inl (fun _ => 0)))] := hD
  have hP := hP.sub (ws' := [(h0, .inr (15, [.int 0, .int 0, .ref q3, .ref q7, .ref q11, .null, .null, .null, .null, .null, .null, .null, .null, .null, .null, .null, .null, .int 0, .null, .ref h1]))]) [0] rfl
  have hD := hD.sub (ws' := [(h0, .inr (15, [.int 0, .int 0, .ref q3, .ref q7, .ref q11, .null, .null, .null, .null, .null, .null, .null, .null, .null, .null, .null, .null, .int 0, .null, .ref h1]))]) [0] (by decide) rfl
  have hK := hK.sub (tys' := []) [] rfl
  refine lv_aload_n hx hb dX15_init_33 rfl (lv_at hl 0 rfl) ?_
  refine lv_bipush (v := 16) hx hb dX15_init_34 (by decide) ?_
  have h_13 : 4 ≤ 16 := by decide
  have h_14 : 64 ≤ 12564 := by decide
  refine va_newa (atype := .int) (ty := .int) (n := 16) (N' := 16) (a0 := (16, .inl (fun _ => 0))) hx hb (hts (.arrayClass .int) (wm_X15_init 4 rfl)) rfl hK hP hD hS hA (fun cA => vp_cell_i cA 16 (fun _ => 0)) (by decide) (by decide) (Nat.le_of_ble_eq_true rfl) h_13 h_14 dX15_init_36 (fun q15 cA16 H hK hP hD hS => ?_)
  have hP : va_P (dC, dI) vwCl [(h0, .inr (15, [.int 0, .int 0, .ref q3, .ref q7, .ref q11, .null, .null, .null, .null, .null, .null, .null, .null, .null, .null, .null, .null, .int 0, .null, .ref h1])), (q15, .inl (cA16, 16, .inl (fun _ => 0)))] H := hP
  have hD : va_D A [(h0, .inr (15, [.int 0, .int 0, .ref q3, .ref q7, .ref q11, .null, .null, .null, .null, .null, .null, .null, .null, .null, .null, .null, .null, .int 0, .null, .ref h1])), (q15, .inl (cA16, 16, .inl (fun _ => 0)))] := hD
  have hK : va_K (dC, dI) vwCl [(cA16, .int)] s := hK
  refine W.widen (k := 4) (n := 64) (by decide) (by decide) ?_
  refine va_putF (D := (dC, dI)) (ci := 15) (v := .ref q15) (ty := .array .int) (C := RX15) (T := TX15) (N := 20) hx hb hts wh_X15_init_X15 tyX15 tyX15_ok nmX15 hown hK hP hD hS 0 rfl rfl 5 (by decide) (hts (.fieldLink RX15 26 "StreamHouseModel$Job" "second" "[I") (wm_X15_init 9 rfl)) (fun _ h9 => h9) rfl hin0 rfl (by decide +kernel) rfl rfl (Nat.le_of_ble_eq_true rfl) dX15_init_38 (fun H locs hP hD hS => ?_)
  have hP : va_P (dC, dI) vwCl [(h0, .inr (15, [.int 0, .int 0, .ref q3, .ref q7, .ref q11, .ref q15, .null, .null, .null, .null, .null, .null, .null, .null, .null, .null, .null, .int 0, .null, .ref h1])), (q15, .inl (cA16, 16, .inl (fun _ => 0)))] H := hP
  have hD : va_D A [(h0, .inr (15, [.int 0, .int 0, .ref q3, .ref q7, .ref q11, .ref q15, .null, .null, .null, .null, .null, .null, .null, .null, .null, .null, .null, .int 0, .null, .ref h1])), (q15, .inl (cA16, 16, .inl (fun _ => 0)))] := hD
  have hP := hP.sub (ws' := [(h0, .inr (15, [.int 0, .int 0, .ref q3, .ref q7, .ref q11, .ref q15, .null, .null, .null, .null, .null, .null, .null, .null, .null, .null, .null, .int 0, .null, .ref h1]))]) [0] rfl
  have hD := hD.sub (ws' := [(h0, .inr (15, [.int 0, .int 0, .ref q3, .ref q7, .ref q11, .ref q15, .null, .null, .null, .null, .null, .null, .null, .null, .null, .null, .null, .int 0, .null, .ref h1]))]) [0] (by decide) rfl
  have hK := hK.sub (tys' := []) [] rfl
  refine lv_aload_n hx hb dX15_init_41 rfl (lv_at hl 0 rfl) ?_
  refine lv_bipush (v := 16) hx hb dX15_init_42 (by decide) ?_
  have h_17 : 5 ≤ 16 := by decide
  have h_18 : 80 ≤ 12564 := by decide
  refine va_newa (atype := .int) (ty := .int) (n := 16) (N' := 16) (a0 := (16, .inl (fun _ => 0))) hx hb (hts (.arrayClass .int) (wm_X15_init 4 rfl)) rfl hK hP hD hS hA (fun cA => vp_cell_i cA 16 (fun _ => 0)) (by decide) (by decide) (Nat.le_of_ble_eq_true rfl) h_17 h_18 dX15_init_44 (fun q19 cA20 H hK hP hD hS => ?_)
  have hP : va_P (dC, dI) vwCl [(h0, .inr (15, [.int 0, .int 0, .ref q3, .ref q7, .ref q11, .ref q15, .null, .null, .null, .null, .null, .null, .null, .null, .null, .null, .null, .int 0, .null, .ref h1])), (q19, .inl (cA20, 16, .inl (fun _ => 0)))] H := hP
  have hD : va_D A [(h0, .inr (15, [.int 0, .int 0, .ref q3, .ref q7, .ref q11, .ref q15, .null, .null, .null, .null, .null, .null, .null, .null, .null, .null, .null, .int 0, .null, .ref h1])), (q19, .inl (cA20, 16, .inl (fun _ => 0)))] := hD
  have hK : va_K (dC, dI) vwCl [(cA20, .int)] s := hK
  refine W.widen (k := 5) (n := 80) (by decide) (by decide) ?_
  refine va_putF (D := (dC, dI)) (ci := 15) (v := .ref q19) (ty := .array .int) (C := RX15) (T := TX15) (N := 20) hx hb hts wh_X15_init_X15 tyX15 tyX15_ok nmX15 hown hK hP hD hS 0 rfl rfl 6 (by decide) (hts (.fieldLink RX15 29 "StreamHouseModel$Job" "columns" "[I") (wm_X15_init 10 rfl)) (fun _ h9 => h9) rfl hin0 rfl (by decide +kernel) rfl rfl (Nat.le_of_ble_eq_true rfl) dX15_init_46 (fun H locs hP hD hS => ?_)
  have hP : va_P (dC, dI) vwCl [(h0, .inr (15, [.int 0, .int 0, .ref q3, .ref q7, .ref q11, .ref q15, .ref q19, .null, .null, .null, .null, .null, .null, .null, .null, .null, .null, .int 0, .null, .ref h1])), (q19, .inl (cA20, 16, .inl (fun _ => 0)))] H := hP
  have hD : va_D A [(h0, .inr (15, [.int 0, .int 0, .ref q3, .ref q7, .ref q11, .ref q15, .ref q19, .null, .null, .null, .null, .null, .null, .null, .null, .null, .null, .int 0, .null, .ref h1])), (q19, .inl (cA20, 16, .inl (fun _ => 0)))] := hD
  have hP := hP.sub (ws' := [(h0, .inr (15, [.int 0, .int 0, .ref q3, .ref q7, .ref q11, .ref q15, .ref q19, .null, .null, .null, .null, .null, .null, .null, .null, .null, .null, .int 0, .null, .ref h1]))]) [0] rfl
  have hD := hD.sub (ws' := [(h0, .inr (15, [.int 0, .int 0, .ref q3, .ref q7, .ref q11, .ref q15, .ref q19, .null, .null, .null, .null, .null, .null, .null, .null, .null, .null, .int 0, .null, .ref h1]))]) [0] (by decide) rfl
  have hK := hK.sub (tys' := []) [] rfl
  refine lv_aload_n hx hb dX15_init_49 rfl (lv_at hl 0 rfl) ?_
  refine lv_sipush (v := 144) hx hb dX15_init_50 (by decide) ?_
  have h_21 : 6 ≤ 16 := by decide
  have h_22 : 224 ≤ 12564 := by decide
  refine va_newa (atype := .long) (ty := .long) (n := 144) (N' := 144) (a0 := (144, .inr (.inl (fun _ => 0)))) hx hb (hts (.arrayClass .long) (wm_X15_init 6 rfl)) rfl hK hP hD hS hA (fun cA => vp_cell_l cA 144 (fun _ => 0)) (by decide) (by decide) (Nat.le_of_ble_eq_true rfl) h_21 h_22 dX15_init_53 (fun q23 cA24 H hK hP hD hS => ?_)
  have hP : va_P (dC, dI) vwCl [(h0, .inr (15, [.int 0, .int 0, .ref q3, .ref q7, .ref q11, .ref q15, .ref q19, .null, .null, .null, .null, .null, .null, .null, .null, .null, .null, .int 0, .null, .ref h1])), (q23, .inl (cA24, 144, .inr (.inl (fun _ => 0))))] H := hP
  have hD : va_D A [(h0, .inr (15, [.int 0, .int 0, .ref q3, .ref q7, .ref q11, .ref q15, .ref q19, .null, .null, .null, .null, .null, .null, .null, .null, .null, .null, .int 0, .null, .ref h1])), (q23, .inl (cA24, 144, .inr (.inl (fun _ => 0))))] := hD
  have hK : va_K (dC, dI) vwCl [(cA24, .long)] s := hK
  refine W.widen (k := 6) (n := 224) (by decide) (by decide) ?_
  refine va_putF (D := (dC, dI)) (ci := 15) (v := .ref q23) (ty := .array .long) (C := RX15) (T := TX15) (N := 20) hx hb hts wh_X15_init_X15 tyX15 tyX15_ok nmX15 hown hK hP hD hS 0 rfl rfl 7 (by decide) (hts (.fieldLink RX15 32 "StreamHouseModel$Job" "columnNames" "[J") (wm_X15_init 11 rfl)) (fun _ h9 => h9) rfl hin0 rfl (by decide +kernel) rfl rfl (Nat.le_of_ble_eq_true rfl) dX15_init_55 (fun H locs hP hD hS => ?_)
  have hP : va_P (dC, dI) vwCl [(h0, .inr (15, [.int 0, .int 0, .ref q3, .ref q7, .ref q11, .ref q15, .ref q19, .ref q23, .null, .null, .null, .null, .null, .null, .null, .null, .null, .int 0, .null, .ref h1])), (q23, .inl (cA24, 144, .inr (.inl (fun _ => 0))))] H := hP
  have hD : va_D A [(h0, .inr (15, [.int 0, .int 0, .ref q3, .ref q7, .ref q11, .ref q15, .ref q19, .ref q23, .null, .null, .null, .null, .null, .null, .null, .null, .null, .int 0, .null, .ref h1])), (q23, .inl (cA24, 144, .inr (.inl (fun _ => 0))))] := hD
  have hP := hP.sub (ws' := [(h0, .inr (15, [.int 0, .int 0, .ref q3, .ref q7, .ref q11, .ref q15, .ref q19, .ref q23, .null, .null, .null, .null, .null, .null, .null, .null, .null, .int 0, .null, .ref h1]))]) [0] rfl
  have hD := hD.sub (ws' := [(h0, .inr (15, [.int 0, .int 0, .ref q3, .ref q7, .ref q11, .ref q15, .ref q19, .ref q23, .null, .null, .null, .null, .null, .null, .null, .null, .null, .int 0, .null, .ref h1]))]) [0] (by decide) rfl
  have hK := hK.sub (tys' := []) [] rfl
  refine lv_aload_n hx hb dX15_init_58 rfl (lv_at hl 0 rfl) ?_
  refine lv_bipush (v := 16) hx hb dX15_init_59 (by decide) ?_
  have h_25 : 7 ≤ 16 := by decide
  have h_26 : 240 ≤ 12564 := by decide
  refine va_newa (atype := .long) (ty := .long) (n := 16) (N' := 16) (a0 := (16, .inr (.inl (fun _ => 0)))) hx hb (hts (.arrayClass .long) (wm_X15_init 6 rfl)) rfl hK hP hD hS hA (fun cA => vp_cell_l cA 16 (fun _ => 0)) (by decide) (by decide) (Nat.le_of_ble_eq_true rfl) h_25 h_26 dX15_init_61 (fun q27 cA28 H hK hP hD hS => ?_)
  have hP : va_P (dC, dI) vwCl [(h0, .inr (15, [.int 0, .int 0, .ref q3, .ref q7, .ref q11, .ref q15, .ref q19, .ref q23, .null, .null, .null, .null, .null, .null, .null, .null, .null, .int 0, .null, .ref h1])), (q27, .inl (cA28, 16, .inr (.inl (fun _ => 0))))] H := hP
  have hD : va_D A [(h0, .inr (15, [.int 0, .int 0, .ref q3, .ref q7, .ref q11, .ref q15, .ref q19, .ref q23, .null, .null, .null, .null, .null, .null, .null, .null, .null, .int 0, .null, .ref h1])), (q27, .inl (cA28, 16, .inr (.inl (fun _ => 0))))] := hD
  have hK : va_K (dC, dI) vwCl [(cA28, .long)] s := hK
  refine W.widen (k := 7) (n := 240) (by decide) (by decide) ?_
  refine va_putF (D := (dC, dI)) (ci := 15) (v := .ref q27) (ty := .array .long) (C := RX15) (T := TX15) (N := 20) hx hb hts wh_X15_init_X15 tyX15 tyX15_ok nmX15 hown hK hP hD hS 0 rfl rfl 8 (by decide) (hts (.fieldLink RX15 35 "StreamHouseModel$Job" "one" "[J") (wm_X15_init 12 rfl)) (fun _ h9 => h9) rfl hin0 rfl (by decide +kernel) rfl rfl (Nat.le_of_ble_eq_true rfl) dX15_init_63 (fun H locs hP hD hS => ?_)
  have hP : va_P (dC, dI) vwCl [(h0, .inr (15, [.int 0, .int 0, .ref q3, .ref q7, .ref q11, .ref q15, .ref q19, .ref q23, .ref q27, .null, .null, .null, .null, .null, .null, .null, .null, .int 0, .null, .ref h1])), (q27, .inl (cA28, 16, .inr (.inl (fun _ => 0))))] H := hP
  have hD : va_D A [(h0, .inr (15, [.int 0, .int 0, .ref q3, .ref q7, .ref q11, .ref q15, .ref q19, .ref q23, .ref q27, .null, .null, .null, .null, .null, .null, .null, .null, .int 0, .null, .ref h1])), (q27, .inl (cA28, 16, .inr (.inl (fun _ => 0))))] := hD
  have hP := hP.sub (ws' := [(h0, .inr (15, [.int 0, .int 0, .ref q3, .ref q7, .ref q11, .ref q15, .ref q19, .ref q23, .ref q27, .null, .null, .null, .null, .null, .null, .null, .null, .int 0, .null, .ref h1]))]) [0] rfl
  have hD := hD.sub (ws' := [(h0, .inr (15, [.int 0, .int 0, .ref q3, .ref q7, .ref q11, .ref q15, .ref q19, .ref q23, .ref q27, .null, .null, .null, .null, .null, .null, .null, .null, .int 0, .null, .ref h1]))]) [0] (by decide) rfl
  have hK := hK.sub (tys' := []) [] rfl
  refine lv_aload_n hx hb dX15_init_66 rfl (lv_at hl 0 rfl) ?_
  refine lv_bipush (v := 16) hx hb dX15_init_67 (by decide) ?_
  have h_29 : 8 ≤ 16 := by decide
  have h_30 : 256 ≤ 12564 := by decide
  refine va_newa (atype := .long) (ty := .long) (n := 16) (N' := 16) (a0 := (16, .inr (.inl (fun _ => 0)))) hx hb (hts (.arrayClass .long) (wm_X15_init 6 rfl)) rfl hK hP hD hS hA (fun cA => vp_cell_l cA 16 (fun _ => 0)) (by decide) (by decide) (Nat.le_of_ble_eq_true rfl) h_29 h_30 dX15_init_69 (fun q31 cA32 H hK hP hD hS => ?_)
  have hP : va_P (dC, dI) vwCl [(h0, .inr (15, [.int 0, .int 0, .ref q3, .ref q7, .ref q11, .ref q15, .ref q19, .ref q23, .ref q27, .null, .null, .null, .null, .null, .null, .null, .null, .int 0, .null, .ref h1])), (q31, .inl (cA32, 16, .inr (.inl (fun _ => 0))))] H := hP
  have hD : va_D A [(h0, .inr (15, [.int 0, .int 0, .ref q3, .ref q7, .ref q11, .ref q15, .ref q19, .ref q23, .ref q27, .null, .null, .null, .null, .null, .null, .null, .null, .int 0, .null, .ref h1])), (q31, .inl (cA32, 16, .inr (.inl (fun _ => 0))))] := hD
  have hK : va_K (dC, dI) vwCl [(cA32, .long)] s := hK
  refine W.widen (k := 8) (n := 256) (by decide) (by decide) ?_
  refine va_putF (D := (dC, dI)) (ci := 15) (v := .ref q31) (ty := .array .long) (C := RX15) (T := TX15) (N := 20) hx hb hts wh_X15_init_X15 tyX15 tyX15_ok nmX15 hown hK hP hD hS 0 rfl rfl 9 (by decide) (hts (.fieldLink RX15 38 "StreamHouseModel$Job" "other" "[J") (wm_X15_init 13 rfl)) (fun _ h9 => h9) rfl hin0 rfl (by decide +kernel) rfl rfl (Nat.le_of_ble_eq_true rfl) dX15_init_71 (fun H locs hP hD hS => ?_)
  have hP : va_P (dC, dI) vwCl [(h0, .inr (15, [.int 0, .int 0, .ref q3, .ref q7, .ref q11, .ref q15, .ref q19, .ref q23, .ref q27, .ref q31, .null, .null, .null, .null, .null, .null, .null, .int 0, .null, .ref h1])), (q31, .inl (cA32, 16, .inr (.inl (fun _ => 0))))] H := hP
  have hD : va_D A [(h0, .inr (15, [.int 0, .int 0, .ref q3, .ref q7, .ref q11, .ref q15, .ref q19, .ref q23, .ref q27, .ref q31, .null, .null, .null, .null, .null, .null, .null, .int 0, .null, .ref h1])), (q31, .inl (cA32, 16, .inr (.inl (fun _ => 0))))] := hD
  have hP := hP.sub (ws' := [(h0, .inr (15, [.int 0, .int 0, .ref q3, .ref q7, .ref q11, .ref q15, .ref q19, .ref q23, .ref q27, .ref q31, .null, .null, .null, .null, .null, .null, .null, .int 0, .null, .ref h1]))]) [0] rfl
  have hD := hD.sub (ws' := [(h0, .inr (15, [.int 0, .int 0, .ref q3, .ref q7, .ref q11, .ref q15, .ref q19, .ref q23, .ref q27, .ref q31, .null, .null, .null, .null, .null, .null, .null, .int 0, .null, .ref h1]))]) [0] (by decide) rfl
  have hK := hK.sub (tys' := []) [] rfl
  refine lv_aload_n hx hb dX15_init_74 rfl (lv_at hl 0 rfl) ?_
  refine lv_bipush (v := 16) hx hb dX15_init_75 (by decide) ?_
  have h_33 : 9 ≤ 16 := by decide
  have h_34 : 272 ≤ 12564 := by decide
  refine va_newa (atype := .int) (ty := .int) (n := 16) (N' := 16) (a0 := (16, .inl (fun _ => 0))) hx hb (hts (.arrayClass .int) (wm_X15_init 4 rfl)) rfl hK hP hD hS hA (fun cA => vp_cell_i cA 16 (fun _ => 0)) (by decide) (by decide) (Nat.le_of_ble_eq_true rfl) h_33 h_34 dX15_init_77 (fun q35 cA36 H hK hP hD hS => ?_)
  have hP : va_P (dC, dI) vwCl [(h0, .inr (15, [.int 0, .int 0, .ref q3, .ref q7, .ref q11, .ref q15, .ref q19, .ref q23, .ref q27, .ref q31, .null, .null, .null, .null, .null, .null, .null, .int 0, .null, .ref h1])), (q35, .inl (cA36, 16, .inl (fun _ => 0)))] H := hP
  have hD : va_D A [(h0, .inr (15, [.int 0, .int 0, .ref q3, .ref q7, .ref q11, .ref q15, .ref q19, .ref q23, .ref q27, .ref q31, .null, .null, .null, .null, .null, .null, .null, .int 0, .null, .ref h1])), (q35, .inl (cA36, 16, .inl (fun _ => 0)))] := hD
  have hK : va_K (dC, dI) vwCl [(cA36, .int)] s := hK
  refine W.widen (k := 9) (n := 272) (by decide) (by decide) ?_
  refine va_putF (D := (dC, dI)) (ci := 15) (v := .ref q35) (ty := .array .int) (C := RX15) (T := TX15) (N := 20) hx hb hts wh_X15_init_X15 tyX15 tyX15_ok nmX15 hown hK hP hD hS 0 rfl rfl 10 (by decide) (hts (.fieldLink RX15 41 "StreamHouseModel$Job" "by" "[I") (wm_X15_init 14 rfl)) (fun _ h9 => h9) rfl hin0 rfl (by decide +kernel) rfl rfl (Nat.le_of_ble_eq_true rfl) dX15_init_79 (fun H locs hP hD hS => ?_)
  have hP : va_P (dC, dI) vwCl [(h0, .inr (15, [.int 0, .int 0, .ref q3, .ref q7, .ref q11, .ref q15, .ref q19, .ref q23, .ref q27, .ref q31, .ref q35, .null, .null, .null, .null, .null, .null, .int 0, .null, .ref h1])), (q35, .inl (cA36, 16, .inl (fun _ => 0)))] H := hP
  have hD : va_D A [(h0, .inr (15, [.int 0, .int 0, .ref q3, .ref q7, .ref q11, .ref q15, .ref q19, .ref q23, .ref q27, .ref q31, .ref q35, .null, .null, .null, .null, .null, .null, .int 0, .null, .ref h1])), (q35, .inl (cA36, 16, .inl (fun _ => 0)))] := hD
  have hP := hP.sub (ws' := [(h0, .inr (15, [.int 0, .int 0, .ref q3, .ref q7, .ref q11, .ref q15, .ref q19, .ref q23, .ref q27, .ref q31, .ref q35, .null, .null, .null, .null, .null, .null, .int 0, .null, .ref h1]))]) [0] rfl
  have hD := hD.sub (ws' := [(h0, .inr (15, [.int 0, .int 0, .ref q3, .ref q7, .ref q11, .ref q15, .ref q19, .ref q23, .ref q27, .ref q31, .ref q35, .null, .null, .null, .null, .null, .null, .int 0, .null, .ref h1]))]) [0] (by decide) rfl
  have hK := hK.sub (tys' := []) [] rfl
  refine lv_aload_n hx hb dX15_init_82 rfl (lv_at hl 0 rfl) ?_
  refine lv_bipush (v := 16) hx hb dX15_init_83 (by decide) ?_
  have h_37 : 10 ≤ 16 := by decide
  have h_38 : 288 ≤ 12564 := by decide
  refine va_newa (atype := .int) (ty := .int) (n := 16) (N' := 16) (a0 := (16, .inl (fun _ => 0))) hx hb (hts (.arrayClass .int) (wm_X15_init 4 rfl)) rfl hK hP hD hS hA (fun cA => vp_cell_i cA 16 (fun _ => 0)) (by decide) (by decide) (Nat.le_of_ble_eq_true rfl) h_37 h_38 dX15_init_85 (fun q39 cA40 H hK hP hD hS => ?_)
  have hP : va_P (dC, dI) vwCl [(h0, .inr (15, [.int 0, .int 0, .ref q3, .ref q7, .ref q11, .ref q15, .ref q19, .ref q23, .ref q27, .ref q31, .ref q35, .null, .null, .null, .null, .null, .null, .int 0, .null, .ref h1])), (q39, .inl (cA40, 16, .inl (fun _ => 0)))] H := hP
  have hD : va_D A [(h0, .inr (15, [.int 0, .int 0, .ref q3, .ref q7, .ref q11, .ref q15, .ref q19, .ref q23, .ref q27, .ref q31, .ref q35, .null, .null, .null, .null, .null, .null, .int 0, .null, .ref h1])), (q39, .inl (cA40, 16, .inl (fun _ => 0)))] := hD
  have hK : va_K (dC, dI) vwCl [(cA40, .int)] s := hK
  refine W.widen (k := 10) (n := 288) (by decide) (by decide) ?_
  refine va_putF (D := (dC, dI)) (ci := 15) (v := .ref q39) (ty := .array .int) (C := RX15) (T := TX15) (N := 20) hx hb hts wh_X15_init_X15 tyX15 tyX15_ok nmX15 hown hK hP hD hS 0 rfl rfl 11 (by decide) (hts (.fieldLink RX15 44 "StreamHouseModel$Job" "byOther" "[I") (wm_X15_init 15 rfl)) (fun _ h9 => h9) rfl hin0 rfl (by decide +kernel) rfl rfl (Nat.le_of_ble_eq_true rfl) dX15_init_87 (fun H locs hP hD hS => ?_)
  have hP : va_P (dC, dI) vwCl [(h0, .inr (15, [.int 0, .int 0, .ref q3, .ref q7, .ref q11, .ref q15, .ref q19, .ref q23, .ref q27, .ref q31, .ref q35, .ref q39, .null, .null, .null, .null, .null, .int 0, .null, .ref h1])), (q39, .inl (cA40, 16, .inl (fun _ => 0)))] H := hP
  have hD : va_D A [(h0, .inr (15, [.int 0, .int 0, .ref q3, .ref q7, .ref q11, .ref q15, .ref q19, .ref q23, .ref q27, .ref q31, .ref q35, .ref q39, .null, .null, .null, .null, .null, .int 0, .null, .ref h1])), (q39, .inl (cA40, 16, .inl (fun _ => 0)))] := hD
  have hP := hP.sub (ws' := [(h0, .inr (15, [.int 0, .int 0, .ref q3, .ref q7, .ref q11, .ref q15, .ref q19, .ref q23, .ref q27, .ref q31, .ref q35, .ref q39, .null, .null, .null, .null, .null, .int 0, .null, .ref h1]))]) [0] rfl
  have hD := hD.sub (ws' := [(h0, .inr (15, [.int 0, .int 0, .ref q3, .ref q7, .ref q11, .ref q15, .ref q19, .ref q23, .ref q27, .ref q31, .ref q35, .ref q39, .null, .null, .null, .null, .null, .int 0, .null, .ref h1]))]) [0] (by decide) rfl
  have hK := hK.sub (tys' := []) [] rfl
  refine lv_aload_n hx hb dX15_init_90 rfl (lv_at hl 0 rfl) ?_
  refine lv_bipush (v := 16) hx hb dX15_init_91 (by decide) ?_
  have h_41 : 11 ≤ 16 := by decide
  have h_42 : 304 ≤ 12564 := by decide
  refine va_newa (atype := .int) (ty := .int) (n := 16) (N' := 16) (a0 := (16, .inl (fun _ => 0))) hx hb (hts (.arrayClass .int) (wm_X15_init 4 rfl)) rfl hK hP hD hS hA (fun cA => vp_cell_i cA 16 (fun _ => 0)) (by decide) (by decide) (Nat.le_of_ble_eq_true rfl) h_41 h_42 dX15_init_93 (fun q43 cA44 H hK hP hD hS => ?_)
  have hP : va_P (dC, dI) vwCl [(h0, .inr (15, [.int 0, .int 0, .ref q3, .ref q7, .ref q11, .ref q15, .ref q19, .ref q23, .ref q27, .ref q31, .ref q35, .ref q39, .null, .null, .null, .null, .null, .int 0, .null, .ref h1])), (q43, .inl (cA44, 16, .inl (fun _ => 0)))] H := hP
  have hD : va_D A [(h0, .inr (15, [.int 0, .int 0, .ref q3, .ref q7, .ref q11, .ref q15, .ref q19, .ref q23, .ref q27, .ref q31, .ref q35, .ref q39, .null, .null, .null, .null, .null, .int 0, .null, .ref h1])), (q43, .inl (cA44, 16, .inl (fun _ => 0)))] := hD
  have hK : va_K (dC, dI) vwCl [(cA44, .int)] s := hK
  refine W.widen (k := 11) (n := 304) (by decide) (by decide) ?_
  refine va_putF (D := (dC, dI)) (ci := 15) (v := .ref q43) (ty := .array .int) (C := RX15) (T := TX15) (N := 20) hx hb hts wh_X15_init_X15 tyX15 tyX15_ok nmX15 hown hK hP hD hS 0 rfl rfl 12 (by decide) (hts (.fieldLink RX15 47 "StreamHouseModel$Job" "values" "[I") (wm_X15_init 16 rfl)) (fun _ h9 => h9) rfl hin0 rfl (by decide +kernel) rfl rfl (Nat.le_of_ble_eq_true rfl) dX15_init_95 (fun H locs hP hD hS => ?_)
  have hP : va_P (dC, dI) vwCl [(h0, .inr (15, [.int 0, .int 0, .ref q3, .ref q7, .ref q11, .ref q15, .ref q19, .ref q23, .ref q27, .ref q31, .ref q35, .ref q39, .ref q43, .null, .null, .null, .null, .int 0, .null, .ref h1])), (q43, .inl (cA44, 16, .inl (fun _ => 0)))] H := hP
  have hD : va_D A [(h0, .inr (15, [.int 0, .int 0, .ref q3, .ref q7, .ref q11, .ref q15, .ref q19, .ref q23, .ref q27, .ref q31, .ref q35, .ref q39, .ref q43, .null, .null, .null, .null, .int 0, .null, .ref h1])), (q43, .inl (cA44, 16, .inl (fun _ => 0)))] := hD
  have hP := hP.sub (ws' := [(h0, .inr (15, [.int 0, .int 0, .ref q3, .ref q7, .ref q11, .ref q15, .ref q19, .ref q23, .ref q27, .ref q31, .ref q35, .ref q39, .ref q43, .null, .null, .null, .null, .int 0, .null, .ref h1]))]) [0] rfl
  have hD := hD.sub (ws' := [(h0, .inr (15, [.int 0, .int 0, .ref q3, .ref q7, .ref q11, .ref q15, .ref q19, .ref q23, .ref q27, .ref q31, .ref q35, .ref q39, .ref q43, .null, .null, .null, .null, .int 0, .null, .ref h1]))]) [0] (by decide) rfl
  have hK := hK.sub (tys' := []) [] rfl
  refine lv_aload_n hx hb dX15_init_98 rfl (lv_at hl 0 rfl) ?_
  refine lv_sipush (v := 128) hx hb dX15_init_99 (by decide) ?_
  have h_45 : 12 ≤ 16 := by decide
  have h_46 : 432 ≤ 12564 := by decide
  refine va_newa (atype := .int) (ty := .int) (n := 128) (N' := 128) (a0 := (128, .inl (fun _ => 0))) hx hb (hts (.arrayClass .int) (wm_X15_init 4 rfl)) rfl hK hP hD hS hA (fun cA => vp_cell_i cA 128 (fun _ => 0)) (by decide) (by decide) (Nat.le_of_ble_eq_true rfl) h_45 h_46 dX15_init_102 (fun q47 cA48 H hK hP hD hS => ?_)
  have hP : va_P (dC, dI) vwCl [(h0, .inr (15, [.int 0, .int 0, .ref q3, .ref q7, .ref q11, .ref q15, .ref q19, .ref q23, .ref q27, .ref q31, .ref q35, .ref q39, .ref q43, .null, .null, .null, .null, .int 0, .null, .ref h1])), (q47, .inl (cA48, 128, .inl (fun _ => 0)))] H := hP
  have hD : va_D A [(h0, .inr (15, [.int 0, .int 0, .ref q3, .ref q7, .ref q11, .ref q15, .ref q19, .ref q23, .ref q27, .ref q31, .ref q35, .ref q39, .ref q43, .null, .null, .null, .null, .int 0, .null, .ref h1])), (q47, .inl (cA48, 128, .inl (fun _ => 0)))] := hD
  have hK : va_K (dC, dI) vwCl [(cA48, .int)] s := hK
  refine W.widen (k := 12) (n := 432) (by decide) (by decide) ?_
  refine va_putF (D := (dC, dI)) (ci := 15) (v := .ref q47) (ty := .array .int) (C := RX15) (T := TX15) (N := 20) hx hb hts wh_X15_init_X15 tyX15 tyX15_ok nmX15 hown hK hP hD hS 0 rfl rfl 13 (by decide) (hts (.fieldLink RX15 50 "StreamHouseModel$Job" "valueAt" "[I") (wm_X15_init 17 rfl)) (fun _ h9 => h9) rfl hin0 rfl (by decide +kernel) rfl rfl (Nat.le_of_ble_eq_true rfl) dX15_init_104 (fun H locs hP hD hS => ?_)
  have hP : va_P (dC, dI) vwCl [(h0, .inr (15, [.int 0, .int 0, .ref q3, .ref q7, .ref q11, .ref q15, .ref q19, .ref q23, .ref q27, .ref q31, .ref q35, .ref q39, .ref q43, .ref q47, .null, .null, .null, .int 0, .null, .ref h1])), (q47, .inl (cA48, 128, .inl (fun _ => 0)))] H := hP
  have hD : va_D A [(h0, .inr (15, [.int 0, .int 0, .ref q3, .ref q7, .ref q11, .ref q15, .ref q19, .ref q23, .ref q27, .ref q31, .ref q35, .ref q39, .ref q43, .ref q47, .null, .null, .null, .int 0, .null, .ref h1])), (q47, .inl (cA48, 128, .inl (fun _ => 0)))] := hD
  have hP := hP.sub (ws' := [(h0, .inr (15, [.int 0, .int 0, .ref q3, .ref q7, .ref q11, .ref q15, .ref q19, .ref q23, .ref q27, .ref q31, .ref q35, .ref q39, .ref q43, .ref q47, .null, .null, .null, .int 0, .null, .ref h1]))]) [0] rfl
  have hD := hD.sub (ws' := [(h0, .inr (15, [.int 0, .int 0, .ref q3, .ref q7, .ref q11, .ref q15, .ref q19, .ref q23, .ref q27, .ref q31, .ref q35, .ref q39, .ref q43, .ref q47, .null, .null, .null, .int 0, .null, .ref h1]))]) [0] (by decide) rfl
  have hK := hK.sub (tys' := []) [] rfl
  refine lv_aload_n hx hb dX15_init_107 rfl (lv_at hl 0 rfl) ?_
  refine lv_sipush (v := 128) hx hb dX15_init_108 (by decide) ?_
  have h_49 : 13 ≤ 16 := by decide
  have h_50 : 560 ≤ 12564 := by decide
  refine va_newa (atype := .int) (ty := .int) (n := 128) (N' := 128) (a0 := (128, .inl (fun _ => 0))) hx hb (hts (.arrayClass .int) (wm_X15_init 4 rfl)) rfl hK hP hD hS hA (fun cA => vp_cell_i cA 128 (fun _ => 0)) (by decide) (by decide) (Nat.le_of_ble_eq_true rfl) h_49 h_50 dX15_init_111 (fun q51 cA52 H hK hP hD hS => ?_)
  have hP : va_P (dC, dI) vwCl [(h0, .inr (15, [.int 0, .int 0, .ref q3, .ref q7, .ref q11, .ref q15, .ref q19, .ref q23, .ref q27, .ref q31, .ref q35, .ref q39, .ref q43, .ref q47, .null, .null, .null, .int 0, .null, .ref h1])), (q51, .inl (cA52, 128, .inl (fun _ => 0)))] H := hP
  have hD : va_D A [(h0, .inr (15, [.int 0, .int 0, .ref q3, .ref q7, .ref q11, .ref q15, .ref q19, .ref q23, .ref q27, .ref q31, .ref q35, .ref q39, .ref q43, .ref q47, .null, .null, .null, .int 0, .null, .ref h1])), (q51, .inl (cA52, 128, .inl (fun _ => 0)))] := hD
  have hK : va_K (dC, dI) vwCl [(cA52, .int)] s := hK
  refine W.widen (k := 13) (n := 560) (by decide) (by decide) ?_
  refine va_putF (D := (dC, dI)) (ci := 15) (v := .ref q51) (ty := .array .int) (C := RX15) (T := TX15) (N := 20) hx hb hts wh_X15_init_X15 tyX15 tyX15_ok nmX15 hown hK hP hD hS 0 rfl rfl 14 (by decide) (hts (.fieldLink RX15 53 "StreamHouseModel$Job" "aggregate" "[I") (wm_X15_init 18 rfl)) (fun _ h9 => h9) rfl hin0 rfl (by decide +kernel) rfl rfl (Nat.le_of_ble_eq_true rfl) dX15_init_113 (fun H locs hP hD hS => ?_)
  have hP : va_P (dC, dI) vwCl [(h0, .inr (15, [.int 0, .int 0, .ref q3, .ref q7, .ref q11, .ref q15, .ref q19, .ref q23, .ref q27, .ref q31, .ref q35, .ref q39, .ref q43, .ref q47, .ref q51, .null, .null, .int 0, .null, .ref h1])), (q51, .inl (cA52, 128, .inl (fun _ => 0)))] H := hP
  have hD : va_D A [(h0, .inr (15, [.int 0, .int 0, .ref q3, .ref q7, .ref q11, .ref q15, .ref q19, .ref q23, .ref q27, .ref q31, .ref q35, .ref q39, .ref q43, .ref q47, .ref q51, .null, .null, .int 0, .null, .ref h1])), (q51, .inl (cA52, 128, .inl (fun _ => 0)))] := hD
  have hP := hP.sub (ws' := [(h0, .inr (15, [.int 0, .int 0, .ref q3, .ref q7, .ref q11, .ref q15, .ref q19, .ref q23, .ref q27, .ref q31, .ref q35, .ref q39, .ref q43, .ref q47, .ref q51, .null, .null, .int 0, .null, .ref h1]))]) [0] rfl
  have hD := hD.sub (ws' := [(h0, .inr (15, [.int 0, .int 0, .ref q3, .ref q7, .ref q11, .ref q15, .ref q19, .ref q23, .ref q27, .ref q31, .ref q35, .ref q39, .ref q43, .ref q47, .ref q51, .null, .null, .int 0, .null, .ref h1]))]) [0] (by decide) rfl
  have hK := hK.sub (tys' := []) [] rfl
  refine lv_aload_n hx hb dX15_init_116 rfl (lv_at hl 0 rfl) ?_
  refine lv_sipush (v := 6000) hx hb dX15_init_117 (by decide) ?_
  have h_53 : 14 ≤ 16 := by decide
  have h_54 : 6560 ≤ 12564 := by decide
  refine va_newa (atype := .int) (ty := .int) (n := 6000) (N' := 6000) (a0 := (6000, .inl (fun _ => 0))) hx hb (hts (.arrayClass .int) (wm_X15_init 4 rfl)) rfl hK hP hD hS hA (fun cA => vp_cell_i cA 6000 (fun _ => 0)) (by decide) (by decide) (Nat.le_of_ble_eq_true rfl) h_53 h_54 dX15_init_120 (fun q55 cA56 H hK hP hD hS => ?_)
  have hP : va_P (dC, dI) vwCl [(h0, .inr (15, [.int 0, .int 0, .ref q3, .ref q7, .ref q11, .ref q15, .ref q19, .ref q23, .ref q27, .ref q31, .ref q35, .ref q39, .ref q43, .ref q47, .ref q51, .null, .null, .int 0, .null, .ref h1])), (q55, .inl (cA56, 6000, .inl (fun _ => 0)))] H := hP
  have hD : va_D A [(h0, .inr (15, [.int 0, .int 0, .ref q3, .ref q7, .ref q11, .ref q15, .ref q19, .ref q23, .ref q27, .ref q31, .ref q35, .ref q39, .ref q43, .ref q47, .ref q51, .null, .null, .int 0, .null, .ref h1])), (q55, .inl (cA56, 6000, .inl (fun _ => 0)))] := hD
  have hK : va_K (dC, dI) vwCl [(cA56, .int)] s := hK
  refine W.widen (k := 14) (n := 6560) (by decide) (by decide) ?_
  refine va_putF (D := (dC, dI)) (ci := 15) (v := .ref q55) (ty := .array .int) (C := RX15) (T := TX15) (N := 20) hx hb hts wh_X15_init_X15 tyX15 tyX15_ok nmX15 hown hK hP hD hS 0 rfl rfl 15 (by decide) (hts (.fieldLink RX15 56 "StreamHouseModel$Job" "steps" "[I") (wm_X15_init 19 rfl)) (fun _ h9 => h9) rfl hin0 rfl (by decide +kernel) rfl rfl (Nat.le_of_ble_eq_true rfl) dX15_init_122 (fun H locs hP hD hS => ?_)
  have hP : va_P (dC, dI) vwCl [(h0, .inr (15, [.int 0, .int 0, .ref q3, .ref q7, .ref q11, .ref q15, .ref q19, .ref q23, .ref q27, .ref q31, .ref q35, .ref q39, .ref q43, .ref q47, .ref q51, .ref q55, .null, .int 0, .null, .ref h1])), (q55, .inl (cA56, 6000, .inl (fun _ => 0)))] H := hP
  have hD : va_D A [(h0, .inr (15, [.int 0, .int 0, .ref q3, .ref q7, .ref q11, .ref q15, .ref q19, .ref q23, .ref q27, .ref q31, .ref q35, .ref q39, .ref q43, .ref q47, .ref q51, .ref q55, .null, .int 0, .null, .ref h1])), (q55, .inl (cA56, 6000, .inl (fun _ => 0)))] := hD
  have hP := hP.sub (ws' := [(h0, .inr (15, [.int 0, .int 0, .ref q3, .ref q7, .ref q11, .ref q15, .ref q19, .ref q23, .ref q27, .ref q31, .ref q35, .ref q39, .ref q43, .ref q47, .ref q51, .ref q55, .null, .int 0, .null, .ref h1]))]) [0] rfl
  have hD := hD.sub (ws' := [(h0, .inr (15, [.int 0, .int 0, .ref q3, .ref q7, .ref q11, .ref q15, .ref q19, .ref q23, .ref q27, .ref q31, .ref q35, .ref q39, .ref q43, .ref q47, .ref q51, .ref q55, .null, .int 0, .null, .ref h1]))]) [0] (by decide) rfl
  have hK := hK.sub (tys' := []) [] rfl
  refine lv_aload_n hx hb dX15_init_125 rfl (lv_at hl 0 rfl) ?_
  refine lv_sipush (v := 6000) hx hb dX15_init_126 (by decide) ?_
  have h_57 : 15 ≤ 16 := by decide
  have h_58 : 12560 ≤ 12564 := by decide
  refine va_newa (atype := .long) (ty := .long) (n := 6000) (N' := 6000) (a0 := (6000, .inr (.inl (fun _ => 0)))) hx hb (hts (.arrayClass .long) (wm_X15_init 6 rfl)) rfl hK hP hD hS hA (fun cA => vp_cell_l cA 6000 (fun _ => 0)) (by decide) (by decide) (Nat.le_of_ble_eq_true rfl) h_57 h_58 dX15_init_129 (fun q59 cA60 H hK hP hD hS => ?_)
  have hP : va_P (dC, dI) vwCl [(h0, .inr (15, [.int 0, .int 0, .ref q3, .ref q7, .ref q11, .ref q15, .ref q19, .ref q23, .ref q27, .ref q31, .ref q35, .ref q39, .ref q43, .ref q47, .ref q51, .ref q55, .null, .int 0, .null, .ref h1])), (q59, .inl (cA60, 6000, .inr (.inl (fun _ => 0))))] H := hP
  have hD : va_D A [(h0, .inr (15, [.int 0, .int 0, .ref q3, .ref q7, .ref q11, .ref q15, .ref q19, .ref q23, .ref q27, .ref q31, .ref q35, .ref q39, .ref q43, .ref q47, .ref q51, .ref q55, .null, .int 0, .null, .ref h1])), (q59, .inl (cA60, 6000, .inr (.inl (fun _ => 0))))] := hD
  have hK : va_K (dC, dI) vwCl [(cA60, .long)] s := hK
  refine W.widen (k := 15) (n := 12560) (by decide) (by decide) ?_
  refine va_putF (D := (dC, dI)) (ci := 15) (v := .ref q59) (ty := .array .long) (C := RX15) (T := TX15) (N := 20) hx hb hts wh_X15_init_X15 tyX15 tyX15_ok nmX15 hown hK hP hD hS 0 rfl rfl 16 (by decide) (hts (.fieldLink RX15 59 "StreamHouseModel$Job" "arguments" "[J") (wm_X15_init 20 rfl)) (fun _ h9 => h9) rfl hin0 rfl (by decide +kernel) rfl rfl (Nat.le_of_ble_eq_true rfl) dX15_init_131 (fun H locs hP hD hS => ?_)
  have hP : va_P (dC, dI) vwCl [(h0, .inr (15, [.int 0, .int 0, .ref q3, .ref q7, .ref q11, .ref q15, .ref q19, .ref q23, .ref q27, .ref q31, .ref q35, .ref q39, .ref q43, .ref q47, .ref q51, .ref q55, .ref q59, .int 0, .null, .ref h1])), (q59, .inl (cA60, 6000, .inr (.inl (fun _ => 0))))] H := hP
  have hD : va_D A [(h0, .inr (15, [.int 0, .int 0, .ref q3, .ref q7, .ref q11, .ref q15, .ref q19, .ref q23, .ref q27, .ref q31, .ref q35, .ref q39, .ref q43, .ref q47, .ref q51, .ref q55, .ref q59, .int 0, .null, .ref h1])), (q59, .inl (cA60, 6000, .inr (.inl (fun _ => 0))))] := hD
  have hP := hP.sub (ws' := [(h0, .inr (15, [.int 0, .int 0, .ref q3, .ref q7, .ref q11, .ref q15, .ref q19, .ref q23, .ref q27, .ref q31, .ref q35, .ref q39, .ref q43, .ref q47, .ref q51, .ref q55, .ref q59, .int 0, .null, .ref h1]))]) [0] rfl
  have hD := hD.sub (ws' := [(h0, .inr (15, [.int 0, .int 0, .ref q3, .ref q7, .ref q11, .ref q15, .ref q19, .ref q23, .ref q27, .ref q31, .ref q35, .ref q39, .ref q43, .ref q47, .ref q51, .ref q55, .ref q59, .int 0, .null, .ref h1]))]) [0] (by decide) rfl
  have hK := hK.sub (tys' := []) [] rfl
  refine lv_aload_n hx hb dX15_init_134 rfl (lv_at hl 0 rfl) ?_
  refine lv_iconst (v := 4) hx hb dX15_init_135 (by decide) ?_
  have h_61 : 16 ≤ 16 := by decide
  have h_62 : 12564 ≤ 12564 := by decide
  refine va_newa (atype := .int) (ty := .int) (n := 4) (N' := 4) (a0 := (4, .inl (fun _ => 0))) hx hb (hts (.arrayClass .int) (wm_X15_init 4 rfl)) rfl hK hP hD hS hA (fun cA => vp_cell_i cA 4 (fun _ => 0)) (by decide) (by decide) (Nat.le_of_ble_eq_true rfl) h_61 h_62 dX15_init_136 (fun q63 cA64 H hK hP hD hS => ?_)
  have hP : va_P (dC, dI) vwCl [(h0, .inr (15, [.int 0, .int 0, .ref q3, .ref q7, .ref q11, .ref q15, .ref q19, .ref q23, .ref q27, .ref q31, .ref q35, .ref q39, .ref q43, .ref q47, .ref q51, .ref q55, .ref q59, .int 0, .null, .ref h1])), (q63, .inl (cA64, 4, .inl (fun _ => 0)))] H := hP
  have hD : va_D A [(h0, .inr (15, [.int 0, .int 0, .ref q3, .ref q7, .ref q11, .ref q15, .ref q19, .ref q23, .ref q27, .ref q31, .ref q35, .ref q39, .ref q43, .ref q47, .ref q51, .ref q55, .ref q59, .int 0, .null, .ref h1])), (q63, .inl (cA64, 4, .inl (fun _ => 0)))] := hD
  have hK : va_K (dC, dI) vwCl [(cA64, .int)] s := hK
  refine W.widen (k := 16) (n := 12564) (by decide) (by decide) ?_
  refine va_putF (D := (dC, dI)) (ci := 15) (v := .ref q63) (ty := .array .int) (C := RX15) (T := TX15) (N := 20) hx hb hts wh_X15_init_X15 tyX15 tyX15_ok nmX15 hown hK hP hD hS 0 rfl rfl 18 (by decide) (hts (.fieldLink RX15 62 "StreamHouseModel$Job" "sourceOf" "[I") (wm_X15_init 21 rfl)) (fun _ h9 => h9) rfl hin0 rfl (by decide +kernel) rfl rfl (Nat.le_of_ble_eq_true rfl) dX15_init_138 (fun H locs hP hD hS => ?_)
  have hP : va_P (dC, dI) vwCl [(h0, .inr (15, [.int 0, .int 0, .ref q3, .ref q7, .ref q11, .ref q15, .ref q19, .ref q23, .ref q27, .ref q31, .ref q35, .ref q39, .ref q43, .ref q47, .ref q51, .ref q55, .ref q59, .int 0, .ref q63, .ref h1])), (q63, .inl (cA64, 4, .inl (fun _ => 0)))] H := hP
  have hD : va_D A [(h0, .inr (15, [.int 0, .int 0, .ref q3, .ref q7, .ref q11, .ref q15, .ref q19, .ref q23, .ref q27, .ref q31, .ref q35, .ref q39, .ref q43, .ref q47, .ref q51, .ref q55, .ref q59, .int 0, .ref q63, .ref h1])), (q63, .inl (cA64, 4, .inl (fun _ => 0)))] := hD
  have hP9 := hP.sub (ws' := [(h0, .inr (15, [.int 0, .int 0, .ref q3, .ref q7, .ref q11, .ref q15, .ref q19, .ref q23, .ref q27, .ref q31, .ref q35, .ref q39, .ref q43, .ref q47, .ref q51, .ref q55, .ref q59, .int 0, .ref q63, .ref h1])), (q63, .inl (cA64, 4, .inl (fun _ => 0)))]) [0, 1] rfl
  have hD9 := hD.sub (ws' := [(h0, .inr (15, [.int 0, .int 0, .ref q3, .ref q7, .ref q11, .ref q15, .ref q19, .ref q23, .ref q27, .ref q31, .ref q35, .ref q39, .ref q43, .ref q47, .ref q51, .ref q55, .ref q59, .int 0, .ref q63, .ref h1])), (q63, .inl (cA64, 4, .inl (fun _ => 0)))]) [0, 1] (by decide) rfl
  have hK9 := hK.sub (tys' := [(cA64, .int)]) [0] rfl
  exact W.vret hx hb hr (fun t ht hW => ⟨⟨(q3, q7, q11, q15, q19, q23, q27, q31, q35, q39, q43, q47, q51, q55, q59, q63, cA64), rfl, trivial, by rw [ht]; exact hP9, va_K.moved hW.alike hK9, hD9⟩, hS.F ht⟩) hS.2.2 dX15_init_141


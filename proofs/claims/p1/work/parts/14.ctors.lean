abbrev at_X7_init (dC : Nat → ClassId) (dI : Nat → Nat → Nat) (A : Nat → Prop) (h0 h1 : Nat) (u : Nat × Nat × Nat × Nat) (t : State) : Prop := match u with
  | (q39, q3, ra13, q33) => va_P (dC, dI) vwCl [(h0, .inr (7, [.ref h1, .ref q39, .ref q3, .ref ra13, .ref q33, .null, .int 0]))] t.heap ∧ va_K (dC, dI) vwCl [] t ∧ va_D A [(h0, .inr (7, [.ref h1, .ref q39, .ref q3, .ref ra13, .ref q33, .null, .int 0]))]
theorem dX7_init_0 : decode cX7_init 0 = .ok (.aload_n 0, 1) := by decide +kernel
theorem dX7_init_1 : decode cX7_init 1 = .ok (.invokespecial 3, 3) := by decide +kernel
theorem dX7_init_4 : decode cX7_init 4 = .ok (.aload_n 0, 1) := by decide +kernel
theorem dX7_init_5 : decode cX7_init 5 = .ok (.new 9, 3) := by decide +kernel
theorem dX7_init_8 : decode cX7_init 8 = .ok (.dup, 1) := by decide +kernel
theorem dX7_init_9 : decode cX7_init 9 = .ok (.invokespecial 11, 3) := by decide +kernel
theorem dX7_init_12 : decode cX7_init 12 = .ok (.putfield 12, 3) := by decide +kernel
theorem dX7_init_15 : decode cX7_init 15 = .ok (.aload_n 0, 1) := by decide +kernel
theorem dX7_init_16 : decode cX7_init 16 = .ok (.bipush 16, 2) := by decide +kernel
theorem dX7_init_18 : decode cX7_init 18 = .ok (.invokestatic 18, 3) := by decide +kernel
theorem dX7_init_21 : decode cX7_init 21 = .ok (.putfield 22, 3) := by decide +kernel
theorem dX7_init_24 : decode cX7_init 24 = .ok (.aload_n 0, 1) := by decide +kernel
theorem dX7_init_25 : decode cX7_init 25 = .ok (.new 26, 3) := by decide +kernel
theorem dX7_init_28 : decode cX7_init 28 = .ok (.dup, 1) := by decide +kernel
theorem dX7_init_29 : decode cX7_init 29 = .ok (.invokespecial 28, 3) := by decide +kernel
theorem dX7_init_32 : decode cX7_init 32 = .ok (.putfield 29, 3) := by decide +kernel
theorem dX7_init_35 : decode cX7_init 35 = .ok (.aload_n 0, 1) := by decide +kernel
theorem dX7_init_36 : decode cX7_init 36 = .ok (.aload_n 1, 1) := by decide +kernel
theorem dX7_init_37 : decode cX7_init 37 = .ok (.putfield 33, 3) := by decide +kernel
theorem dX7_init_40 : decode cX7_init 40 = .ok (.aload_n 0, 1) := by decide +kernel
theorem dX7_init_41 : decode cX7_init 41 = .ok (.new 37, 3) := by decide +kernel
theorem dX7_init_44 : decode cX7_init 44 = .ok (.dup, 1) := by decide +kernel
theorem dX7_init_45 : decode cX7_init 45 = .ok (.aload_n 1, 1) := by decide +kernel
theorem dX7_init_46 : decode cX7_init 46 = .ok (.sipush 4001, 3) := by decide +kernel
theorem dX7_init_49 : decode cX7_init 49 = .ok (.invokespecial 39, 3) := by decide +kernel
theorem dX7_init_52 : decode cX7_init 52 = .ok (.putfield 42, 3) := by decide +kernel
theorem dX7_init_55 : decode cX7_init 55 = .ok (.return_, 1) := by decide +kernel
def ww_X7_init : List Cond := [.methodLink RX7 3 objectInit, .instanceMethod objectInit, .code objectInit ⟨#[0xb1]⟩ 1 none, .classLink RX7 9 RX10, .instantiable RX10 16, .initialized RX10, .instanceMethod yX10_init, .fieldLink RX7 12 "StreamHouse$Pass" "state" "LStreamHouse$Task;", .initialized RX12, .static yX12_newChains, .fieldLink RX7 22 "StreamHouse$Pass" "rows" "[LStreamHouse$Chain;", .classLink RX7 26 RX1, .instantiable RX1 3, .initialized RX1, .instanceMethod yX1_init, .fieldLink RX7 29 "StreamHouse$Pass" "sorted" "LStreamHouse$Chain;", .fieldLink RX7 33 "StreamHouse$Pass" "pool" "LStreamHouse$Pool;", .classLink RX7 37 RX11, .instantiable RX11 6, .initialized RX11, .methodLink RX7 39 yX11_init, .instanceMethod yX11_init, .fieldLink RX7 42 "StreamHouse$Pass" "works" "LStreamHouse$Works;"]
def wv_X7_init : List Cond := .code yX7_init cX7_init 2 none :: (ww_X7_init ++ (u_ws RX10 TX10 16 ++ (wv_X10_init ++ (u_ws RX7 TX7 7 ++ (wv_X12_newChains ++ (u_ws RX1 TX1 3 ++ (wv_X1_init ++ (u_ws RX11 TX11 6 ++ (wv_X11_init ++ [])))))))))
theorem wm_X7_init {w : Cond} (i : Nat) (h : ww_X7_init[i]? = some w) : w ∈ wv_X7_init := List.mem_cons_of_mem _ (List.mem_append_left _ (List.mem_of_getElem? h))
theorem gw_X7_init : wv_X7_init.all goodWord = true := by decide +kernel
theorem wh_X7_init_X10 : ∀ w ∈ u_ws RX10 TX10 16, w ∈ wv_X7_init := fun w h => List.mem_cons_of_mem _ (List.mem_append_right _ (List.mem_append_left _ h))
theorem wg_X7_init_X10_init : GoodIn wv_X7_init wv_X10_init := goodIn_sub (fun w h => List.mem_cons_of_mem _ (List.mem_append_right _ (List.mem_append_right _ (List.mem_append_left _ h)))) gw_X10_init
theorem wh_X7_init_X7 : ∀ w ∈ u_ws RX7 TX7 7, w ∈ wv_X7_init := fun w h => List.mem_cons_of_mem _ (List.mem_append_right _ (List.mem_append_right _ (List.mem_append_right _ (List.mem_append_left _ h))))
theorem wg_X7_init_X12_newChains : GoodIn wv_X7_init wv_X12_newChains := goodIn_sub (fun w h => List.mem_cons_of_mem _ (List.mem_append_right _ (List.mem_append_right _ (List.mem_append_right _ (List.mem_append_right _ (List.mem_append_left _ h)))))) gw_X12_newChains
theorem wh_X7_init_X1 : ∀ w ∈ u_ws RX1 TX1 3, w ∈ wv_X7_init := fun w h => List.mem_cons_of_mem _ (List.mem_append_right _ (List.mem_append_right _ (List.mem_append_right _ (List.mem_append_right _ (List.mem_append_right _ (List.mem_append_left _ h))))))
theorem wg_X7_init_X1_init : GoodIn wv_X7_init wv_X1_init := goodIn_sub (fun w h => List.mem_cons_of_mem _ (List.mem_append_right _ (List.mem_append_right _ (List.mem_append_right _ (List.mem_append_right _ (List.mem_append_right _ (List.mem_append_right _ (List.mem_append_left _ h)))))))) gw_X1_init
theorem wh_X7_init_X11 : ∀ w ∈ u_ws RX11 TX11 6, w ∈ wv_X7_init := fun w h => List.mem_cons_of_mem _ (List.mem_append_right _ (List.mem_append_right _ (List.mem_append_right _ (List.mem_append_right _ (List.mem_append_right _ (List.mem_append_right _ (List.mem_append_right _ (List.mem_append_left _ h))))))))
theorem wg_X7_init_X11_init : GoodIn wv_X7_init wv_X11_init := goodIn_sub (fun w h => List.mem_cons_of_mem _ (List.mem_append_right _ (List.mem_append_right _ (List.mem_append_right _ (List.mem_append_right _ (List.mem_append_right _ (List.mem_append_right _ (List.mem_append_right _ (List.mem_append_right _ (List.mem_append_left _ h)))))))))) gw_X11_init
set_option maxHeartbeats 4000000 in
set_option maxRecDepth 100000 in
/-- Pass(pool) -/
theorem c_X7_init (l : Launch) (dC : Nat → ClassId) (dI : Nat → Nat → Nat) (h0 h1 : Nat) (sz : Nat) : Met l yX7_init wv_X7_init ({ frames := 3, cells := 25, slots := 105, locals := 54 }) (va_Pc [.ref h0, .ref h1] (fun U => U.heap.size = sz ∧ va_P (dC, dI) vwCl [(h0, .inr (7, [.null, .null, .null, .null, .null, .null, .int 0]))] U.heap ∧ va_K (dC, dI) vwCl [] U ∧ va_D (fun _ => True) [(h0, .inr (7, [.null, .null, .null, .null, .null, .null, .int 0]))] ∧ va_AO RX1 U ∧ va_Nw (.methodLinkNest RX7 11 yX10_init RX12) U ∧ va_Nw (.methodLinkNest RX7 18 yX12_newChains RX12) U ∧ va_Nw (.methodLinkNest RX7 28 yX1_init RX12) U ∧ va_Nw (.methodLinkNest RX12 272 yX1_init RX12) U ∧ va_Nw (.methodLinkNest RX11 11 yX1_init RX12) U ∧ va_Nw (.methodLinkNest RX10 11 yX1_init RX12) U)) (va_Qv (fun _ : Nat × Nat × Nat × Nat => True) (at_X7_init dC dI (va_A [(h0, .inr (7, [.null, .null, .null, .null, .null, .null, .int 0]))] sz) h0 h1) (va_A [(h0, .inr (7, [.null, .null, .null, .null, .null, .null, .int 0]))] sz)) 25 105 (va_A [(h0, .inr (7, [.null, .null, .null, .null, .null, .null, .int 0]))] sz) := by
  refine Met.ofW (cc := cX7_init) (maxL := 2) (ret := none) (by decide) rfl ?_
  intro p e s m args below meth c s₁ B hml hv
  obtain ⟨rfl, hsz, hP, hK, hD0, fA1, fN_X7_11, fN_X7_18, fN_X7_28, fN_X12_272, fN_X11_11, fN_X10_11⟩ := hv
  have hx := B.exec
  have hb := B.bytes
  have hr := B.returns
  have hts := atoms_spec (ws := wv_X7_init) B.pre
  have hown : s.vm.findClass RX7 = some m.cls := findClass_of_methodNamed B.named
  have hlocks := B.notSynchronized
  have hin0 : meth.name = "<init>" := (name_of_methodNamed B.named B.method).1
  subst hsz
  have hD := hD0.self (sz := s.heap.size)
  generalize hAe : va_A [(h0, .inr (7, [.null, .null, .null, .null, .null, .null, .int 0]))] s.heap.size = A at hD ⊢
  have hA : ∀ q : Nat, s.heap.size ≤ q → A q := fun q h => by rw [← hAe]; exact Or.inr h
  have hS : va_S A s.heap s.heap [] := va_S.rf
  have hP : va_P (dC, dI) vwCl [(h0, .inr (7, [.null, .null, .null, .null, .null, .null, .int 0]))] s.heap := hP
  have hl := lv_entry ([.ref h0, .ref h1]) (n := 2) (Nat.le_of_ble_eq_true rfl)
  rw [lg_entry_eq]
  generalize (lg_sl ([.ref h0, .ref h1]) ++ List.replicate (2 - (lg_sl ([.ref h0, .ref h1])).length) Slot.unset).toArray = ls at hl ⊢
  have hl : lv_has ls 2 [(0, .ref h0), (1, .ref h1)] := hl
  refine lv_aload_n hx hb dX7_init_0 rfl (lv_at hl 0 rfl) ?_
  refine W.objInit hx hb hown (hts (.methodLink RX7 3 objectInit) (wm_X7_init 0 rfl)) (hts (.instanceMethod objectInit) (wm_X7_init 1 rfl)) (hts (.code objectInit ⟨#[0xb1]⟩ 1 none) (wm_X7_init 2 rfl)) rfl (by rw [hml]; exact hl.1) rfl dX7_init_1 (Nat.le_of_ble_eq_true rfl) (Nat.le_of_ble_eq_true rfl) ?_
  refine W.eq (g2 := F0 m 4 ls []) rfl ?_
  refine lv_aload_n hx hb dX7_init_4 rfl (lv_at hl 0 rfl) ?_
  have h_1 : 1 ≤ 25 := by decide
  have h_2 : 16 ≤ 105 := by decide
  refine va_new (ci := 10) (fs := [.int 0, .int 0, .null, .null, .null, .int 0, .int 0, .long 0, .int 0, .int 0, .int 0, .int 0, .int 0, .int 0, .int 0, .int 0]) (C := RX10) (T := TX10) (N := 16) hx hb hts wh_X7_init_X10 tyX10 tyX10_ok hown (hts (.classLink RX7 9 RX10) (wm_X7_init 3 rfl)) (hts (.instantiable RX10 16) (wm_X7_init 4 rfl)) (hts (.initialized RX10) (wm_X7_init 5 rfl)) hK hP hD hS hA rfl (by decide +kernel) h_1 h_2 dX7_init_5 (fun q3 H hP hD hS => ?_)
  have hP : va_P (dC, dI) vwCl [(h0, .inr (7, [.null, .null, .null, .null, .null, .null, .int 0])), (q3, .inr (10, [.int 0, .int 0, .null, .null, .null, .int 0, .int 0, .long 0, .int 0, .int 0, .int 0, .int 0, .int 0, .int 0, .int 0, .int 0]))] H := hP
  have hD : va_D A [(h0, .inr (7, [.null, .null, .null, .null, .null, .null, .int 0])), (q3, .inr (10, [.int 0, .int 0, .null, .null, .null, .int 0, .int 0, .long 0, .int 0, .int 0, .int 0, .int 0, .int 0, .int 0, .int 0, .int 0]))] := hD
  refine W.widen (k := 1) (n := 16) (by decide) (by decide) ?_
  refine lv_dup hx hb dX7_init_8 rfl ?_
  have hPc := hP.sub (ws' := [(q3, .inr (10, [.int 0, .int 0, .null, .null, .null, .int 0, .int 0, .long 0, .int 0, .int 0, .int 0, .int 0, .int 0, .int 0, .int 0, .int 0]))]) [1] rfl
  have hDc := hD.sub (ws' := [(q3, .inr (10, [.int 0, .int 0, .null, .null, .null, .int 0, .int 0, .long 0, .int 0, .int 0, .int 0, .int 0, .int 0, .int 0, .int 0, .int 0]))]) [1] (by decide) rfl
  have hKc := hK.sub (tys' := []) [] rfl
  have hFc := va_free (wc := [(q3, .inr (10, [.int 0, .int 0, .null, .null, .null, .int 0, .int 0, .long 0, .int 0, .int 0, .int 0, .int 0, .int 0, .int 0, .int 0, .int 0]))]) hD hS hA [1] rfl
  have h_4 : 4 ≤ 25 := by decide
  have h_5 : 25 ≤ 105 := by decide
  refine va_callv (va_runIN (As := []) (rest := [.ref q3, .ref h0]) ⟨hx, hb, hml, hown, hts⟩ (c_X10_init l dC dI q3 _) ⟨va_cnB 0 hts wg_X7_init_X10_init rfl rfl rfl fN_X7_11 (hts (.initialized RX10) (wm_X7_init 5 rfl)) (by decide +kernel) ⟨Nat.le_of_ble_eq_true rfl, Nat.le_of_ble_eq_true rfl⟩, rfl, (hts (.instanceMethod yX10_init) (wm_X7_init 6 rfl))⟩ ⟨fun a U g mk q => by obtain ⟨q0, q1, qP, qK, qD, qf0⟩ := q; exact ⟨q0, q1, qP, va_K.moved (u := U) (U := U.calling g mk a) (Vm.Alike.refl U.vm) qK, qD, va_Nw.same rfl rfl qf0⟩, fun U hU hW => ⟨rfl, by rw [hU], by rw [hU]; exact hPc, va_K.moved hW.alike hKc, hDc.weaken (fun _ _ _ _ => trivial), va_Nw.warmM hW fN_X10_11⟩⟩ rfl rfl hl.1 rfl (lv_room (Nat.le_of_ble_eq_true rfl)) dX7_init_9 ⟨h_4, h_5⟩) hS (fun q _ h => hFc q h) hFc (fun u6 t H1 locs ht hvm hw hB hz1 hk1 hS => ?_)
  obtain ⟨x7, x8, x9⟩ := u6
  obtain ⟨hP1, hK1, hD1⟩ := hB
  rw [ht] at hP1
  have hK1 := va_K.moved hvm.symm hK1
  obtain ⟨hP, hD⟩ := va_join (wr := [(h0, .inr (7, [.null, .null, .null, .null, .null, .null, .int 0]))]) (w1 := [(q3, .inr (10, [.int 0, .int 0, .ref x7, .ref x8, .ref x9, .int 0, .int 0, .long 0, .int 0, .int 0, .int 0, .int 0, .int 0, .int 0, .int 0, .int 0]))]) hP hD [1] [0] rfl rfl (by decide) (by decide) hk1 hFc hP1 hD1
  have hK := (hK.sub (tys' := []) [] rfl).app hK1
  generalize H1 = H at hP hS ⊢
  have hP : va_P (dC, dI) vwCl [(h0, .inr (7, [.null, .null, .null, .null, .null, .null, .int 0])), (q3, .inr (10, [.int 0, .int 0, .ref x7, .ref x8, .ref x9, .int 0, .int 0, .long 0, .int 0, .int 0, .int 0, .int 0, .int 0, .int 0, .int 0, .int 0]))] H := hP
  have hD : va_D A [(h0, .inr (7, [.null, .null, .null, .null, .null, .null, .int 0])), (q3, .inr (10, [.int 0, .int 0, .ref x7, .ref x8, .ref x9, .int 0, .int 0, .long 0, .int 0, .int 0, .int 0, .int 0, .int 0, .int 0, .int 0, .int 0]))] := hD
  have hK : va_K (dC, dI) vwCl [] s := hK
  refine W.widen (k := 4) (n := 25) (by decide) (by decide) ?_
  refine va_putF (D := (dC, dI)) (ci := 7) (v := .ref q3) (ty := .object "StreamHouse$Task") (C := RX7) (T := TX7) (N := 7) hx hb hts wh_X7_init_X7 tyX7 tyX7_ok nmX7 hown hK hP hD hS 0 rfl rfl 2 (by decide) (hts (.fieldLink RX7 12 "StreamHouse$Pass" "state" "LStreamHouse$Task;") (wm_X7_init 7 rfl)) (fun _ h9 => h9) rfl hin0 rfl (by decide +kernel) rfl rfl (Nat.le_of_ble_eq_true rfl) dX7_init_12 (fun H locs hP hD hS => ?_)
  have hP : va_P (dC, dI) vwCl [(h0, .inr (7, [.null, .null, .ref q3, .null, .null, .null, .int 0])), (q3, .inr (10, [.int 0, .int 0, .ref x7, .ref x8, .ref x9, .int 0, .int 0, .long 0, .int 0, .int 0, .int 0, .int 0, .int 0, .int 0, .int 0, .int 0]))] H := hP
  have hD : va_D A [(h0, .inr (7, [.null, .null, .ref q3, .null, .null, .null, .int 0])), (q3, .inr (10, [.int 0, .int 0, .ref x7, .ref x8, .ref x9, .int 0, .int 0, .long 0, .int 0, .int 0, .int 0, .int 0, .int 0, .int 0, .int 0, .int 0]))] := hD
  refine lv_aload_n hx hb dX7_init_15 rfl (lv_at hl 0 rfl) ?_
  refine lv_bipush (v := 16) hx hb dX7_init_16 (by decide) ?_
  have hPc := hP.sub (ws' := []) [] rfl
  have hDc := hD.sub (ws' := []) [] (by decide) rfl
  have hKc := hK.sub (tys' := []) [] rfl
  have hFc := va_free (wc := []) hD hS hA [] rfl
  have h_10 : 21 ≤ 25 := by decide
  have h_11 : 89 ≤ 105 := by decide
  refine va_callr (va_runSN (As := [.int 16]) (rest := [.ref h0]) ⟨hx, hb, hml, hown, hts⟩ (c_X12_newChains_16 l dC dI  _) ⟨va_cnB 1 hts wg_X7_init_X12_newChains rfl rfl rfl fN_X7_18 (hts (.initialized RX12) (wm_X7_init 8 rfl)) (by decide +kernel) ⟨Nat.le_of_ble_eq_true rfl, Nat.le_of_ble_eq_true rfl⟩, (hts (.static yX12_newChains) (wm_X7_init 9 rfl)), trivial⟩ ⟨fun a U g mk q => by obtain ⟨q0, q1, qP, qK, qD, qf0, qf1⟩ := q; exact ⟨q0, q1, qP, va_K.moved (u := U) (U := U.calling g mk a) (Vm.Alike.refl U.vm) qK, qD, va_AO.moved (Vm.Alike.refl _) qf0, va_Nw.same rfl rfl qf1⟩, fun U hU hW => ⟨rfl, by rw [hU], by rw [hU]; exact hPc, va_K.moved hW.alike hKc, hDc.weaken (fun _ _ _ _ => trivial), va_AO.moved hW.alike fA1, va_Nw.warmM hW fN_X12_272⟩⟩ rfl rfl hl.1 rfl (lv_room (Nat.le_of_ble_eq_true rfl)) dX7_init_18 ⟨h_10, h_11⟩) hS (fun q _ h => hFc q h) hFc (fun u12 ra13 t H1 locs ht hvm hw hB hz1 hk1 hS => ?_)
  obtain ⟨cA14, x15, x16, x17, x18, x19, x20, x21, x22, x23, x24, x25, x26, x27, x28, x29, x30⟩ := u12
  obtain ⟨hP1, hK1, hD1⟩ := hB
  rw [ht] at hP1
  have hK1 := va_K.moved hvm.symm hK1
  obtain ⟨hP, hD⟩ := va_join (wr := [(h0, .inr (7, [.null, .null, .ref q3, .null, .null, .null, .int 0])), (q3, .inr (10, [.int 0, .int 0, .ref x7, .ref x8, .ref x9, .int 0, .int 0, .long 0, .int 0, .int 0, .int 0, .int 0, .int 0, .int 0, .int 0, .int 0]))]) (w1 := [(ra13, .inl (cA14, 16, .inr (.inr (.inr (.inr (va_up (va_up (va_up (va_up (va_up (va_up (va_up (va_up (va_up (va_up (va_up (va_up (va_up (va_up (va_up (va_up (fun _ => none) 0 (some x15)) 1 (some x16)) 2 (some x17)) 3 (some x18)) 4 (some x19)) 5 (some x20)) 6 (some x21)) 7 (some x22)) 8 (some x23)) 9 (some x24)) 10 (some x25)) 11 (some x26)) 12 (some x27)) 13 (some x28)) 14 (some x29)) 15 (some x30)))))))]) hP hD [] [0, 1] rfl rfl (by decide) (by decide) hk1 hFc hP1 hD1
  have hK := (hK.sub (tys' := []) [] rfl).app hK1
  generalize H1 = H at hP hS ⊢
  have hP : va_P (dC, dI) vwCl [(h0, .inr (7, [.null, .null, .ref q3, .null, .null, .null, .int 0])), (q3, .inr (10, [.int 0, .int 0, .ref x7, .ref x8, .ref x9, .int 0, .int 0, .long 0, .int 0, .int 0, .int 0, .int 0, .int 0, .int 0, .int 0, .int 0])), (ra13, .inl (cA14, 16, .inr (.inr (.inr (.inr (va_up (va_up (va_up (va_up (va_up (va_up (va_up (va_up (va_up (va_up (va_up (va_up (va_up (va_up (va_up (va_up (fun _ => none) 0 (some x15)) 1 (some x16)) 2 (some x17)) 3 (some x18)) 4 (some x19)) 5 (some x20)) 6 (some x21)) 7 (some x22)) 8 (some x23)) 9 (some x24)) 10 (some x25)) 11 (some x26)) 12 (some x27)) 13 (some x28)) 14 (some x29)) 15 (some x30)))))))] H := hP
  have hD : va_D A [(h0, .inr (7, [.null, .null, .ref q3, .null, .null, .null, .int 0])), (q3, .inr (10, [.int 0, .int 0, .ref x7, .ref x8, .ref x9, .int 0, .int 0, .long 0, .int 0, .int 0, .int 0, .int 0, .int 0, .int 0, .int 0, .int 0])), (ra13, .inl (cA14, 16, .inr (.inr (.inr (.inr (va_up (va_up (va_up (va_up (va_up (va_up (va_up (va_up (va_up (va_up (va_up (va_up (va_up (va_up (va_up (va_up (fun _ => none) 0 (some x15)) 1 (some x16)) 2 (some x17)) 3 (some x18)) 4 (some x19)) 5 (some x20)) 6 (some x21)) 7 (some x22)) 8 (some x23)) 9 (some x24)) 10 (some x25)) 11 (some x26)) 12 (some x27)) 13 (some x28)) 14 (some x29)) 15 (some x30)))))))] := hD
  have hK : va_K (dC, dI) vwCl [(cA14, .object RX1)] s := hK
  refine W.widen (k := 21) (n := 89) (by decide) (by decide) ?_
  refine va_putF (D := (dC, dI)) (ci := 7) (v := .ref ra13) (ty := .array (.object "StreamHouse$Chain")) (C := RX7) (T := TX7) (N := 7) hx hb hts wh_X7_init_X7 tyX7 tyX7_ok nmX7 hown hK hP hD hS 0 rfl rfl 3 (by decide) (hts (.fieldLink RX7 22 "StreamHouse$Pass" "rows" "[LStreamHouse$Chain;") (wm_X7_init 10 rfl)) (fun _ h9 => h9) rfl hin0 rfl (by decide +kernel) rfl rfl (Nat.le_of_ble_eq_true rfl) dX7_init_21 (fun H locs hP hD hS => ?_)
  have hP : va_P (dC, dI) vwCl [(h0, .inr (7, [.null, .null, .ref q3, .ref ra13, .null, .null, .int 0])), (q3, .inr (10, [.int 0, .int 0, .ref x7, .ref x8, .ref x9, .int 0, .int 0, .long 0, .int 0, .int 0, .int 0, .int 0, .int 0, .int 0, .int 0, .int 0])), (ra13, .inl (cA14, 16, .inr (.inr (.inr (.inr (va_up (va_up (va_up (va_up (va_up (va_up (va_up (va_up (va_up (va_up (va_up (va_up (va_up (va_up (va_up (va_up (fun _ => none) 0 (some x15)) 1 (some x16)) 2 (some x17)) 3 (some x18)) 4 (some x19)) 5 (some x20)) 6 (some x21)) 7 (some x22)) 8 (some x23)) 9 (some x24)) 10 (some x25)) 11 (some x26)) 12 (some x27)) 13 (some x28)) 14 (some x29)) 15 (some x30)))))))] H := hP
  have hD : va_D A [(h0, .inr (7, [.null, .null, .ref q3, .ref ra13, .null, .null, .int 0])), (q3, .inr (10, [.int 0, .int 0, .ref x7, .ref x8, .ref x9, .int 0, .int 0, .long 0, .int 0, .int 0, .int 0, .int 0, .int 0, .int 0, .int 0, .int 0])), (ra13, .inl (cA14, 16, .inr (.inr (.inr (.inr (va_up (va_up (va_up (va_up (va_up (va_up (va_up (va_up (va_up (va_up (va_up (va_up (va_up (va_up (va_up (va_up (fun _ => none) 0 (some x15)) 1 (some x16)) 2 (some x17)) 3 (some x18)) 4 (some x19)) 5 (some x20)) 6 (some x21)) 7 (some x22)) 8 (some x23)) 9 (some x24)) 10 (some x25)) 11 (some x26)) 12 (some x27)) 13 (some x28)) 14 (some x29)) 15 (some x30)))))))] := hD
  refine lv_aload_n hx hb dX7_init_24 rfl (lv_at hl 0 rfl) ?_
  have h_31 : 22 ≤ 25 := by decide
  have h_32 : 92 ≤ 105 := by decide
  refine va_new (ci := 1) (fs := [.null, .null, .int 0]) (C := RX1) (T := TX1) (N := 3) hx hb hts wh_X7_init_X1 tyX1 tyX1_ok hown (hts (.classLink RX7 26 RX1) (wm_X7_init 11 rfl)) (hts (.instantiable RX1 3) (wm_X7_init 12 rfl)) (hts (.initialized RX1) (wm_X7_init 13 rfl)) hK hP hD hS hA rfl (by decide +kernel) h_31 h_32 dX7_init_25 (fun q33 H hP hD hS => ?_)
  have hP : va_P (dC, dI) vwCl [(h0, .inr (7, [.null, .null, .ref q3, .ref ra13, .null, .null, .int 0])), (q3, .inr (10, [.int 0, .int 0, .ref x7, .ref x8, .ref x9, .int 0, .int 0, .long 0, .int 0, .int 0, .int 0, .int 0, .int 0, .int 0, .int 0, .int 0])), (ra13, .inl (cA14, 16, .inr (.inr (.inr (.inr (va_up (va_up (va_up (va_up (va_up (va_up (va_up (va_up (va_up (va_up (va_up (va_up (va_up (va_up (va_up (va_up (fun _ => none) 0 (some x15)) 1 (some x16)) 2 (some x17)) 3 (some x18)) 4 (some x19)) 5 (some x20)) 6 (some x21)) 7 (some x22)) 8 (some x23)) 9 (some x24)) 10 (some x25)) 11 (some x26)) 12 (some x27)) 13 (some x28)) 14 (some x29)) 15 (some x30))))))), (q33, .inr (1, [.null, .null, .int 0]))] H := hP
  have hD : va_D A [(h0, .inr (7, [.null, .null, .ref q3, .ref ra13, .null, .null, .int 0])), (q3, .inr (10, [.int 0, .int 0, .ref x7, .ref x8, .ref x9, .int 0, .int 0, .long 0, .int 0, .int 0, .int 0, .int 0, .int 0, .int 0, .int 0, .int 0])), (ra13, .inl (cA14, 16, .inr (.inr (.inr (.inr (va_up (va_up (va_up (va_up (va_up (va_up (va_up (va_up (va_up (va_up (va_up (va_up (va_up (va_up (va_up (va_up (fun _ => none) 0 (some x15)) 1 (some x16)) 2 (some x17)) 3 (some x18)) 4 (some x19)) 5 (some x20)) 6 (some x21)) 7 (some x22)) 8 (some x23)) 9 (some x24)) 10 (some x25)) 11 (some x26)) 12 (some x27)) 13 (some x28)) 14 (some x29)) 15 (some x30))))))), (q33, .inr (1, [.null, .null, .int 0]))] := hD
  refine W.widen (k := 22) (n := 92) (by decide) (by decide) ?_
  refine lv_dup hx hb dX7_init_28 rfl ?_
  have hPc := hP.sub (ws' := [(q33, .inr (1, [.null, .null, .int 0]))]) [3] rfl
  have hDc := hD.sub (ws' := [(q33, .inr (1, [.null, .null, .int 0]))]) [3] (by decide) rfl
  have hKc := hK.sub (tys' := []) [] rfl
  have hFc := va_free (wc := [(q33, .inr (1, [.null, .null, .int 0]))]) hD hS hA [3] rfl
  have h_34 : 22 ≤ 25 := by decide
  have h_35 : 92 ≤ 105 := by decide
  refine va_callv (va_runIN (As := []) (rest := [.ref q33, .ref h0]) ⟨hx, hb, hml, hown, hts⟩ (c_X1_init l dC dI q33 _) ⟨va_cnB 0 hts wg_X7_init_X1_init rfl rfl rfl fN_X7_28 (hts (.initialized RX1) (wm_X7_init 13 rfl)) (by decide +kernel) ⟨Nat.le_of_ble_eq_true rfl, Nat.le_of_ble_eq_true rfl⟩, rfl, (hts (.instanceMethod yX1_init) (wm_X7_init 14 rfl))⟩ ⟨fun a U g mk q => by obtain ⟨q0, q1, qP, qK, qD⟩ := q; exact ⟨q0, q1, qP, va_K.moved (u := U) (U := U.calling g mk a) (Vm.Alike.refl U.vm) qK, qD⟩, fun U hU hW => ⟨rfl, by rw [hU], by rw [hU]; exact hPc, va_K.moved hW.alike hKc, hDc.weaken (fun _ _ _ _ => trivial)⟩⟩ rfl rfl hl.1 rfl (lv_room (Nat.le_of_ble_eq_true rfl)) dX7_init_29 ⟨h_34, h_35⟩) hS (fun q _ h => hFc q h) hFc (fun u36 t H1 locs ht hvm hw hB hz1 hk1 hS => ?_)
  obtain ⟨hP1, hK1, hD1⟩ := hB
  rw [ht] at hP1
  have hK1 := va_K.moved hvm.symm hK1
  obtain ⟨hP, hD⟩ := va_join (wr := [(h0, .inr (7, [.null, .null, .ref q3, .ref ra13, .null, .null, .int 0])), (q3, .inr (10, [.int 0, .int 0, .ref x7, .ref x8, .ref x9, .int 0, .int 0, .long 0, .int 0, .int 0, .int 0, .int 0, .int 0, .int 0, .int 0, .int 0])), (ra13, .inl (cA14, 16, .inr (.inr (.inr (.inr (va_up (va_up (va_up (va_up (va_up (va_up (va_up (va_up (va_up (va_up (va_up (va_up (va_up (va_up (va_up (va_up (fun _ => none) 0 (some x15)) 1 (some x16)) 2 (some x17)) 3 (some x18)) 4 (some x19)) 5 (some x20)) 6 (some x21)) 7 (some x22)) 8 (some x23)) 9 (some x24)) 10 (some x25)) 11 (some x26)) 12 (some x27)) 13 (some x28)) 14 (some x29)) 15 (some x30)))))))]) (w1 := [(q33, .inr (1, [.null, .null, .int 0]))]) hP hD [3] [0, 1, 2] rfl rfl (by decide) (by decide) hk1 hFc hP1 hD1
  have hK := (hK.sub (tys' := [(cA14, .object RX1)]) [0] rfl).app hK1
  generalize H1 = H at hP hS ⊢
  have hP : va_P (dC, dI) vwCl [(h0, .inr (7, [.null, .null, .ref q3, .ref ra13, .null, .null, .int 0])), (q3, .inr (10, [.int 0, .int 0, .ref x7, .ref x8, .ref x9, .int 0, .int 0, .long 0, .int 0, .int 0, .int 0, .int 0, .int 0, .int 0, .int 0, .int 0])), (ra13, .inl (cA14, 16, .inr (.inr (.inr (.inr (va_up (va_up (va_up (va_up (va_up (va_up (va_up (va_up (va_up (va_up (va_up (va_up (va_up (va_up (va_up (va_up (fun _ => none) 0 (some x15)) 1 (some x16)) 2 (some x17)) 3 (some x18)) 4 (some x19)) 5 (some x20)) 6 (some x21)) 7 (some x22)) 8 (some x23)) 9 (some x24)) 10 (some x25)) 11 (some x26)) 12 (some x27)) 13 (some x28)) 14 (some x29)) 15 (some x30))))))), (q33, .inr (1, [.null, .null, .int 0]))] H := hP
  have hD : va_D A [(h0, .inr (7, [.null, .null, .ref q3, .ref ra13, .null, .null, .int 0])), (q3, .inr (10, [.int 0, .int 0, .ref x7, .ref x8, .ref x9, .int 0, .int 0, .long 0, .int 0, .int 0, .int 0, .int 0, .int 0, .int 0, .int 0, .int 0])), (ra13, .inl (cA14, 16, .inr (.inr (.inr (.inr (va_up (va_up (va_up (va_up (va_up (va_up (va_up (va_up (va_up (va_up (va_up (va_up (va_up (va_up (va_up (va_up (fun _ => none) 0 (some x15)) 1 (some x16)) 2 (some x17)) 3 (some x18)) 4 (some x19)) 5 (some x20)) 6 (some x21)) 7 (some x22)) 8 (some x23)) 9 (some x24)) 10 (some x25)) 11 (some x26)) 12 (some x27)) 13 (some x28)) 14 (some x29)) 15 (some x30))))))), (q33, .inr (1, [.null, .null, .int 0]))] := hD
  have hK : va_K (dC, dI) vwCl [(cA14, .object RX1)] s := hK
  refine W.widen (k := 22) (n := 92) (by decide) (by decide) ?_
  refine va_putF (D := (dC, dI)) (ci := 7) (v := .ref q33) (ty := .object "StreamHouse$Chain") (C := RX7) (T := TX7) (N := 7) hx hb hts wh_X7_init_X7 tyX7 tyX7_ok nmX7 hown hK hP hD hS 0 rfl rfl 4 (by decide) (hts (.fieldLink RX7 29 "StreamHouse$Pass" "sorted" "LStreamHouse$Chain;") (wm_X7_init 15 rfl)) (fun _ h9 => h9) rfl hin0 rfl (by decide +kernel) rfl rfl (Nat.le_of_ble_eq_true rfl) dX7_init_32 (fun H locs hP hD hS => ?_)
  have hP : va_P (dC, dI) vwCl [(h0, .inr (7, [.null, .null, .ref q3, .ref ra13, .ref q33, .null, .int 0])), (q3, .inr (10, [.int 0, .int 0, .ref x7, .ref x8, .ref x9, .int 0, .int 0, .long 0, .int 0, .int 0, .int 0, .int 0, .int 0, .int 0, .int 0, .int 0])), (ra13, .inl (cA14, 16, .inr (.inr (.inr (.inr (va_up (va_up (va_up (va_up (va_up (va_up (va_up (va_up (va_up (va_up (va_up (va_up (va_up (va_up (va_up (va_up (fun _ => none) 0 (some x15)) 1 (some x16)) 2 (some x17)) 3 (some x18)) 4 (some x19)) 5 (some x20)) 6 (some x21)) 7 (some x22)) 8 (some x23)) 9 (some x24)) 10 (some x25)) 11 (some x26)) 12 (some x27)) 13 (some x28)) 14 (some x29)) 15 (some x30))))))), (q33, .inr (1, [.null, .null, .int 0]))] H := hP
  have hD : va_D A [(h0, .inr (7, [.null, .null, .ref q3, .ref ra13, .ref q33, .null, .int 0])), (q3, .inr (10, [.int 0, .int 0, .ref x7, .ref x8, .ref x9, .int 0, .int 0, .long 0, .int 0, .int 0, .int 0, .int 0, .int 0, .int 0, .int 0, .int 0])), (ra13, .inl (cA14, 16, .inr (.inr (.inr (.inr (va_up (va_up (va_up (va_up (va_up (va_up (va_up (va_up (va_up (va_up (va_up (va_up (va_up (va_up (va_up (va_up (fun _ => none) 0 (some x15)) 1 (some x16)) 2 (some x17)) 3 (some x18)) 4 (some x19)) 5 (some x20)) 6 (some x21)) 7 (some x22)) 8 (some x23)) 9 (some x24)) 10 (some x25)) 11 (some x26)) 12 (some x27)) 13 (some x28)) 14 (some x29)) 15 (some x30))))))), (q33, .inr (1, [.null, .null, .int 0]))] := hD
  refine lv_aload_n hx hb dX7_init_35 rfl (lv_at hl 0 rfl) ?_
  refine lv_aload_n hx hb dX7_init_36 rfl (lv_at hl 1 rfl) ?_
  refine va_putF (D := (dC, dI)) (ci := 7) (v := .ref h1) (ty := .object "StreamHouse$Pool") (C := RX7) (T := TX7) (N := 7) hx hb hts wh_X7_init_X7 tyX7 tyX7_ok nmX7 hown hK hP hD hS 0 rfl rfl 0 (by decide) (hts (.fieldLink RX7 33 "StreamHouse$Pass" "pool" "LStreamHouse$Pool;") (wm_X7_init 16 rfl)) (fun _ h9 => h9) rfl hin0 rfl (by decide +kernel) rfl rfl (Nat.le_of_ble_eq_true rfl) dX7_init_37 (fun H locs hP hD hS => ?_)
  have hP : va_P (dC, dI) vwCl [(h0, .inr (7, [.ref h1, .null, .ref q3, .ref ra13, .ref q33, .null, .int 0])), (q3, .inr (10, [.int 0, .int 0, .ref x7, .ref x8, .ref x9, .int 0, .int 0, .long 0, .int 0, .int 0, .int 0, .int 0, .int 0, .int 0, .int 0, .int 0])), (ra13, .inl (cA14, 16, .inr (.inr (.inr (.inr (va_up (va_up (va_up (va_up (va_up (va_up (va_up (va_up (va_up (va_up (va_up (va_up (va_up (va_up (va_up (va_up (fun _ => none) 0 (some x15)) 1 (some x16)) 2 (some x17)) 3 (some x18)) 4 (some x19)) 5 (some x20)) 6 (some x21)) 7 (some x22)) 8 (some x23)) 9 (some x24)) 10 (some x25)) 11 (some x26)) 12 (some x27)) 13 (some x28)) 14 (some x29)) 15 (some x30))))))), (q33, .inr (1, [.null, .null, .int 0]))] H := hP
  have hD : va_D A [(h0, .inr (7, [.ref h1, .null, .ref q3, .ref ra13, .ref q33, .null, .int 0])), (q3, .inr (10, [.int 0, .int 0, .ref x7, .ref x8, .ref x9, .int 0, .int 0, .long 0, .int 0, .int 0, .int 0, .int 0, .int 0, .int 0, .int 0, .int 0])), (ra13, .inl (cA14, 16, .inr (.inr (.inr (.inr (va_up (va_up (va_up (va_up (va_up (va_up (va_up (va_up (va_up (va_up (va_up (va_up (va_up (va_up (va_up (va_up (fun _ => none) 0 (some x15)) 1 (some x16)) 2 (some x17)) 3 (some x18)) 4 (some x19)) 5 (some x20)) 6 (some x21)) 7 (some x22)) 8 (some x23)) 9 (some x24)) 10 (some x25)) 11 (some x26)) 12 (some x27)) 13 (some x28)) 14 (some x29)) 15 (some x30))))))), (q33, .inr (1, [.null, .null, .int 0]))] := hD
  refine lv_aload_n hx hb dX7_init_40 rfl (lv_at hl 0 rfl) ?_
  have h_37 : 23 ≤ 25 := by decide
  have h_38 : 98 ≤ 105 := by decide
  refine va_new (ci := 11) (fs := [.null, .int 0, .null, .null, .int 0, .null]) (C := RX11) (T := TX11) (N := 6) hx hb hts wh_X7_init_X11 tyX11 tyX11_ok hown (hts (.classLink RX7 37 RX11) (wm_X7_init 17 rfl)) (hts (.instantiable RX11 6) (wm_X7_init 18 rfl)) (hts (.initialized RX11) (wm_X7_init 19 rfl)) hK hP hD hS hA rfl (by decide +kernel) h_37 h_38 dX7_init_41 (fun q39 H hP hD hS => ?_)
  have hP : va_P (dC, dI) vwCl [(h0, .inr (7, [.ref h1, .null, .ref q3, .ref ra13, .ref q33, .null, .int 0])), (q3, .inr (10, [.int 0, .int 0, .ref x7, .ref x8, .ref x9, .int 0, .int 0, .long 0, .int 0, .int 0, .int 0, .int 0, .int 0, .int 0, .int 0, .int 0])), (ra13, .inl (cA14, 16, .inr (.inr (.inr (.inr (va_up (va_up (va_up (va_up (va_up (va_up (va_up (va_up (va_up (va_up (va_up (va_up (va_up (va_up (va_up (va_up (fun _ => none) 0 (some x15)) 1 (some x16)) 2 (some x17)) 3 (some x18)) 4 (some x19)) 5 (some x20)) 6 (some x21)) 7 (some x22)) 8 (some x23)) 9 (some x24)) 10 (some x25)) 11 (some x26)) 12 (some x27)) 13 (some x28)) 14 (some x29)) 15 (some x30))))))), (q33, .inr (1, [.null, .null, .int 0])), (q39, .inr (11, [.null, .int 0, .null, .null, .int 0, .null]))] H := hP
  have hD : va_D A [(h0, .inr (7, [.ref h1, .null, .ref q3, .ref ra13, .ref q33, .null, .int 0])), (q3, .inr (10, [.int 0, .int 0, .ref x7, .ref x8, .ref x9, .int 0, .int 0, .long 0, .int 0, .int 0, .int 0, .int 0, .int 0, .int 0, .int 0, .int 0])), (ra13, .inl (cA14, 16, .inr (.inr (.inr (.inr (va_up (va_up (va_up (va_up (va_up (va_up (va_up (va_up (va_up (va_up (va_up (va_up (va_up (va_up (va_up (va_up (fun _ => none) 0 (some x15)) 1 (some x16)) 2 (some x17)) 3 (some x18)) 4 (some x19)) 5 (some x20)) 6 (some x21)) 7 (some x22)) 8 (some x23)) 9 (some x24)) 10 (some x25)) 11 (some x26)) 12 (some x27)) 13 (some x28)) 14 (some x29)) 15 (some x30))))))), (q33, .inr (1, [.null, .null, .int 0])), (q39, .inr (11, [.null, .int 0, .null, .null, .int 0, .null]))] := hD
  refine W.widen (k := 23) (n := 98) (by decide) (by decide) ?_
  refine lv_dup hx hb dX7_init_44 rfl ?_
  refine lv_aload_n hx hb dX7_init_45 rfl (lv_at hl 1 rfl) ?_
  refine lv_sipush (v := 4001) hx hb dX7_init_46 (by decide) ?_
  have hPc := hP.sub (ws' := [(q39, .inr (11, [.null, .int 0, .null, .null, .int 0, .null]))]) [4] rfl
  have hDc := hD.sub (ws' := [(q39, .inr (11, [.null, .int 0, .null, .null, .int 0, .null]))]) [4] (by decide) rfl
  have hKc := hK.sub (tys' := []) [] rfl
  have hFc := va_free (wc := [(q39, .inr (11, [.null, .int 0, .null, .null, .int 0, .null]))]) hD hS hA [4] rfl
  have h_40 : 25 ≤ 25 := by decide
  have h_41 : 105 ≤ 105 := by decide
  refine va_callv (va_runI (As := [.ref h1, .int 4001]) (rest := [.ref q39, .ref h0]) ⟨hx, hb, hml, hown, hts⟩ (c_X11_init l dC dI q39 h1 4001 _) (cwI 2 hts wg_X7_init_X11_init rfl rfl rfl (hts (.initialized RX11) (wm_X7_init 19 rfl)) (hts (.methodLink RX7 39 yX11_init) (wm_X7_init 20 rfl)) (hts (.instanceMethod yX11_init) (wm_X7_init 21 rfl)) rfl (by decide +kernel) ⟨Nat.le_of_ble_eq_true rfl, Nat.le_of_ble_eq_true rfl⟩) ⟨fun a U g mk q => by obtain ⟨q0, q1, qP, qK, qD, qf0⟩ := q; exact ⟨q0, q1, qP, va_K.moved (u := U) (U := U.calling g mk a) (Vm.Alike.refl U.vm) qK, qD, va_Nw.same rfl rfl qf0⟩, fun U hU hW => ⟨rfl, by rw [hU], by rw [hU]; exact hPc, va_K.moved hW.alike hKc, hDc.weaken (fun _ _ _ _ => trivial), va_Nw.warmM hW fN_X11_11⟩⟩ rfl rfl hl.1 rfl (lv_room (Nat.le_of_ble_eq_true rfl)) dX7_init_49 ⟨h_40, h_41⟩) hS (fun q _ h => hFc q h) hFc (fun u42 t H1 locs ht hvm hw hB hz1 hk1 hS => ?_)
  obtain ⟨x43, x44⟩ := u42
  obtain ⟨hP1, hK1, hD1⟩ := hB
  rw [ht] at hP1
  have hK1 := va_K.moved hvm.symm hK1
  obtain ⟨hP, hD⟩ := va_join (wr := [(h0, .inr (7, [.ref h1, .null, .ref q3, .ref ra13, .ref q33, .null, .int 0])), (q3, .inr (10, [.int 0, .int 0, .ref x7, .ref x8, .ref x9, .int 0, .int 0, .long 0, .int 0, .int 0, .int 0, .int 0, .int 0, .int 0, .int 0, .int 0])), (ra13, .inl (cA14, 16, .inr (.inr (.inr (.inr (va_up (va_up (va_up (va_up (va_up (va_up (va_up (va_up (va_up (va_up (va_up (va_up (va_up (va_up (va_up (va_up (fun _ => none) 0 (some x15)) 1 (some x16)) 2 (some x17)) 3 (some x18)) 4 (some x19)) 5 (some x20)) 6 (some x21)) 7 (some x22)) 8 (some x23)) 9 (some x24)) 10 (some x25)) 11 (some x26)) 12 (some x27)) 13 (some x28)) 14 (some x29)) 15 (some x30))))))), (q33, .inr (1, [.null, .null, .int 0]))]) (w1 := [(q39, .inr (11, [.ref h1, .int 4001, .ref x43, .ref x44, .int 0, .null]))]) hP hD [4] [0, 1, 2, 3] rfl rfl (by decide) (by decide) hk1 hFc hP1 hD1
  have hK := (hK.sub (tys' := [(cA14, .object RX1)]) [0] rfl).app hK1
  generalize H1 = H at hP hS ⊢
  have hP : va_P (dC, dI) vwCl [(h0, .inr (7, [.ref h1, .null, .ref q3, .ref ra13, .ref q33, .null, .int 0])), (q3, .inr (10, [.int 0, .int 0, .ref x7, .ref x8, .ref x9, .int 0, .int 0, .long 0, .int 0, .int 0, .int 0, .int 0, .int 0, .int 0, .int 0, .int 0])), (ra13, .inl (cA14, 16, .inr (.inr (.inr (.inr (va_up (va_up (va_up (va_up (va_up (va_up (va_up (va_up (va_up (va_up (va_up (va_up (va_up (va_up (va_up (va_up (fun _ => none) 0 (some x15)) 1 (some x16)) 2 (some x17)) 3 (some x18)) 4 (some x19)) 5 (some x20)) 6 (some x21)) 7 (some x22)) 8 (some x23)) 9 (some x24)) 10 (some x25)) 11 (some x26)) 12 (some x27)) 13 (some x28)) 14 (some x29)) 15 (some x30))))))), (q33, .inr (1, [.null, .null, .int 0])), (q39, .inr (11, [.ref h1, .int 4001, .ref x43, .ref x44, .int 0, .null]))] H := hP
  have hD : va_D A [(h0, .inr (7, [.ref h1, .null, .ref q3, .ref ra13, .ref q33, .null, .int 0])), (q3, .inr (10, [.int 0, .int 0, .ref x7, .ref x8, .ref x9, .int 0, .int 0, .long 0, .int 0, .int 0, .int 0, .int 0, .int 0, .int 0, .int 0, .int 0])), (ra13, .inl (cA14, 16, .inr (.inr (.inr (.inr (va_up (va_up (va_up (va_up (va_up (va_up (va_up (va_up (va_up (va_up (va_up (va_up (va_up (va_up (va_up (va_up (fun _ => none) 0 (some x15)) 1 (some x16)) 2 (some x17)) 3 (some x18)) 4 (some x19)) 5 (some x20)) 6 (some x21)) 7 (some x22)) 8 (some x23)) 9 (some x24)) 10 (some x25)) 11 (some x26)) 12 (some x27)) 13 (some x28)) 14 (some x29)) 15 (some x30))))))), (q33, .inr (1, [.null, .null, .int 0])), (q39, .inr (11, [.ref h1, .int 4001, .ref x43, .ref x44, .int 0, .null]))] := hD
  have hK : va_K (dC, dI) vwCl [(cA14, .object RX1)] s := hK
  refine W.widen (k := 25) (n := 105) (by decide) (by decide) ?_
  refine va_putF (D := (dC, dI)) (ci := 7) (v := .ref q39) (ty := .object "StreamHouse$Works") (C := RX7) (T := TX7) (N := 7) hx hb hts wh_X7_init_X7 tyX7 tyX7_ok nmX7 hown hK hP hD hS 0 rfl rfl 1 (by decide) (hts (.fieldLink RX7 42 "StreamHouse$Pass" "works" "LStreamHouse$Works;") (wm_X7_init 22 rfl)) (fun _ h9 => h9) rfl hin0 rfl (by decide +kernel) rfl rfl (Nat.le_of_ble_eq_true rfl) dX7_init_52 (fun H locs hP hD hS => ?_)
  have hP : va_P (dC, dI) vwCl [(h0, .inr (7, [.ref h1, .ref q39, .ref q3, .ref ra13, .ref q33, .null, .int 0])), (q3, .inr (10, [.int 0, .int 0, .ref x7, .ref x8, .ref x9, .int 0, .int 0, .long 0, .int 0, .int 0, .int 0, .int 0, .int 0, .int 0, .int 0, .int 0])), (ra13, .inl (cA14, 16, .inr (.inr (.inr (.inr (va_up (va_up (va_up (va_up (va_up (va_up (va_up (va_up (va_up (va_up (va_up (va_up (va_up (va_up (va_up (va_up (fun _ => none) 0 (some x15)) 1 (some x16)) 2 (some x17)) 3 (some x18)) 4 (some x19)) 5 (some x20)) 6 (some x21)) 7 (some x22)) 8 (some x23)) 9 (some x24)) 10 (some x25)) 11 (some x26)) 12 (some x27)) 13 (some x28)) 14 (some x29)) 15 (some x30))))))), (q33, .inr (1, [.null, .null, .int 0])), (q39, .inr (11, [.ref h1, .int 4001, .ref x43, .ref x44, .int 0, .null]))] H := hP
  have hD : va_D A [(h0, .inr (7, [.ref h1, .ref q39, .ref q3, .ref ra13, .ref q33, .null, .int 0])), (q3, .inr (10, [.int 0, .int 0, .ref x7, .ref x8, .ref x9, .int 0, .int 0, .long 0, .int 0, .int 0, .int 0, .int 0, .int 0, .int 0, .int 0, .int 0])), (ra13, .inl (cA14, 16, .inr (.inr (.inr (.inr (va_up (va_up (va_up (va_up (va_up (va_up (va_up (va_up (va_up (va_up (va_up (va_up (va_up (va_up (va_up (va_up (fun _ => none) 0 (some x15)) 1 (some x16)) 2 (some x17)) 3 (some x18)) 4 (some x19)) 5 (some x20)) 6 (some x21)) 7 (some x22)) 8 (some x23)) 9 (some x24)) 10 (some x25)) 11 (some x26)) 12 (some x27)) 13 (some x28)) 14 (some x29)) 15 (some x30))))))), (q33, .inr (1, [.null, .null, .int 0])), (q39, .inr (11, [.ref h1, .int 4001, .ref x43, .ref x44, .int 0, .null]))] := hD
  have hP9 := hP.sub (ws' := [(h0, .inr (7, [.ref h1, .ref q39, .ref q3, .ref ra13, .ref q33, .null, .int 0]))]) [0] rfl
  have hD9 := hD.sub (ws' := [(h0, .inr (7, [.ref h1, .ref q39, .ref q3, .ref ra13, .ref q33, .null, .int 0]))]) [0] (by decide) rfl
  have hK9 := hK.sub (tys' := []) [] rfl
  exact W.vret hx hb hr (fun t ht hW => ⟨⟨(q39, q3, ra13, q33), rfl, trivial, by rw [ht]; exact hP9, va_K.moved hW.alike hK9, hD9⟩, hS.F ht⟩) hS.2.2 dX7_init_55


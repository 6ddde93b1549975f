/-- small rows of mine: the class of an array by its word; a world without a pool; arrays over arrays, moved -/
theorem vy_arr {ty : FieldType} {args : Array Value} {s : State} (h : (Cond.arrayClass ty).before args s = true) : ∃ cy : ClassId, s.vm.findClass (FieldType.array ty).toString = some cy := by
  obtain ⟨c, k, comp, h1, -, -⟩ := Cond.arrayClass_spec h
  exact ⟨c, h1⟩
theorem vy_nil {X : va_W} {f : Nat → va_E} : X ++ va_pl [] f = X := List.append_nil X
theorem vy_AOA {ty : FieldType} {u U : State} (hvm : u.vm.Alike U.vm) (h : va_AOA ty u) : va_AOA ty U := by
  have h1 : (Cond.arrayOver (.array ty)).before #[] (u.setVm U.vm) = true := by
    rw [Cond.arrayOver_setVmC (args := #[]) (s := u) (vm' := U.vm) hvm (.array ty)]; exact h
  have e : (u.setVm U.vm).vm = U.vm := rfl
  unfold va_AOA
  simp only [Cond.before, Cond.holds, Cond.value, e] at h1 ⊢
  exact h1
abbrev at_X12_newChains_4 (dC : Nat → ClassId) (dI : Nat → Nat → Nat) (A : Nat → Prop) (u : ClassId × Nat × Nat × Nat × Nat) (q5 : Nat) (t : State) : Prop := match u with
  | (cA6, q9, q15, q21, q27) => va_P (dC, dI) vwCl [(q5, .inl (cA6, 4, .inr (.inr (.inr (.inr (va_up (va_up (va_up (va_up (fun _ => none) 0 (some q9)) 1 (some q15)) 2 (some q21)) 3 (some q27))))))), (q9, .inr (1, [.null, .null, .int 0])), (q15, .inr (1, [.null, .null, .int 0])), (q21, .inr (1, [.null, .null, .int 0])), (q27, .inr (1, [.null, .null, .int 0]))] t.heap ∧ va_K (dC, dI) vwCl [(cA6, .object RX1)] t ∧ va_D A [(q5, .inl (cA6, 4, .inr (.inr (.inr (.inr (va_up (va_up (va_up (va_up (fun _ => none) 0 (some q9)) 1 (some q15)) 2 (some q21)) 3 (some q27))))))), (q9, .inr (1, [.null, .null, .int 0])), (q15, .inr (1, [.null, .null, .int 0])), (q21, .inr (1, [.null, .null, .int 0])), (q27, .inr (1, [.null, .null, .int 0]))]
theorem dX12_newChains_0 : decode cX12_newChains 0 = .ok (.iconst 0, 1) := by decide +kernel
theorem dX12_newChains_1 : decode cX12_newChains 1 = .ok (.iload_n 0, 1) := by decide +kernel
theorem dX12_newChains_2 : decode cX12_newChains 2 = .ok (.invokestatic 267, 3) := by decide +kernel
theorem dX12_newChains_5 : decode cX12_newChains 5 = .ok (.anewarray 180, 3) := by decide +kernel
theorem dX12_newChains_8 : decode cX12_newChains 8 = .ok (.astore_n 1, 1) := by decide +kernel
theorem dX12_newChains_9 : decode cX12_newChains 9 = .ok (.iconst 0, 1) := by decide +kernel
theorem dX12_newChains_10 : decode cX12_newChains 10 = .ok (.istore_n 2, 1) := by decide +kernel
theorem dX12_newChains_11 : decode cX12_newChains 11 = .ok (.iload_n 2, 1) := by decide +kernel
theorem dX12_newChains_12 : decode cX12_newChains 12 = .ok (.aload_n 1, 1) := by decide +kernel
theorem dX12_newChains_13 : decode cX12_newChains 13 = .ok (.arraylength, 1) := by decide +kernel
theorem dX12_newChains_14 : decode cX12_newChains 14 = .ok (.if_icmp .ge 19, 3) := by decide +kernel
theorem dX12_newChains_17 : decode cX12_newChains 17 = .ok (.aload_n 1, 1) := by decide +kernel
theorem dX12_newChains_18 : decode cX12_newChains 18 = .ok (.iload_n 2, 1) := by decide +kernel
theorem dX12_newChains_19 : decode cX12_newChains 19 = .ok (.new 180, 3) := by decide +kernel
theorem dX12_newChains_22 : decode cX12_newChains 22 = .ok (.dup, 1) := by decide +kernel
theorem dX12_newChains_23 : decode cX12_newChains 23 = .ok (.invokespecial 272, 3) := by decide +kernel
theorem dX12_newChains_26 : decode cX12_newChains 26 = .ok (.aastore, 1) := by decide +kernel
theorem dX12_newChains_27 : decode cX12_newChains 27 = .ok (.iinc 2 1, 3) := by decide +kernel
theorem dX12_newChains_30 : decode cX12_newChains 30 = .ok (.goto (-19), 3) := by decide +kernel
theorem dX12_newChains_33 : decode cX12_newChains 33 = .ok (.aload_n 1, 1) := by decide +kernel
theorem dX12_newChains_34 : decode cX12_newChains 34 = .ok (.areturn, 1) := by decide +kernel
def ww_X12_newChains : List Cond := [.methodLink RX12 267 Lib.Math.max.name, .static Lib.Math.max.name, .initialized "java/lang/Math", .code Lib.Math.max.name Lib.Math.max.code 2 (some .int), .classLink RX12 180 RX1, .instantiable RX1 3, .initialized RX1, .instanceMethod yX1_init]
def wv_X12_newChains : List Cond := .code yX12_newChains cX12_newChains 3 (some (.array (.object "StreamHouse$Chain"))) :: (ww_X12_newChains ++ (u_ws RX1 TX1 3 ++ (wv_X1_init ++ [])))
theorem wm_X12_newChains {w : Cond} (i : Nat) (h : ww_X12_newChains[i]? = some w) : w ∈ wv_X12_newChains := List.mem_cons_of_mem _ (List.mem_append_left _ (List.mem_of_getElem? h))
theorem gw_X12_newChains : wv_X12_newChains.all goodWord = true := by decide +kernel
theorem wh_X12_newChains_X1 : ∀ w ∈ u_ws RX1 TX1 3, w ∈ wv_X12_newChains := fun w h => List.mem_cons_of_mem _ (List.mem_append_right _ (List.mem_append_left _ h))
theorem wg_X12_newChains_X1_init : GoodIn wv_X12_newChains wv_X1_init := goodIn_sub (fun w h => List.mem_cons_of_mem _ (List.mem_append_right _ (List.mem_append_right _ (List.mem_append_left _ h)))) gw_X1_init
set_option maxHeartbeats 4000000 in
set_option maxRecDepth 100000 in
/-- newChains(4) -/
theorem c_X12_newChains_4 (l : Launch) (dC : Nat → ClassId) (dI : Nat → Nat → Nat) (sz : Nat) : Met l yX12_newChains wv_X12_newChains ({ frames := 2, cells := 5, slots := 16, locals := 32 }) (va_Pc [.int 4] (fun U => U.heap.size = sz ∧ va_P (dC, dI) vwCl [] U.heap ∧ va_K (dC, dI) vwCl [] U ∧ va_D (fun _ => True) [] ∧ va_AO RX1 U ∧ va_Nw (.methodLinkNest RX12 272 yX1_init RX12) U)) (va_Qr (fun _ : ClassId × Nat × Nat × Nat × Nat => True) (at_X12_newChains_4 dC dI (va_A [] sz) ) (va_A [] sz)) 5 16 (va_A [] sz) := by
  refine Met.ofW (cc := cX12_newChains) (maxL := 3) (ret := (some (.array (.object "StreamHouse$Chain")))) (by decide) rfl ?_
  intro p e s m args below meth c s₁ B hml hv
  obtain ⟨rfl, hsz, hP, hK, hD0, fA, fN⟩ := hv
  have hx := B.exec
  have hb := B.bytes
  have hr := B.returns
  have hts := atoms_spec (ws := wv_X12_newChains) B.pre
  have hown : s.vm.findClass RX12 = some m.cls := findClass_of_methodNamed B.named
  have hlocks := B.notSynchronized
  subst hsz
  have hD := hD0.self (sz := s.heap.size)
  generalize hAe : va_A [] s.heap.size = A at hD ⊢
  have hA : ∀ q : Nat, s.heap.size ≤ q → A q := fun q h => by rw [← hAe]; exact Or.inr h
  have hS : va_S A s.heap s.heap [] := va_S.rf
  have hP : va_P (dC, dI) vwCl [] s.heap := hP
  have hl := lv_entry ([.int 4]) (n := 3) (Nat.le_of_ble_eq_true rfl)
  rw [lg_entry_eq]
  generalize (lg_sl ([.int 4]) ++ List.replicate (3 - (lg_sl ([.int 4])).length) Slot.unset).toArray = ls at hl ⊢
  have hl : lv_has ls 3 [(0, .int 4)] := hl
  refine lv_iconst (v := 0) hx hb dX12_newChains_0 (by decide) ?_
  refine lv_iload_n hx hb dX12_newChains_1 rfl (lv_at hl 0 rfl) ?_
  have h_1 : 0 ≤ 5 := by decide
  have h_2 : 0 ≤ 16 := by decide
  refine va_mmax hx hb (hml.trans hl.1.symm) hown (hts (.methodLink RX12 267 Lib.Math.max.name) (wm_X12_newChains 0 rfl)) (hts (.static Lib.Math.max.name) (wm_X12_newChains 1 rfl)) (hts (.initialized "java/lang/Math") (wm_X12_newChains 2 rfl)) (hts (.code Lib.Math.max.name Lib.Math.max.code 2 (some .int)) (wm_X12_newChains 3 rfl)) (Nat.le_of_ble_eq_true rfl) (Nat.le_of_ble_eq_true rfl) h_1 h_2 dX12_newChains_2 ?_
  refine W.eq (g2 := F0 m 5 ls [.int 4]) (by rw [if_pos (by decide)]) ?_
  have h_3 : 1 ≤ 5 := by decide
  have h_4 : 4 ≤ 16 := by decide
  refine va_newq (n := 4) (N' := 4) hx hb hown (hts (.classLink RX12 180 RX1) (wm_X12_newChains 4 rfl)) fA hK hP hD hS hA (by decide) (by decide) (Nat.le_of_ble_eq_true rfl) h_3 h_4 dX12_newChains_5 (fun q5 cA6 H hK hP hD hS => ?_)
  have hP : va_P (dC, dI) vwCl [(q5, .inl (cA6, 4, .inr (.inr (.inr (.inr (fun _ => none))))))] H := hP
  have hD : va_D A [(q5, .inl (cA6, 4, .inr (.inr (.inr (.inr (fun _ => none))))))] := hD
  have hK : va_K (dC, dI) vwCl [(cA6, .object RX1)] s := hK
  refine W.widen (k := 1) (n := 4) (by decide) (by decide) ?_
  refine lv_astore_n (lv' := [(1, .ref q5), (0, .int 4)]) hx hb dX12_newChains_8 rfl hl (by decide) rfl (fun ls hl => ?_)
  refine lv_iconst (v := 0) hx hb dX12_newChains_9 (by decide) ?_
  refine lv_istore_n (lv' := [(2, .int 0), (1, .ref q5), (0, .int 4)]) hx hb dX12_newChains_10 rfl hl (by decide) rfl (fun ls hl => ?_)
  refine lv_iload_n hx hb dX12_newChains_11 rfl (lv_at hl 0 rfl) ?_
  refine lv_aload_n hx hb dX12_newChains_12 rfl (lv_at hl 1 rfl) ?_
  refine va_alen (v := 4) hx hb hK hP 0 0 rfl rfl (show Int32.ofNat 4 = 4 by decide) dX12_newChains_13 ?_
  refine lv_icmp_ge (tgt := 33) hx hb dX12_newChains_14 (by decide) (fun h9 => absurd h9 (by decide)) (fun _ => ?_)
  refine lv_aload_n hx hb dX12_newChains_17 rfl (lv_at hl 1 rfl) ?_
  refine lv_iload_n hx hb dX12_newChains_18 rfl (lv_at hl 0 rfl) ?_
  have h_7 : 2 ≤ 5 := by decide
  have h_8 : 7 ≤ 16 := by decide
  refine va_new (ci := 1) (fs := [.null, .null, .int 0]) (C := RX1) (T := TX1) (N := 3) hx hb hts wh_X12_newChains_X1 tyX1 tyX1_ok hown (hts (.classLink RX12 180 RX1) (wm_X12_newChains 4 rfl)) (hts (.instantiable RX1 3) (wm_X12_newChains 5 rfl)) (hts (.initialized RX1) (wm_X12_newChains 6 rfl)) hK hP hD hS hA rfl (by decide +kernel) h_7 h_8 dX12_newChains_19 (fun q9 H hP hD hS => ?_)
  have hP : va_P (dC, dI) vwCl [(q5, .inl (cA6, 4, .inr (.inr (.inr (.inr (fun _ => none)))))), (q9, .inr (1, [.null, .null, .int 0]))] H := hP
  have hD : va_D A [(q5, .inl (cA6, 4, .inr (.inr (.inr (.inr (fun _ => none)))))), (q9, .inr (1, [.null, .null, .int 0]))] := hD
  refine W.widen (k := 2) (n := 7) (by decide) (by decide) ?_
  refine lv_dup hx hb dX12_newChains_22 rfl ?_
  have hPc := hP.sub (ws' := [(q9, .inr (1, [.null, .null, .int 0]))]) [1] rfl
  have hDc := hD.sub (ws' := [(q9, .inr (1, [.null, .null, .int 0]))]) [1] (by decide) rfl
  have hKc := hK.sub (tys' := []) [] rfl
  have hFc := va_free (wc := [(q9, .inr (1, [.null, .null, .int 0]))]) hD hS hA [1] rfl
  have h_10 : 2 ≤ 5 := by decide
  have h_11 : 7 ≤ 16 := by decide
  refine va_callv (va_runIN (As := []) (rest := [.ref q9, .int 0, .ref q5]) ⟨hx, hb, hml, hown, hts⟩ (c_X1_init l dC dI q9 _) ⟨va_cnB 0 hts wg_X12_newChains_X1_init rfl rfl rfl fN (hts (.initialized RX1) (wm_X12_newChains 6 rfl)) (by decide +kernel) ⟨Nat.le_of_ble_eq_true rfl, Nat.le_of_ble_eq_true rfl⟩, rfl, (hts (.instanceMethod yX1_init) (wm_X12_newChains 7 rfl))⟩ ⟨fun a U g mk q => by obtain ⟨q0, q1, qP, qK, qD⟩ := q; exact ⟨q0, q1, qP, va_K.moved (u := U) (U := U.calling g mk a) (Vm.Alike.refl U.vm) qK, qD⟩, fun U hU hW => ⟨rfl, by rw [hU], by rw [hU]; exact hPc, va_K.moved hW.alike hKc, hDc.weaken (fun _ _ _ _ => trivial)⟩⟩ rfl rfl hl.1 rfl (lv_room (Nat.le_of_ble_eq_true rfl)) dX12_newChains_23 ⟨h_10, h_11⟩) hS (fun q _ h => hFc q h) hFc (fun u12 t H1 locs ht hvm hw hB hz1 hk1 hS => ?_)
  obtain ⟨hP1, hK1, hD1⟩ := hB
  rw [ht] at hP1
  have hK1 := va_K.moved hvm.symm hK1
  obtain ⟨hP, hD⟩ := va_join (wr := [(q5, .inl (cA6, 4, .inr (.inr (.inr (.inr (fun _ => none))))))]) (w1 := [(q9, .inr (1, [.null, .null, .int 0]))]) hP hD [1] [0] rfl rfl (by decide) (by decide) hk1 hFc hP1 hD1
  have hK := (hK.sub (tys' := [(cA6, .object RX1)]) [0] rfl).app hK1
  generalize H1 = H at hP hS ⊢
  have hP : va_P (dC, dI) vwCl [(q5, .inl (cA6, 4, .inr (.inr (.inr (.inr (fun _ => none)))))), (q9, .inr (1, [.null, .null, .int 0]))] H := hP
  have hD : va_D A [(q5, .inl (cA6, 4, .inr (.inr (.inr (.inr (fun _ => none)))))), (q9, .inr (1, [.null, .null, .int 0]))] := hD
  have hK : va_K (dC, dI) vwCl [(cA6, .object RX1)] s := hK
  refine W.widen (k := 2) (n := 7) (by decide) (by decide) ?_
  refine va_astq hx hb hK hP hD hS 0 0 1 1 rfl rfl rfl rfl (by unfold vp_in; decide) dX12_newChains_26 (fun H locs hP hD hS => ?_)
  have hP : va_P (dC, dI) vwCl [(q5, .inl (cA6, 4, .inr (.inr (.inr (.inr (va_up (fun _ => none) 0 (some q9))))))), (q9, .inr (1, [.null, .null, .int 0]))] H := hP
  have hD : va_D A [(q5, .inl (cA6, 4, .inr (.inr (.inr (.inr (va_up (fun _ => none) 0 (some q9))))))), (q9, .inr (1, [.null, .null, .int 0]))] := hD
  refine lv_iinc (k := 0) (v := 1) (lv' := [(2, .int 1), (1, .ref q5), (0, .int 4)]) hx hb dX12_newChains_27 hl rfl (by decide) (by decide) rfl (fun ls hl => ?_)
  refine lv_goto (tgt := 11) hx hb dX12_newChains_30 (by decide) ?_
  refine lv_iload_n hx hb dX12_newChains_11 rfl (lv_at hl 0 rfl) ?_
  refine lv_aload_n hx hb dX12_newChains_12 rfl (lv_at hl 1 rfl) ?_
  refine va_alen (v := 4) hx hb hK hP 0 0 rfl rfl (show Int32.ofNat 4 = 4 by decide) dX12_newChains_13 ?_
  refine lv_icmp_ge (tgt := 33) hx hb dX12_newChains_14 (by decide) (fun h9 => absurd h9 (by decide)) (fun _ => ?_)
  refine lv_aload_n hx hb dX12_newChains_17 rfl (lv_at hl 1 rfl) ?_
  refine lv_iload_n hx hb dX12_newChains_18 rfl (lv_at hl 0 rfl) ?_
  have h_13 : 3 ≤ 5 := by decide
  have h_14 : 10 ≤ 16 := by decide
  refine va_new (ci := 1) (fs := [.null, .null, .int 0]) (C := RX1) (T := TX1) (N := 3) hx hb hts wh_X12_newChains_X1 tyX1 tyX1_ok hown (hts (.classLink RX12 180 RX1) (wm_X12_newChains 4 rfl)) (hts (.instantiable RX1 3) (wm_X12_newChains 5 rfl)) (hts (.initialized RX1) (wm_X12_newChains 6 rfl)) hK hP hD hS hA rfl (by decide +kernel) h_13 h_14 dX12_newChains_19 (fun q15 H hP hD hS => ?_)
  have hP : va_P (dC, dI) vwCl [(q5, .inl (cA6, 4, .inr (.inr (.inr (.inr (va_up (fun _ => none) 0 (some q9))))))), (q9, .inr (1, [.null, .null, .int 0])), (q15, .inr (1, [.null, .null, .int 0]))] H := hP
  have hD : va_D A [(q5, .inl (cA6, 4, .inr (.inr (.inr (.inr (va_up (fun _ => none) 0 (some q9))))))), (q9, .inr (1, [.null, .null, .int 0])), (q15, .inr (1, [.null, .null, .int 0]))] := hD
  refine W.widen (k := 3) (n := 10) (by decide) (by decide) ?_
  refine lv_dup hx hb dX12_newChains_22 rfl ?_
  have hPc := hP.sub (ws' := [(q15, .inr (1, [.null, .null, .int 0]))]) [2] rfl
  have hDc := hD.sub (ws' := [(q15, .inr (1, [.null, .null, .int 0]))]) [2] (by decide) rfl
  have hKc := hK.sub (tys' := []) [] rfl
  have hFc := va_free (wc := [(q15, .inr (1, [.null, .null, .int 0]))]) hD hS hA [2] rfl
  have h_16 : 3 ≤ 5 := by decide
  have h_17 : 10 ≤ 16 := by decide
  refine va_callv (va_runIN (As := []) (rest := [.ref q15, .int 1, .ref q5]) ⟨hx, hb, hml, hown, hts⟩ (c_X1_init l dC dI q15 _) ⟨va_cnB 0 hts wg_X12_newChains_X1_init rfl rfl rfl fN (hts (.initialized RX1) (wm_X12_newChains 6 rfl)) (by decide +kernel) ⟨Nat.le_of_ble_eq_true rfl, Nat.le_of_ble_eq_true rfl⟩, rfl, (hts (.instanceMethod yX1_init) (wm_X12_newChains 7 rfl))⟩ ⟨fun a U g mk q => by obtain ⟨q0, q1, qP, qK, qD⟩ := q; exact ⟨q0, q1, qP, va_K.moved (u := U) (U := U.calling g mk a) (Vm.Alike.refl U.vm) qK, qD⟩, fun U hU hW => ⟨rfl, by rw [hU], by rw [hU]; exact hPc, va_K.moved hW.alike hKc, hDc.weaken (fun _ _ _ _ => trivial)⟩⟩ rfl rfl hl.1 rfl (lv_room (Nat.le_of_ble_eq_true rfl)) dX12_newChains_23 ⟨h_16, h_17⟩) hS (fun q _ h => hFc q h) hFc (fun u18 t H1 locs ht hvm hw hB hz1 hk1 hS => ?_)
  obtain ⟨hP1, hK1, hD1⟩ := hB
  rw [ht] at hP1
  have hK1 := va_K.moved hvm.symm hK1
  obtain ⟨hP, hD⟩ := va_join (wr := [(q5, .inl (cA6, 4, .inr (.inr (.inr (.inr (va_up (fun _ => none) 0 (some q9))))))), (q9, .inr (1, [.null, .null, .int 0]))]) (w1 := [(q15, .inr (1, [.null, .null, .int 0]))]) hP hD [2] [0, 1] rfl rfl (by decide) (by decide) hk1 hFc hP1 hD1
  have hK := (hK.sub (tys' := [(cA6, .object RX1)]) [0] rfl).app hK1
  generalize H1 = H at hP hS ⊢
  have hP : va_P (dC, dI) vwCl [(q5, .inl (cA6, 4, .inr (.inr (.inr (.inr (va_up (fun _ => none) 0 (some q9))))))), (q9, .inr (1, [.null, .null, .int 0])), (q15, .inr (1, [.null, .null, .int 0]))] H := hP
  have hD : va_D A [(q5, .inl (cA6, 4, .inr (.inr (.inr (.inr (va_up (fun _ => none) 0 (some q9))))))), (q9, .inr (1, [.null, .null, .int 0])), (q15, .inr (1, [.null, .null, .int 0]))] := hD
  have hK : va_K (dC, dI) vwCl [(cA6, .object RX1)] s := hK
  refine W.widen (k := 3) (n := 10) (by decide) (by decide) ?_
  refine va_astq hx hb hK hP hD hS 0 0 2 1 rfl rfl rfl rfl (by unfold vp_in; decide) dX12_newChains_26 (fun H locs hP hD hS => ?_)
  have hP : va_P (dC, dI) vwCl [(q5, .inl (cA6, 4, .inr (.inr (.inr (.inr (va_up (va_up (fun _ => none) 0 (some q9)) 1 (some q15))))))), (q9, .inr (1, [.null, .null, .int 0])), (q15, .inr (1, [.null, .null, .int 0]))] H := hP
  have hD : va_D A [(q5, .inl (cA6, 4, .inr (.inr (.inr (.inr (va_up (va_up (fun _ => none) 0 (some q9)) 1 (some q15))))))), (q9, .inr (1, [.null, .null, .int 0])), (q15, .inr (1, [.null, .null, .int 0]))] := hD
  refine lv_iinc (k := 0) (v := 2) (lv' := [(2, .int 2), (1, .ref q5), (0, .int 4)]) hx hb dX12_newChains_27 hl rfl (by decide) (by decide) rfl (fun ls hl => ?_)
  refine lv_goto (tgt := 11) hx hb dX12_newChains_30 (by decide) ?_
  refine lv_iload_n hx hb dX12_newChains_11 rfl (lv_at hl 0 rfl) ?_
  refine lv_aload_n hx hb dX12_newChains_12 rfl (lv_at hl 1 rfl) ?_
  refine va_alen (v := 4) hx hb hK hP 0 0 rfl rfl (show Int32.ofNat 4 = 4 by decide) dX12_newChains_13 ?_
  refine lv_icmp_ge (tgt := 33) hx hb dX12_newChains_14 (by decide) (fun h9 => absurd h9 (by decide)) (fun _ => ?_)
  refine lv_aload_n hx hb dX12_newChains_17 rfl (lv_at hl 1 rfl) ?_
  refine lv_iload_n hx hb dX12_newChains_18 rfl (lv_at hl 0 rfl) ?_
  have h_19 : 4 ≤ 5 := by decide
  have h_20 : 13 ≤ 16 := by decide
  refine va_new (ci := 1) (fs := [.null, .null, .int 0]) (C := RX1) (T := TX1) (N := 3) hx hb hts wh_X12_newChains_X1 tyX1 tyX1_ok hown (hts (.classLink RX12 180 RX1) (wm_X12_newChains 4 rfl)) (hts (.instantiable RX1 3) (wm_X12_newChains 5 rfl)) (hts (.initialized RX1) (wm_X12_newChains 6 rfl)) hK hP hD hS hA rfl (by decide +kernel) h_19 h_20 dX12_newChains_19 (fun q21 H hP hD hS => ?_)
  have hP : va_P (dC, dI) vwCl [(q5, .inl (cA6, 4, .inr (.inr (.inr (.inr (va_up (va_up (fun _ => none) 0 (some q9)) 1 (some q15))))))), (q9, .inr (1, [.null, .null, .int 0])), (q15, .inr (1, [.null, .null, .int 0])), (q21, .inr (1, [.null, .null, .int 0]))] H := hP
  have hD : va_D A [(q5, .inl (cA6, 4, .inr (.inr (.inr (.inr (va_up (va_up (fun _ => none) 0 (some q9)) 1 (some q15))))))), (q9, .inr (1, [.null, .null, .int 0])), (q15, .inr (1, [.null, .null, .int 0])), (q21, .inr (1, [.null, .null, .int 0]))] := hD
  refine W.widen (k := 4) (n := 13) (by decide) (by decide) ?_
  refine lv_dup hx hb dX12_newChains_22 rfl ?_
  have hPc := hP.sub (ws' := [(q21, .inr (1, [.null, .null, .int 0]))]) [3] rfl
  have hDc := hD.sub (ws' := [(q21, .inr (1, [.null, .null, .int 0]))]) [3] (by decide) rfl
  have hKc := hK.sub (tys' := []) [] rfl
  have hFc := va_free (wc := [(q21, .inr (1, [.null, .null, .int 0]))]) hD hS hA [3] rfl
  have h_22 : 4 ≤ 5 := by decide
  have h_23 : 13 ≤ 16 := by decide
  refine va_callv (va_runIN (As := []) (rest := [.ref q21, .int 2, .ref q5]) ⟨hx, hb, hml, hown, hts⟩ (c_X1_init l dC dI q21 _) ⟨va_cnB 0 hts wg_X12_newChains_X1_init rfl rfl rfl fN (hts (.initialized RX1) (wm_X12_newChains 6 rfl)) (by decide +kernel) ⟨Nat.le_of_ble_eq_true rfl, Nat.le_of_ble_eq_true rfl⟩, rfl, (hts (.instanceMethod yX1_init) (wm_X12_newChains 7 rfl))⟩ ⟨fun a U g mk q => by obtain ⟨q0, q1, qP, qK, qD⟩ := q; exact ⟨q0, q1, qP, va_K.moved (u := U) (U := U.calling g mk a) (Vm.Alike.refl U.vm) qK, qD⟩, fun U hU hW => ⟨rfl, by rw [hU], by rw [hU]; exact hPc, va_K.moved hW.alike hKc, hDc.weaken (fun _ _ _ _ => trivial)⟩⟩ rfl rfl hl.1 rfl (lv_room (Nat.le_of_ble_eq_true rfl)) dX12_newChains_23 ⟨h_22, h_23⟩) hS (fun q _ h => hFc q h) hFc (fun u24 t H1 locs ht hvm hw hB hz1 hk1 hS => ?_)
  obtain ⟨hP1, hK1, hD1⟩ := hB
  rw [ht] at hP1
  have hK1 := va_K.moved hvm.symm hK1
  obtain ⟨hP, hD⟩ := va_join (wr := [(q5, .inl (cA6, 4, .inr (.inr (.inr (.inr (va_up (va_up (fun _ => none) 0 (some q9)) 1 (some q15))))))), (q9, .inr (1, [.null, .null, .int 0])), (q15, .inr (1, [.null, .null, .int 0]))]) (w1 := [(q21, .inr (1, [.null, .null, .int 0]))]) hP hD [3] [0, 1, 2] rfl rfl (by decide) (by decide) hk1 hFc hP1 hD1
  have hK := (hK.sub (tys' := [(cA6, .object RX1)]) [0] rfl).app hK1
  generalize H1 = H at hP hS ⊢
  have hP : va_P (dC, dI) vwCl [(q5, .inl (cA6, 4, .inr (.inr (.inr (.inr (va_up (va_up (fun _ => none) 0 (some q9)) 1 (some q15))))))), (q9, .inr (1, [.null, .null, .int 0])), (q15, .inr (1, [.null, .null, .int 0])), (q21, .inr (1, [.null, .null, .int 0]))] H := hP
  have hD : va_D A [(q5, .inl (cA6, 4, .inr (.inr (.inr (.inr (va_up (va_up (fun _ => none) 0 (some q9)) 1 (some q15))))))), (q9, .inr (1, [.null, .null, .int 0])), (q15, .inr (1, [.null, .null, .int 0])), (q21, .inr (1, [.null, .null, .int 0]))] := hD
  have hK : va_K (dC, dI) vwCl [(cA6, .object RX1)] s := hK
  refine W.widen (k := 4) (n := 13) (by decide) (by decide) ?_
  refine va_astq hx hb hK hP hD hS 0 0 3 1 rfl rfl rfl rfl (by unfold vp_in; decide) dX12_newChains_26 (fun H locs hP hD hS => ?_)
  have hP : va_P (dC, dI) vwCl [(q5, .inl (cA6, 4, .inr (.inr (.inr (.inr (va_up (va_up (va_up (fun _ => none) 0 (some q9)) 1 (some q15)) 2 (some q21))))))), (q9, .inr (1, [.null, .null, .int 0])), (q15, .inr (1, [.null, .null, .int 0])), (q21, .inr (1, [.null, .null, .int 0]))] H := hP
  have hD : va_D A [(q5, .inl (cA6, 4, .inr (.inr (.inr (.inr (va_up (va_up (va_up (fun _ => none) 0 (some q9)) 1 (some q15)) 2 (some q21))))))), (q9, .inr (1, [.null, .null, .int 0])), (q15, .inr (1, [.null, .null, .int 0])), (q21, .inr (1, [.null, .null, .int 0]))] := hD
  refine lv_iinc (k := 0) (v := 3) (lv' := [(2, .int 3), (1, .ref q5), (0, .int 4)]) hx hb dX12_newChains_27 hl rfl (by decide) (by decide) rfl (fun ls hl => ?_)
  refine lv_goto (tgt := 11) hx hb dX12_newChains_30 (by decide) ?_
  refine lv_iload_n hx hb dX12_newChains_11 rfl (lv_at hl 0 rfl) ?_
  refine lv_aload_n hx hb dX12_newChains_12 rfl (lv_at hl 1 rfl) ?_
  refine va_alen (v := 4) hx hb hK hP 0 0 rfl rfl (show Int32.ofNat 4 = 4 by decide) dX12_newChains_13 ?_
  refine lv_icmp_ge (tgt := 33) hx hb dX12_newChains_14 (by decide) (fun h9 => absurd h9 (by decide)) (fun _ => ?_)
  refine lv_aload_n hx hb dX12_newChains_17 rfl (lv_at hl 1 rfl) ?_
  refine lv_iload_n hx hb dX12_newChains_18 rfl (lv_at hl 0 rfl) ?_
  have h_25 : 5 ≤ 5 := by decide
  have h_26 : 16 ≤ 16 := by decide
  refine va_new (ci := 1) (fs := [.null, .null, .int 0]) (C := RX1) (T := TX1) (N := 3) hx hb hts wh_X12_newChains_X1 tyX1 tyX1_ok hown (hts (.classLink RX12 180 RX1) (wm_X12_newChains 4 rfl)) (hts (.instantiable RX1 3) (wm_X12_newChains 5 rfl)) (hts (.initialized RX1) (wm_X12_newChains 6 rfl)) hK hP hD hS hA rfl (by decide +kernel) h_25 h_26 dX12_newChains_19 (fun q27 H hP hD hS => ?_)
  have hP : va_P (dC, dI) vwCl [(q5, .inl (cA6, 4, .inr (.inr (.inr (.inr (va_up (va_up (va_up (fun _ => none) 0 (some q9)) 1 (some q15)) 2 (some q21))))))), (q9, .inr (1, [.null, .null, .int 0])), (q15, .inr (1, [.null, .null, .int 0])), (q21, .inr (1, [.null, .null, .int 0])), (q27, .inr (1, [.null, .null, .int 0]))] H := hP
  have hD : va_D A [(q5, .inl (cA6, 4, .inr (.inr (.inr (.inr (va_up (va_up (va_up (fun _ => none) 0 (some q9)) 1 (some q15)) 2 (some q21))))))), (q9, .inr (1, [.null, .null, .int 0])), (q15, .inr (1, [.null, .null, .int 0])), (q21, .inr (1, [.null, .null, .int 0])), (q27, .inr (1, [.null, .null, .int 0]))] := hD
  refine W.widen (k := 5) (n := 16) (by decide) (by decide) ?_
  refine lv_dup hx hb dX12_newChains_22 rfl ?_
  have hPc := hP.sub (ws' := [(q27, .inr (1, [.null, .null, .int 0]))]) [4] rfl
  have hDc := hD.sub (ws' := [(q27, .inr (1, [.null, .null, .int 0]))]) [4] (by decide) rfl
  have hKc := hK.sub (tys' := []) [] rfl
  have hFc := va_free (wc := [(q27, .inr (1, [.null, .null, .int 0]))]) hD hS hA [4] rfl
  have h_28 : 5 ≤ 5 := by decide
  have h_29 : 16 ≤ 16 := by decide
  refine va_callv (va_runIN (As := []) (rest := [.ref q27, .int 3, .ref q5]) ⟨hx, hb, hml, hown, hts⟩ (c_X1_init l dC dI q27 _) ⟨va_cnB 0 hts wg_X12_newChains_X1_init rfl rfl rfl fN (hts (.initialized RX1) (wm_X12_newChains 6 rfl)) (by decide +kernel) ⟨Nat.le_of_ble_eq_true rfl, Nat.le_of_ble_eq_true rfl⟩, rfl, (hts (.instanceMethod yX1_init) (wm_X12_newChains 7 rfl))⟩ ⟨fun a U g mk q => by obtain ⟨q0, q1, qP, qK, qD⟩ := q; exact ⟨q0, q1, qP, va_K.moved (u := U) (U := U.calling g mk a) (Vm.Alike.refl U.vm) qK, qD⟩, fun U hU hW => ⟨rfl, by rw [hU], by rw [hU]; exact hPc, va_K.moved hW.alike hKc, hDc.weaken (fun _ _ _ _ => trivial)⟩⟩ rfl rfl hl.1 rfl (lv_room (Nat.le_of_ble_eq_true rfl)) dX12_newChains_23 ⟨h_28, h_29⟩) hS (fun q _ h => hFc q h) hFc (fun u30 t H1 locs ht hvm hw hB hz1 hk1 hS => ?_)
  obtain ⟨hP1, hK1, hD1⟩ := hB
  rw [ht] at hP1
  have hK1 := va_K.moved hvm.symm hK1
  obtain ⟨hP, hD⟩ := va_join (wr := [(q5, .inl (cA6, 4, .inr (.inr (.inr (.inr (va_up (va_up (va_up (fun _ => none) 0 (some q9)) 1 (some q15)) 2 (some q21))))))), (q9, .inr (1, [.null, .null, .int 0])), (q15, .inr (1, [.null, .null, .int 0])), (q21, .inr (1, [.null, .null, .int 0]))]) (w1 := [(q27, .inr (1, [.null, .null, .int 0]))]) hP hD [4] [0, 1, 2, 3] rfl rfl (by decide) (by decide) hk1 hFc hP1 hD1
  have hK := (hK.sub (tys' := [(cA6, .object RX1)]) [0] rfl).app hK1
  generalize H1 = H at hP hS ⊢
  have hP : va_P (dC, dI) vwCl [(q5, .inl (cA6, 4, .inr (.inr (.inr (.inr (va_up (va_up (va_up (fun _ => none) 0 (some q9)) 1 (some q15)) 2 (some q21))))))), (q9, .inr (1, [.null, .null, .int 0])), (q15, .inr (1, [.null, .null, .int 0])), (q21, .inr (1, [.null, .null, .int 0])), (q27, .inr (1, [.null, .null, .int 0]))] H := hP
  have hD : va_D A [(q5, .inl (cA6, 4, .inr (.inr (.inr (.inr (va_up (va_up (va_up (fun _ => none) 0 (some q9)) 1 (some q15)) 2 (some q21))))))), (q9, .inr (1, [.null, .null, .int 0])), (q15, .inr (1, [.null, .null, .int 0])), (q21, .inr (1, [.null, .null, .int 0])), (q27, .inr (1, [.null, .null, .int 0]))] := hD
  have hK : va_K (dC, dI) vwCl [(cA6, .object RX1)] s := hK
  refine W.widen (k := 5) (n := 16) (by decide) (by decide) ?_
  refine va_astq hx hb hK hP hD hS 0 0 4 1 rfl rfl rfl rfl (by unfold vp_in; decide) dX12_newChains_26 (fun H locs hP hD hS => ?_)
  have hP : va_P (dC, dI) vwCl [(q5, .inl (cA6, 4, .inr (.inr (.inr (.inr (va_up (va_up (va_up (va_up (fun _ => none) 0 (some q9)) 1 (some q15)) 2 (some q21)) 3 (some q27))))))), (q9, .inr (1, [.null, .null, .int 0])), (q15, .inr (1, [.null, .null, .int 0])), (q21, .inr (1, [.null, .null, .int 0])), (q27, .inr (1, [.null, .null, .int 0]))] H := hP
  have hD : va_D A [(q5, .inl (cA6, 4, .inr (.inr (.inr (.inr (va_up (va_up (va_up (va_up (fun _ => none) 0 (some q9)) 1 (some q15)) 2 (some q21)) 3 (some q27))))))), (q9, .inr (1, [.null, .null, .int 0])), (q15, .inr (1, [.null, .null, .int 0])), (q21, .inr (1, [.null, .null, .int 0])), (q27, .inr (1, [.null, .null, .int 0]))] := hD
  refine lv_iinc (k := 0) (v := 4) (lv' := [(2, .int 4), (1, .ref q5), (0, .int 4)]) hx hb dX12_newChains_27 hl rfl (by decide) (by decide) rfl (fun ls hl => ?_)
  refine lv_goto (tgt := 11) hx hb dX12_newChains_30 (by decide) ?_
  refine lv_iload_n hx hb dX12_newChains_11 rfl (lv_at hl 0 rfl) ?_
  refine lv_aload_n hx hb dX12_newChains_12 rfl (lv_at hl 1 rfl) ?_
  refine va_alen (v := 4) hx hb hK hP 0 0 rfl rfl (show Int32.ofNat 4 = 4 by decide) dX12_newChains_13 ?_
  refine lv_icmp_ge (tgt := 33) hx hb dX12_newChains_14 (by decide) (fun _ => ?_) (fun h9 => absurd (by decide) h9)
  refine lv_aload_n hx hb dX12_newChains_33 rfl (lv_at hl 1 rfl) ?_
  have hP9 := hP.sub (ws' := [(q5, .inl (cA6, 4, .inr (.inr (.inr (.inr (va_up (va_up (va_up (va_up (fun _ => none) 0 (some q9)) 1 (some q15)) 2 (some q21)) 3 (some q27))))))), (q9, .inr (1, [.null, .null, .int 0])), (q15, .inr (1, [.null, .null, .int 0])), (q21, .inr (1, [.null, .null, .int 0])), (q27, .inr (1, [.null, .null, .int 0]))]) [0, 1, 2, 3, 4] rfl
  have hD9 := hD.sub (ws' := [(q5, .inl (cA6, 4, .inr (.inr (.inr (.inr (va_up (va_up (va_up (va_up (fun _ => none) 0 (some q9)) 1 (some q15)) 2 (some q21)) 3 (some q27))))))), (q9, .inr (1, [.null, .null, .int 0])), (q15, .inr (1, [.null, .null, .int 0])), (q21, .inr (1, [.null, .null, .int 0])), (q27, .inr (1, [.null, .null, .int 0]))]) [0, 1, 2, 3, 4] (by decide) rfl
  have hK9 := hK.sub (tys' := [(cA6, .object RX1)]) [0] rfl
  exact W.aret hx hb hr (Or.inr ⟨_, rfl⟩) (Or.inr ⟨_, rfl⟩) (fun t ht hW => ⟨⟨(cA6, q9, q15, q21, q27), q5, rfl, trivial, by rw [ht]; exact hP9, va_K.moved hW.alike hK9, hD9⟩, hS.F ht⟩) hS.2.2 dX12_newChains_34

abbrev at_X12_newChains_16 (dC : Nat → ClassId) (dI : Nat → Nat → Nat) (A : Nat → Prop) (u : ClassId × Nat × Nat × Nat × Nat × Nat × Nat × Nat × Nat × Nat × Nat × Nat × Nat × Nat × Nat × Nat × Nat) (q5 : Nat) (t : State) : Prop := match u with
  | (cA6, q9, q15, q21, q27, q33, q39, q45, q51, q57, q63, q69, q75, q81, q87, q93, q99) => va_P (dC, dI) vwCl [(q5, .inl (cA6, 16, .inr (.inr (.inr (.inr (va_up (va_up (va_up (va_up (va_up (va_up (va_up (va_up (va_up (va_up (va_up (va_up (va_up (va_up (va_up (va_up (fun _ => none) 0 (some q9)) 1 (some q15)) 2 (some q21)) 3 (some q27)) 4 (some q33)) 5 (some q39)) 6 (some q45)) 7 (some q51)) 8 (some q57)) 9 (some q63)) 10 (some q69)) 11 (some q75)) 12 (some q81)) 13 (some q87)) 14 (some q93)) 15 (some q99)))))))] t.heap ∧ va_K (dC, dI) vwCl [(cA6, .object RX1)] t ∧ va_D A [(q5, .inl (cA6, 16, .inr (.inr (.inr (.inr (va_up (va_up (va_up (va_up (va_up (va_up (va_up (va_up (va_up (va_up (va_up (va_up (va_up (va_up (va_up (va_up (fun _ => none) 0 (some q9)) 1 (some q15)) 2 (some q21)) 3 (some q27)) 4 (some q33)) 5 (some q39)) 6 (some q45)) 7 (some q51)) 8 (some q57)) 9 (some q63)) 10 (some q69)) 11 (some q75)) 12 (some q81)) 13 (some q87)) 14 (some q93)) 15 (some q99)))))))]
set_option maxHeartbeats 4000000 in
set_option maxRecDepth 100000 in
/-- newChains(16): of its chains nothing is told -/
theorem c_X12_newChains_16 (l : Launch) (dC : Nat → ClassId) (dI : Nat → Nat → Nat) (sz : Nat) : Met l yX12_newChains wv_X12_newChains ({ frames := 2, cells := 17, slots := 64, locals := 32 }) (va_Pc [.int 16] (fun U => U.heap.size = sz ∧ va_P (dC, dI) vwCl [] U.heap ∧ va_K (dC, dI) vwCl [] U ∧ va_D (fun _ => True) [] ∧ va_AO RX1 U ∧ va_Nw (.methodLinkNest RX12 272 yX1_init RX12) U)) (va_Qr (fun _ : ClassId × Nat × Nat × Nat × Nat × Nat × Nat × Nat × Nat × Nat × Nat × Nat × Nat × Nat × Nat × Nat × Nat => True) (at_X12_newChains_16 dC dI (va_A [] sz) ) (va_A [] sz)) 17 64 (va_A [] sz) := by
  refine Met.ofW (cc := cX12_newChains) (maxL := 3) (ret := (some (.array (.object "StreamHouse$Chain")))) (by decide) rfl ?_
  intro p e s m args below meth c s₁ B hml hv
  obtain ⟨rfl, hsz, hP, hK, hD0, fA, fN⟩ := hv
  have hx := B.exec
  have hb := B.bytes
  have hr := B.returns
  have hts := atoms_spec (ws := wv_X12_newChains) B.pre
  have hown : s.vm.findClass RX12 = some m.cls := findClass_of_methodNamed B.named
  have hlocks := B.notSynchronized
  subst hsz
  have hD := hD0.self (sz := s.heap.size)
  generalize hAe : va_A [] s.heap.size = A at hD ⊢
  have hA : ∀ q : Nat, s.heap.size ≤ q → A q := fun q h => by rw [← hAe]; exact Or.inr h
  have hS : va_S A s.heap s.heap [] := va_S.rf
  have hP : va_P (dC, dI) vwCl [] s.heap := hP
  have hl := lv_entry ([.int 16]) (n := 3) (Nat.le_of_ble_eq_true rfl)
  rw [lg_entry_eq]
  generalize (lg_sl ([.int 16]) ++ List.replicate (3 - (lg_sl ([.int 16])).length) Slot.unset).toArray = ls at hl ⊢
  have hl : lv_has ls 3 [(0, .int 16)] := hl
  refine lv_iconst (v := 0) hx hb dX12_newChains_0 (by decide) ?_
  refine lv_iload_n hx hb dX12_newChains_1 rfl (lv_at hl 0 rfl) ?_
  have h_1 : 0 ≤ 17 := by decide
  have h_2 : 0 ≤ 64 := by decide
  refine va_mmax hx hb (hml.trans hl.1.symm) hown (hts (.methodLink RX12 267 Lib.Math.max.name) (wm_X12_newChains 0 rfl)) (hts (.static Lib.Math.max.name) (wm_X12_newChains 1 rfl)) (hts (.initialized "java/lang/Math") (wm_X12_newChains 2 rfl)) (hts (.code Lib.Math.max.name Lib.Math.max.code 2 (some .int)) (wm_X12_newChains 3 rfl)) (Nat.le_of_ble_eq_true rfl) (Nat.le_of_ble_eq_true rfl) h_1 h_2 dX12_newChains_2 ?_
  refine W.eq (g2 := F0 m 5 ls [.int 16]) (by rw [if_pos (by decide)]) ?_
  have h_3 : 1 ≤ 17 := by decide
  have h_4 : 16 ≤ 64 := by decide
  refine va_newq (n := 16) (N' := 16) hx hb hown (hts (.classLink RX12 180 RX1) (wm_X12_newChains 4 rfl)) fA hK hP hD hS hA (by decide) (by decide) (Nat.le_of_ble_eq_true rfl) h_3 h_4 dX12_newChains_5 (fun q5 cA6 H hK hP hD hS => ?_)
  have hP : va_P (dC, dI) vwCl [(q5, .inl (cA6, 16, .inr (.inr (.inr (.inr (fun _ => none))))))] H := hP
  have hD : va_D A [(q5, .inl (cA6, 16, .inr (.inr (.inr (.inr (fun _ => none))))))] := hD
  have hK : va_K (dC, dI) vwCl [(cA6, .object RX1)] s := hK
  refine W.widen (k := 1) (n := 16) (by decide) (by decide) ?_
  refine lv_astore_n (lv' := [(1, .ref q5), (0, .int 16)]) hx hb dX12_newChains_8 rfl hl (by decide) rfl (fun ls hl => ?_)
  refine lv_iconst (v := 0) hx hb dX12_newChains_9 (by decide) ?_
  refine lv_istore_n (lv' := [(2, .int 0), (1, .ref q5), (0, .int 16)]) hx hb dX12_newChains_10 rfl hl (by decide) rfl (fun ls hl => ?_)
  refine lv_iload_n hx hb dX12_newChains_11 rfl (lv_at hl 0 rfl) ?_
  refine lv_aload_n hx hb dX12_newChains_12 rfl (lv_at hl 1 rfl) ?_
  refine va_alen (v := 16) hx hb hK hP 0 0 rfl rfl (show Int32.ofNat 16 = 16 by decide) dX12_newChains_13 ?_
  refine lv_icmp_ge (tgt := 33) hx hb dX12_newChains_14 (by decide) (fun h9 => absurd h9 (by decide)) (fun _ => ?_)
  refine lv_aload_n hx hb dX12_newChains_17 rfl (lv_at hl 1 rfl) ?_
  refine lv_iload_n hx hb dX12_newChains_18 rfl (lv_at hl 0 rfl) ?_
  have h_7 : 2 ≤ 17 := by decide
  have h_8 : 19 ≤ 64 := by decide
  refine va_new (ci := 1) (fs := [.null, .null, .int 0]) (C := RX1) (T := TX1) (N := 3) hx hb hts wh_X12_newChains_X1 tyX1 tyX1_ok hown (hts (.classLink RX12 180 RX1) (wm_X12_newChains 4 rfl)) (hts (.instantiable RX1 3) (wm_X12_newChains 5 rfl)) (hts (.initialized RX1) (wm_X12_newChains 6 rfl)) hK hP hD hS hA rfl (by decide +kernel) h_7 h_8 dX12_newChains_19 (fun q9 H hP hD hS => ?_)
  have hP : va_P (dC, dI) vwCl [(q5, .inl (cA6, 16, .inr (.inr (.inr (.inr (fun _ => none)))))), (q9, .inr (1, [.null, .null, .int 0]))] H := hP
  have hD : va_D A [(q5, .inl (cA6, 16, .inr (.inr (.inr (.inr (fun _ => none)))))), (q9, .inr (1, [.null, .null, .int 0]))] := hD
  refine W.widen (k := 2) (n := 19) (by decide) (by decide) ?_
  refine lv_dup hx hb dX12_newChains_22 rfl ?_
  have hPc := hP.sub (ws' := [(q9, .inr (1, [.null, .null, .int 0]))]) [1] rfl
  have hDc := hD.sub (ws' := [(q9, .inr (1, [.null, .null, .int 0]))]) [1] (by decide) rfl
  have hKc := hK.sub (tys' := []) [] rfl
  have hFc := va_free (wc := [(q9, .inr (1, [.null, .null, .int 0]))]) hD hS hA [1] rfl
  have h_10 : 2 ≤ 17 := by decide
  have h_11 : 19 ≤ 64 := by decide
  refine va_callv (va_runIN (As := []) (rest := [.ref q9, .int 0, .ref q5]) ⟨hx, hb, hml, hown, hts⟩ (c_X1_init l dC dI q9 _) ⟨va_cnB 0 hts wg_X12_newChains_X1_init rfl rfl rfl fN (hts (.initialized RX1) (wm_X12_newChains 6 rfl)) (by decide +kernel) ⟨Nat.le_of_ble_eq_true rfl, Nat.le_of_ble_eq_true rfl⟩, rfl, (hts (.instanceMethod yX1_init) (wm_X12_newChains 7 rfl))⟩ ⟨fun a U g mk q => by obtain ⟨q0, q1, qP, qK, qD⟩ := q; exact ⟨q0, q1, qP, va_K.moved (u := U) (U := U.calling g mk a) (Vm.Alike.refl U.vm) qK, qD⟩, fun U hU hW => ⟨rfl, by rw [hU], by rw [hU]; exact hPc, va_K.moved hW.alike hKc, hDc.weaken (fun _ _ _ _ => trivial)⟩⟩ rfl rfl hl.1 rfl (lv_room (Nat.le_of_ble_eq_true rfl)) dX12_newChains_23 ⟨h_10, h_11⟩) hS (fun q _ h => hFc q h) hFc (fun u12 t H1 locs ht hvm hw hB hz1 hk1 hS => ?_)
  obtain ⟨hP1, hK1, hD1⟩ := hB
  rw [ht] at hP1
  have hK1 := va_K.moved hvm.symm hK1
  obtain ⟨hP, hD⟩ := va_join (wr := [(q5, .inl (cA6, 16, .inr (.inr (.inr (.inr (fun _ => none))))))]) (w1 := [(q9, .inr (1, [.null, .null, .int 0]))]) hP hD [1] [0] rfl rfl (by decide) (by decide) hk1 hFc hP1 hD1
  have hK := (hK.sub (tys' := [(cA6, .object RX1)]) [0] rfl).app hK1
  generalize H1 = H at hP hS ⊢
  have hP : va_P (dC, dI) vwCl [(q5, .inl (cA6, 16, .inr (.inr (.inr (.inr (fun _ => none)))))), (q9, .inr (1, [.null, .null, .int 0]))] H := hP
  have hD : va_D A [(q5, .inl (cA6, 16, .inr (.inr (.inr (.inr (fun _ => none)))))), (q9, .inr (1, [.null, .null, .int 0]))] := hD
  have hK : va_K (dC, dI) vwCl [(cA6, .object RX1)] s := hK
  refine W.widen (k := 2) (n := 19) (by decide) (by decide) ?_
  refine va_astq hx hb hK hP hD hS 0 0 1 1 rfl rfl rfl rfl (by unfold vp_in; decide) dX12_newChains_26 (fun H locs hP hD hS => ?_)
  have hP : va_P (dC, dI) vwCl [(q5, .inl (cA6, 16, .inr (.inr (.inr (.inr (va_up (fun _ => none) 0 (some q9))))))), (q9, .inr (1, [.null, .null, .int 0]))] H := hP
  have hD : va_D A [(q5, .inl (cA6, 16, .inr (.inr (.inr (.inr (va_up (fun _ => none) 0 (some q9))))))), (q9, .inr (1, [.null, .null, .int 0]))] := hD
  refine lv_iinc (k := 0) (v := 1) (lv' := [(2, .int 1), (1, .ref q5), (0, .int 16)]) hx hb dX12_newChains_27 hl rfl (by decide) (by decide) rfl (fun ls hl => ?_)
  refine lv_goto (tgt := 11) hx hb dX12_newChains_30 (by decide) ?_
  refine lv_iload_n hx hb dX12_newChains_11 rfl (lv_at hl 0 rfl) ?_
  refine lv_aload_n hx hb dX12_newChains_12 rfl (lv_at hl 1 rfl) ?_
  refine va_alen (v := 16) hx hb hK hP 0 0 rfl rfl (show Int32.ofNat 16 = 16 by decide) dX12_newChains_13 ?_
  refine lv_icmp_ge (tgt := 33) hx hb dX12_newChains_14 (by decide) (fun h9 => absurd h9 (by decide)) (fun _ => ?_)
  refine lv_aload_n hx hb dX12_newChains_17 rfl (lv_at hl 1 rfl) ?_
  refine lv_iload_n hx hb dX12_newChains_18 rfl (lv_at hl 0 rfl) ?_
  have h_13 : 3 ≤ 17 := by decide
  have h_14 : 22 ≤ 64 := by decide
  refine va_new (ci := 1) (fs := [.null, .null, .int 0]) (C := RX1) (T := TX1) (N := 3) hx hb hts wh_X12_newChains_X1 tyX1 tyX1_ok hown (hts (.classLink RX12 180 RX1) (wm_X12_newChains 4 rfl)) (hts (.instantiable RX1 3) (wm_X12_newChains 5 rfl)) (hts (.initialized RX1) (wm_X12_newChains 6 rfl)) hK hP hD hS hA rfl (by decide +kernel) h_13 h_14 dX12_newChains_19 (fun q15 H hP hD hS => ?_)
  have hP : va_P (dC, dI) vwCl [(q5, .inl (cA6, 16, .inr (.inr (.inr (.inr (va_up (fun _ => none) 0 (some q9))))))), (q9, .inr (1, [.null, .null, .int 0])), (q15, .inr (1, [.null, .null, .int 0]))] H := hP
  have hD : va_D A [(q5, .inl (cA6, 16, .inr (.inr (.inr (.inr (va_up (fun _ => none) 0 (some q9))))))), (q9, .inr (1, [.null, .null, .int 0])), (q15, .inr (1, [.null, .null, .int 0]))] := hD
  refine W.widen (k := 3) (n := 22) (by decide) (by decide) ?_
  refine lv_dup hx hb dX12_newChains_22 rfl ?_
  have hPc := hP.sub (ws' := [(q15, .inr (1, [.null, .null, .int 0]))]) [2] rfl
  have hDc := hD.sub (ws' := [(q15, .inr (1, [.null, .null, .int 0]))]) [2] (by decide) rfl
  have hKc := hK.sub (tys' := []) [] rfl
  have hFc := va_free (wc := [(q15, .inr (1, [.null, .null, .int 0]))]) hD hS hA [2] rfl
  have h_16 : 3 ≤ 17 := by decide
  have h_17 : 22 ≤ 64 := by decide
  refine va_callv (va_runIN (As := []) (rest := [.ref q15, .int 1, .ref q5]) ⟨hx, hb, hml, hown, hts⟩ (c_X1_init l dC dI q15 _) ⟨va_cnB 0 hts wg_X12_newChains_X1_init rfl rfl rfl fN (hts (.initialized RX1) (wm_X12_newChains 6 rfl)) (by decide +kernel) ⟨Nat.le_of_ble_eq_true rfl, Nat.le_of_ble_eq_true rfl⟩, rfl, (hts (.instanceMethod yX1_init) (wm_X12_newChains 7 rfl))⟩ ⟨fun a U g mk q => by obtain ⟨q0, q1, qP, qK, qD⟩ := q; exact ⟨q0, q1, qP, va_K.moved (u := U) (U := U.calling g mk a) (Vm.Alike.refl U.vm) qK, qD⟩, fun U hU hW => ⟨rfl, by rw [hU], by rw [hU]; exact hPc, va_K.moved hW.alike hKc, hDc.weaken (fun _ _ _ _ => trivial)⟩⟩ rfl rfl hl.1 rfl (lv_room (Nat.le_of_ble_eq_true rfl)) dX12_newChains_23 ⟨h_16, h_17⟩) hS (fun q _ h => hFc q h) hFc (fun u18 t H1 locs ht hvm hw hB hz1 hk1 hS => ?_)
  obtain ⟨hP1, hK1, hD1⟩ := hB
  rw [ht] at hP1
  have hK1 := va_K.moved hvm.symm hK1
  obtain ⟨hP, hD⟩ := va_join (wr := [(q5, .inl (cA6, 16, .inr (.inr (.inr (.inr (va_up (fun _ => none) 0 (some q9))))))), (q9, .inr (1, [.null, .null, .int 0]))]) (w1 := [(q15, .inr (1, [.null, .null, .int 0]))]) hP hD [2] [0, 1] rfl rfl (by decide) (by decide) hk1 hFc hP1 hD1
  have hK := (hK.sub (tys' := [(cA6, .object RX1)]) [0] rfl).app hK1
  generalize H1 = H at hP hS ⊢
  have hP : va_P (dC, dI) vwCl [(q5, .inl (cA6, 16, .inr (.inr (.inr (.inr (va_up (fun _ => none) 0 (some q9))))))), (q9, .inr (1, [.null, .null, .int 0])), (q15, .inr (1, [.null, .null, .int 0]))] H := hP
  have hD : va_D A [(q5, .inl (cA6, 16, .inr (.inr (.inr (.inr (va_up (fun _ => none) 0 (some q9))))))), (q9, .inr (1, [.null, .null, .int 0])), (q15, .inr (1, [.null, .null, .int 0]))] := hD
  have hK : va_K (dC, dI) vwCl [(cA6, .object RX1)] s := hK
  refine W.widen (k := 3) (n := 22) (by decide) (by decide) ?_
  refine va_astq hx hb hK hP hD hS 0 0 2 1 rfl rfl rfl rfl (by unfold vp_in; decide) dX12_newChains_26 (fun H locs hP hD hS => ?_)
  have hP : va_P (dC, dI) vwCl [(q5, .inl (cA6, 16, .inr (.inr (.inr (.inr (va_up (va_up (fun _ => none) 0 (some q9)) 1 (some q15))))))), (q9, .inr (1, [.null, .null, .int 0])), (q15, .inr (1, [.null, .null, .int 0]))] H := hP
  have hD : va_D A [(q5, .inl (cA6, 16, .inr (.inr (.inr (.inr (va_up (va_up (fun _ => none) 0 (some q9)) 1 (some q15))))))), (q9, .inr (1, [.null, .null, .int 0])), (q15, .inr (1, [.null, .null, .int 0]))] := hD
  refine lv_iinc (k := 0) (v := 2) (lv' := [(2, .int 2), (1, .ref q5), (0, .int 16)]) hx hb dX12_newChains_27 hl rfl (by decide) (by decide) rfl (fun ls hl => ?_)
  refine lv_goto (tgt := 11) hx hb dX12_newChains_30 (by decide) ?_
  refine lv_iload_n hx hb dX12_newChains_11 rfl (lv_at hl 0 rfl) ?_
  refine lv_aload_n hx hb dX12_newChains_12 rfl (lv_at hl 1 rfl) ?_
  refine va_alen (v := 16) hx hb hK hP 0 0 rfl rfl (show Int32.ofNat 16 = 16 by decide) dX12_newChains_13 ?_
  refine lv_icmp_ge (tgt := 33) hx hb dX12_newChains_14 (by decide) (fun h9 => absurd h9 (by decide)) (fun _ => ?_)
  refine lv_aload_n hx hb dX12_newChains_17 rfl (lv_at hl 1 rfl) ?_
  refine lv_iload_n hx hb dX12_newChains_18 rfl (lv_at hl 0 rfl) ?_
  have h_19 : 4 ≤ 17 := by decide
  have h_20 : 25 ≤ 64 := by decide
  refine va_new (ci := 1) (fs := [.null, .null, .int 0]) (C := RX1) (T := TX1) (N := 3) hx hb hts wh_X12_newChains_X1 tyX1 tyX1_ok hown (hts (.classLink RX12 180 RX1) (wm_X12_newChains 4 rfl)) (hts (.instantiable RX1 3) (wm_X12_newChains 5 rfl)) (hts (.initialized RX1) (wm_X12_newChains 6 rfl)) hK hP hD hS hA rfl (by decide +kernel) h_19 h_20 dX12_newChains_19 (fun q21 H hP hD hS => ?_)
  have hP : va_P (dC, dI) vwCl [(q5, .inl (cA6, 16, .inr (.inr (.inr (.inr (va_up (va_up (fun _ => none) 0 (some q9)) 1 (some q15))))))), (q9, .inr (1, [.null, .null, .int 0])), (q15, .inr (1, [.null, .null, .int 0])), (q21, .inr (1, [.null, .null, .int 0]))] H := hP
  have hD : va_D A [(q5, .inl (cA6, 16, .inr (.inr (.inr (.inr (va_up (va_up (fun _ => none) 0 (some q9)) 1 (some q15))))))), (q9, .inr (1, [.null, .null, .int 0])), (q15, .inr (1, [.null, .null, .int 0])), (q21, .inr (1, [.null, .null, .int 0]))] := hD
  refine W.widen (k := 4) (n := 25) (by decide) (by decide) ?_
  refine lv_dup hx hb dX12_newChains_22 rfl ?_
  have hPc := hP.sub (ws' := [(q21, .inr (1, [.null, .null, .int 0]))]) [3] rfl
  have hDc := hD.sub (ws' := [(q21, .inr (1, [.null, .null, .int 0]))]) [3] (by decide) rfl
  have hKc := hK.sub (tys' := []) [] rfl
  have hFc := va_free (wc := [(q21, .inr (1, [.null, .null, .int 0]))]) hD hS hA [3] rfl
  have h_22 : 4 ≤ 17 := by decide
  have h_23 : 25 ≤ 64 := by decide
  refine va_callv (va_runIN (As := []) (rest := [.ref q21, .int 2, .ref q5]) ⟨hx, hb, hml, hown, hts⟩ (c_X1_init l dC dI q21 _) ⟨va_cnB 0 hts wg_X12_newChains_X1_init rfl rfl rfl fN (hts (.initialized RX1) (wm_X12_newChains 6 rfl)) (by decide +kernel) ⟨Nat.le_of_ble_eq_true rfl, Nat.le_of_ble_eq_true rfl⟩, rfl, (hts (.instanceMethod yX1_init) (wm_X12_newChains 7 rfl))⟩ ⟨fun a U g mk q => by obtain ⟨q0, q1, qP, qK, qD⟩ := q; exact ⟨q0, q1, qP, va_K.moved (u := U) (U := U.calling g mk a) (Vm.Alike.refl U.vm) qK, qD⟩, fun U hU hW => ⟨rfl, by rw [hU], by rw [hU]; exact hPc, va_K.moved hW.alike hKc, hDc.weaken (fun _ _ _ _ => trivial)⟩⟩ rfl rfl hl.1 rfl (lv_room (Nat.le_of_ble_eq_true rfl)) dX12_newChains_23 ⟨h_22, h_23⟩) hS (fun q _ h => hFc q h) hFc (fun u24 t H1 locs ht hvm hw hB hz1 hk1 hS => ?_)
  obtain ⟨hP1, hK1, hD1⟩ := hB
  rw [ht] at hP1
  have hK1 := va_K.moved hvm.symm hK1
  obtain ⟨hP, hD⟩ := va_join (wr := [(q5, .inl (cA6, 16, .inr (.inr (.inr (.inr (va_up (va_up (fun _ => none) 0 (some q9)) 1 (some q15))))))), (q9, .inr (1, [.null, .null, .int 0])), (q15, .inr (1, [.null, .null, .int 0]))]) (w1 := [(q21, .inr (1, [.null, .null, .int 0]))]) hP hD [3] [0, 1, 2] rfl rfl (by decide) (by decide) hk1 hFc hP1 hD1
  have hK := (hK.sub (tys' := [(cA6, .object RX1)]) [0] rfl).app hK1
  generalize H1 = H at hP hS ⊢
  have hP : va_P (dC, dI) vwCl [(q5, .inl (cA6, 16, .inr (.inr (.inr (.inr (va_up (va_up (fun _ => none) 0 (some q9)) 1 (some q15))))))), (q9, .inr (1, [.null, .null, .int 0])), (q15, .inr (1, [.null, .null, .int 0])), (q21, .inr (1, [.null, .null, .int 0]))] H := hP
  have hD : va_D A [(q5, .inl (cA6, 16, .inr (.inr (.inr (.inr (va_up (va_up (fun _ => none) 0 (some q9)) 1 (some q15))))))), (q9, .inr (1, [.null, .null, .int 0])), (q15, .inr (1, [.null, .null, .int 0])), (q21, .inr (1, [.null, .null, .int 0]))] := hD
  have hK : va_K (dC, dI) vwCl [(cA6, .object RX1)] s := hK
  refine W.widen (k := 4) (n := 25) (by decide) (by decide) ?_
  refine va_astq hx hb hK hP hD hS 0 0 3 1 rfl rfl rfl rfl (by unfold vp_in; decide) dX12_newChains_26 (fun H locs hP hD hS => ?_)
  have hP : va_P (dC, dI) vwCl [(q5, .inl (cA6, 16, .inr (.inr (.inr (.inr (va_up (va_up (va_up (fun _ => none) 0 (some q9)) 1 (some q15)) 2 (some q21))))))), (q9, .inr (1, [.null, .null, .int 0])), (q15, .inr (1, [.null, .null, .int 0])), (q21, .inr (1, [.null, .null, .int 0]))] H := hP
  have hD : va_D A [(q5, .inl (cA6, 16, .inr (.inr (.inr (.inr (va_up (va_up (va_up (fun _ => none) 0 (some q9)) 1 (some q15)) 2 (some q21))))))), (q9, .inr (1, [.null, .null, .int 0])), (q15, .inr (1, [.null, .null, .int 0])), (q21, .inr (1, [.null, .null, .int 0]))] := hD
  refine lv_iinc (k := 0) (v := 3) (lv' := [(2, .int 3), (1, .ref q5), (0, .int 16)]) hx hb dX12_newChains_27 hl rfl (by decide) (by decide) rfl (fun ls hl => ?_)
  refine lv_goto (tgt := 11) hx hb dX12_newChains_30 (by decide) ?_
  refine lv_iload_n hx hb dX12_newChains_11 rfl (lv_at hl 0 rfl) ?_
  refine lv_aload_n hx hb dX12_newChains_12 rfl (lv_at hl 1 rfl) ?_
  refine va_alen (v := 16) hx hb hK hP 0 0 rfl rfl (show Int32.ofNat 16 = 16 by decide) dX12_newChains_13 ?_
  refine lv_icmp_ge (tgt := 33) hx hb dX12_newChains_14 (by decide) (fun h9 => absurd h9 (by decide)) (fun _ => ?_)
  refine lv_aload_n hx hb dX12_newChains_17 rfl (lv_at hl 1 rfl) ?_
  refine lv_iload_n hx hb dX12_newChains_18 rfl (lv_at hl 0 rfl) ?_
  have h_25 : 5 ≤ 17 := by decide
  have h_26 : 28 ≤ 64 := by decide
  refine va_new (ci := 1) (fs := [.null, .null, .int 0]) (C := RX1) (T := TX1) (N := 3) hx hb hts wh_X12_newChains_X1 tyX1 tyX1_ok hown (hts (.classLink RX12 180 RX1) (wm_X12_newChains 4 rfl)) (hts (.instantiable RX1 3) (wm_X12_newChains 5 rfl)) (hts (.initialized RX1) (wm_X12_newChains 6 rfl)) hK hP hD hS hA rfl (by decide +kernel) h_25 h_26 dX12_newChains_19 (fun q27 H hP hD hS => ?_)
  have hP : va_P (dC, dI) vwCl [(q5, .inl (cA6, 16, .inr (.inr (.inr (.inr (va_up (va_up (va_up (fun _ => none) 0 (some q9)) 1 (some q15)) 2 (some q21))))))), (q9, .inr (1, [.null, .null, .int 0])), (q15, .inr (1, [.null, .null, .int 0])), (q21, .inr (1, [.null, .null, .int 0])), (q27, .inr (1, [.null, .null, .int 0]))] H := hP
  have hD : va_D A [(q5, .inl (cA6, 16, .inr (.inr (.inr (.inr (va_up (va_up (va_up (fun _ => none) 0 (some q9)) 1 (some q15)) 2 (some q21))))))), (q9, .inr (1, [.null, .null, .int 0])), (q15, .inr (1, [.null, .null, .int 0])), (q21, .inr (1, [.null, .null, .int 0])), (q27, .inr (1, [.null, .null, .int 0]))] := hD
  refine W.widen (k := 5) (n := 28) (by decide) (by decide) ?_
  refine lv_dup hx hb dX12_newChains_22 rfl ?_
  have hPc := hP.sub (ws' := [(q27, .inr (1, [.null, .null, .int 0]))]) [4] rfl
  have hDc := hD.sub (ws' := [(q27, .inr (1, [.null, .null, .int 0]))]) [4] (by decide) rfl
  have hKc := hK.sub (tys' := []) [] rfl
  have hFc := va_free (wc := [(q27, .inr (1, [.null, .null, .int 0]))]) hD hS hA [4] rfl
  have h_28 : 5 ≤ 17 := by decide
  have h_29 : 28 ≤ 64 := by decide
  refine va_callv (va_runIN (As := []) (rest := [.ref q27, .int 3, .ref q5]) ⟨hx, hb, hml, hown, hts⟩ (c_X1_init l dC dI q27 _) ⟨va_cnB 0 hts wg_X12_newChains_X1_init rfl rfl rfl fN (hts (.initialized RX1) (wm_X12_newChains 6 rfl)) (by decide +kernel) ⟨Nat.le_of_ble_eq_true rfl, Nat.le_of_ble_eq_true rfl⟩, rfl, (hts (.instanceMethod yX1_init) (wm_X12_newChains 7 rfl))⟩ ⟨fun a U g mk q => by obtain ⟨q0, q1, qP, qK, qD⟩ := q; exact ⟨q0, q1, qP, va_K.moved (u := U) (U := U.calling g mk a) (Vm.Alike.refl U.vm) qK, qD⟩, fun U hU hW => ⟨rfl, by rw [hU], by rw [hU]; exact hPc, va_K.moved hW.alike hKc, hDc.weaken (fun _ _ _ _ => trivial)⟩⟩ rfl rfl hl.1 rfl (lv_room (Nat.le_of_ble_eq_true rfl)) dX12_newChains_23 ⟨h_28, h_29⟩) hS (fun q _ h => hFc q h) hFc (fun u30 t H1 locs ht hvm hw hB hz1 hk1 hS => ?_)
  obtain ⟨hP1, hK1, hD1⟩ := hB
  rw [ht] at hP1
  have hK1 := va_K.moved hvm.symm hK1
  obtain ⟨hP, hD⟩ := va_join (wr := [(q5, .inl (cA6, 16, .inr (.inr (.inr (.inr (va_up (va_up (va_up (fun _ => none) 0 (some q9)) 1 (some q15)) 2 (some q21))))))), (q9, .inr (1, [.null, .null, .int 0])), (q15, .inr (1, [.null, .null, .int 0])), (q21, .inr (1, [.null, .null, .int 0]))]) (w1 := [(q27, .inr (1, [.null, .null, .int 0]))]) hP hD [4] [0, 1, 2, 3] rfl rfl (by decide) (by decide) hk1 hFc hP1 hD1
  have hK := (hK.sub (tys' := [(cA6, .object RX1)]) [0] rfl).app hK1
  generalize H1 = H at hP hS ⊢
  have hP : va_P (dC, dI) vwCl [(q5, .inl (cA6, 16, .inr (.inr (.inr (.inr (va_up (va_up (va_up (fun _ => none) 0 (some q9)) 1 (some q15)) 2 (some q21))))))), (q9, .inr (1, [.null, .null, .int 0])), (q15, .inr (1, [.null, .null, .int 0])), (q21, .inr (1, [.null, .null, .int 0])), (q27, .inr (1, [.null, .null, .int 0]))] H := hP
  have hD : va_D A [(q5, .inl (cA6, 16, .inr (.inr (.inr (.inr (va_up (va_up (va_up (fun _ => none) 0 (some q9)) 1 (some q15)) 2 (some q21))))))), (q9, .inr (1, [.null, .null, .int 0])), (q15, .inr (1, [.null, .null, .int 0])), (q21, .inr (1, [.null, .null, .int 0])), (q27, .inr (1, [.null, .null, .int 0]))] := hD
  have hK : va_K (dC, dI) vwCl [(cA6, .object RX1)] s := hK
  refine W.widen (k := 5) (n := 28) (by decide) (by decide) ?_
  refine va_astq hx hb hK hP hD hS 0 0 4 1 rfl rfl rfl rfl (by unfold vp_in; decide) dX12_newChains_26 (fun H locs hP hD hS => ?_)
  have hP : va_P (dC, dI) vwCl [(q5, .inl (cA6, 16, .inr (.inr (.inr (.inr (va_up (va_up (va_up (va_up (fun _ => none) 0 (some q9)) 1 (some q15)) 2 (some q21)) 3 (some q27))))))), (q9, .inr (1, [.null, .null, .int 0])), (q15, .inr (1, [.null, .null, .int 0])), (q21, .inr (1, [.null, .null, .int 0])), (q27, .inr (1, [.null, .null, .int 0]))] H := hP
  have hD : va_D A [(q5, .inl (cA6, 16, .inr (.inr (.inr (.inr (va_up (va_up (va_up (va_up (fun _ => none) 0 (some q9)) 1 (some q15)) 2 (some q21)) 3 (some q27))))))), (q9, .inr (1, [.null, .null, .int 0])), (q15, .inr (1, [.null, .null, .int 0])), (q21, .inr (1, [.null, .null, .int 0])), (q27, .inr (1, [.null, .null, .int 0]))] := hD
  refine lv_iinc (k := 0) (v := 4) (lv' := [(2, .int 4), (1, .ref q5), (0, .int 16)]) hx hb dX12_newChains_27 hl rfl (by decide) (by decide) rfl (fun ls hl => ?_)
  refine lv_goto (tgt := 11) hx hb dX12_newChains_30 (by decide) ?_
  refine lv_iload_n hx hb dX12_newChains_11 rfl (lv_at hl 0 rfl) ?_
  refine lv_aload_n hx hb dX12_newChains_12 rfl (lv_at hl 1 rfl) ?_
  refine va_alen (v := 16) hx hb hK hP 0 0 rfl rfl (show Int32.ofNat 16 = 16 by decide) dX12_newChains_13 ?_
  refine lv_icmp_ge (tgt := 33) hx hb dX12_newChains_14 (by decide) (fun h9 => absurd h9 (by decide)) (fun _ => ?_)
  refine lv_aload_n hx hb dX12_newChains_17 rfl (lv_at hl 1 rfl) ?_
  refine lv_iload_n hx hb dX12_newChains_18 rfl (lv_at hl 0 rfl) ?_
  have h_31 : 6 ≤ 17 := by decide
  have h_32 : 31 ≤ 64 := by decide
  refine va_new (ci := 1) (fs := [.null, .null, .int 0]) (C := RX1) (T := TX1) (N := 3) hx hb hts wh_X12_newChains_X1 tyX1 tyX1_ok hown (hts (.classLink RX12 180 RX1) (wm_X12_newChains 4 rfl)) (hts (.instantiable RX1 3) (wm_X12_newChains 5 rfl)) (hts (.initialized RX1) (wm_X12_newChains 6 rfl)) hK hP hD hS hA rfl (by decide +kernel) h_31 h_32 dX12_newChains_19 (fun q33 H hP hD hS => ?_)
  have hP : va_P (dC, dI) vwCl [(q5, .inl (cA6, 16, .inr (.inr (.inr (.inr (va_up (va_up (va_up (va_up (fun _ => none) 0 (some q9)) 1 (some q15)) 2 (some q21)) 3 (some q27))))))), (q9, .inr (1, [.null, .null, .int 0])), (q15, .inr (1, [.null, .null, .int 0])), (q21, .inr (1, [.null, .null, .int 0])), (q27, .inr (1, [.null, .null, .int 0])), (q33, .inr (1, [.null, .null, .int 0]))] H := hP
  have hD : va_D A [(q5, .inl (cA6, 16, .inr (.inr (.inr (.inr (va_up (va_up (va_up (va_up (fun _ => none) 0 (some q9)) 1 (some q15)) 2 (some q21)) 3 (some q27))))))), (q9, .inr (1, [.null, .null, .int 0])), (q15, .inr (1, [.null, .null, .int 0])), (q21, .inr (1, [.null, .null, .int 0])), (q27, .inr (1, [.null, .null, .int 0])), (q33, .inr (1, [.null, .null, .int 0]))] := hD
  refine W.widen (k := 6) (n := 31) (by decide) (by decide) ?_
  refine lv_dup hx hb dX12_newChains_22 rfl ?_
  have hPc := hP.sub (ws' := [(q33, .inr (1, [.null, .null, .int 0]))]) [5] rfl
  have hDc := hD.sub (ws' := [(q33, .inr (1, [.null, .null, .int 0]))]) [5] (by decide) rfl
  have hKc := hK.sub (tys' := []) [] rfl
  have hFc := va_free (wc := [(q33, .inr (1, [.null, .null, .int 0]))]) hD hS hA [5] rfl
  have h_34 : 6 ≤ 17 := by decide
  have h_35 : 31 ≤ 64 := by decide
  refine va_callv (va_runIN (As := []) (rest := [.ref q33, .int 4, .ref q5]) ⟨hx, hb, hml, hown, hts⟩ (c_X1_init l dC dI q33 _) ⟨va_cnB 0 hts wg_X12_newChains_X1_init rfl rfl rfl fN (hts (.initialized RX1) (wm_X12_newChains 6 rfl)) (by decide +kernel) ⟨Nat.le_of_ble_eq_true rfl, Nat.le_of_ble_eq_true rfl⟩, rfl, (hts (.instanceMethod yX1_init) (wm_X12_newChains 7 rfl))⟩ ⟨fun a U g mk q => by obtain ⟨q0, q1, qP, qK, qD⟩ := q; exact ⟨q0, q1, qP, va_K.moved (u := U) (U := U.calling g mk a) (Vm.Alike.refl U.vm) qK, qD⟩, fun U hU hW => ⟨rfl, by rw [hU], by rw [hU]; exact hPc, va_K.moved hW.alike hKc, hDc.weaken (fun _ _ _ _ => trivial)⟩⟩ rfl rfl hl.1 rfl (lv_room (Nat.le_of_ble_eq_true rfl)) dX12_newChains_23 ⟨h_34, h_35⟩) hS (fun q _ h => hFc q h) hFc (fun u36 t H1 locs ht hvm hw hB hz1 hk1 hS => ?_)
  obtain ⟨hP1, hK1, hD1⟩ := hB
  rw [ht] at hP1
  have hK1 := va_K.moved hvm.symm hK1
  obtain ⟨hP, hD⟩ := va_join (wr := [(q5, .inl (cA6, 16, .inr (.inr (.inr (.inr (va_up (va_up (va_up (va_up (fun _ => none) 0 (some q9)) 1 (some q15)) 2 (some q21)) 3 (some q27))))))), (q9, .inr (1, [.null, .null, .int 0])), (q15, .inr (1, [.null, .null, .int 0])), (q21, .inr (1, [.null, .null, .int 0])), (q27, .inr (1, [.null, .null, .int 0]))]) (w1 := [(q33, .inr (1, [.null, .null, .int 0]))]) hP hD [5] [0, 1, 2, 3, 4] rfl rfl (by decide) (by decide) hk1 hFc hP1 hD1
  have hK := (hK.sub (tys' := [(cA6, .object RX1)]) [0] rfl).app hK1
  generalize H1 = H at hP hS ⊢
  have hP : va_P (dC, dI) vwCl [(q5, .inl (cA6, 16, .inr (.inr (.inr (.inr (va_up (va_up (va_up (va_up (fun _ => none) 0 (some q9)) 1 (some q15)) 2 (some q21)) 3 (some q27))))))), (q9, .inr (1, [.null, .null, .int 0])), (q15, .inr (1, [.null, .null, .int 0])), (q21, .inr (1, [.null, .null, .int 0])), (q27, .inr (1, [.null, .null, .int 0])), (q33, .inr (1, [.null, .null, .int 0]))] H := hP
  have hD : va_D A [(q5, .inl (cA6, 16, .inr (.inr (.inr (.inr (va_up (va_up (va_up (va_up (fun _ => none) 0 (some q9)) 1 (some q15)) 2 (some q21)) 3 (some q27))))))), (q9, .inr (1, [.null, .null, .int 0])), (q15, .inr (1, [.null, .null, .int 0])), (q21, .inr (1, [.null, .null, .int 0])), (q27, .inr (1, [.null, .null, .int 0])), (q33, .inr (1, [.null, .null, .int 0]))] := hD
  have hK : va_K (dC, dI) vwCl [(cA6, .object RX1)] s := hK
  refine W.widen (k := 6) (n := 31) (by decide) (by decide) ?_
  refine va_astq hx hb hK hP hD hS 0 0 5 1 rfl rfl rfl rfl (by unfold vp_in; decide) dX12_newChains_26 (fun H locs hP hD hS => ?_)
  have hP : va_P (dC, dI) vwCl [(q5, .inl (cA6, 16, .inr (.inr (.inr (.inr (va_up (va_up (va_up (va_up (va_up (fun _ => none) 0 (some q9)) 1 (some q15)) 2 (some q21)) 3 (some q27)) 4 (some q33))))))), (q9, .inr (1, [.null, .null, .int 0])), (q15, .inr (1, [.null, .null, .int 0])), (q21, .inr (1, [.null, .null, .int 0])), (q27, .inr (1, [.null, .null, .int 0])), (q33, .inr (1, [.null, .null, .int 0]))] H := hP
  have hD : va_D A [(q5, .inl (cA6, 16, .inr (.inr (.inr (.inr (va_up (va_up (va_up (va_up (va_up (fun _ => none) 0 (some q9)) 1 (some q15)) 2 (some q21)) 3 (some q27)) 4 (some q33))))))), (q9, .inr (1, [.null, .null, .int 0])), (q15, .inr (1, [.null, .null, .int 0])), (q21, .inr (1, [.null, .null, .int 0])), (q27, .inr (1, [.null, .null, .int 0])), (q33, .inr (1, [.null, .null, .int 0]))] := hD
  refine lv_iinc (k := 0) (v := 5) (lv' := [(2, .int 5), (1, .ref q5), (0, .int 16)]) hx hb dX12_newChains_27 hl rfl (by decide) (by decide) rfl (fun ls hl => ?_)
  refine lv_goto (tgt := 11) hx hb dX12_newChains_30 (by decide) ?_
  refine lv_iload_n hx hb dX12_newChains_11 rfl (lv_at hl 0 rfl) ?_
  refine lv_aload_n hx hb dX12_newChains_12 rfl (lv_at hl 1 rfl) ?_
  refine va_alen (v := 16) hx hb hK hP 0 0 rfl rfl (show Int32.ofNat 16 = 16 by decide) dX12_newChains_13 ?_
  refine lv_icmp_ge (tgt := 33) hx hb dX12_newChains_14 (by decide) (fun h9 => absurd h9 (by decide)) (fun _ => ?_)
  refine lv_aload_n hx hb dX12_newChains_17 rfl (lv_at hl 1 rfl) ?_
  refine lv_iload_n hx hb dX12_newChains_18 rfl (lv_at hl 0 rfl) ?_
  have h_37 : 7 ≤ 17 := by decide
  have h_38 : 34 ≤ 64 := by decide
  refine va_new (ci := 1) (fs := [.null, .null, .int 0]) (C := RX1) (T := TX1) (N := 3) hx hb hts wh_X12_newChains_X1 tyX1 tyX1_ok hown (hts (.classLink RX12 180 RX1) (wm_X12_newChains 4 rfl)) (hts (.instantiable RX1 3) (wm_X12_newChains 5 rfl)) (hts (.initialized RX1) (wm_X12_newChains 6 rfl)) hK hP hD hS hA rfl (by decide +kernel) h_37 h_38 dX12_newChains_19 (fun q39 H hP hD hS => ?_)
  have hP : va_P (dC, dI) vwCl [(q5, .inl (cA6, 16, .inr (.inr (.inr (.inr (va_up (va_up (va_up (va_up (va_up (fun _ => none) 0 (some q9)) 1 (some q15)) 2 (some q21)) 3 (some q27)) 4 (some q33))))))), (q9, .inr (1, [.null, .null, .int 0])), (q15, .inr (1, [.null, .null, .int 0])), (q21, .inr (1, [.null, .null, .int 0])), (q27, .inr (1, [.null, .null, .int 0])), (q33, .inr (1, [.null, .null, .int 0])), (q39, .inr (1, [.null, .null, .int 0]))] H := hP
  have hD : va_D A [(q5, .inl (cA6, 16, .inr (.inr (.inr (.inr (va_up (va_up (va_up (va_up (va_up (fun _ => none) 0 (some q9)) 1 (some q15)) 2 (some q21)) 3 (some q27)) 4 (some q33))))))), (q9, .inr (1, [.null, .null, .int 0])), (q15, .inr (1, [.null, .null, .int 0])), (q21, .inr (1, [.null, .null, .int 0])), (q27, .inr (1, [.null, .null, .int 0])), (q33, .inr (1, [.null, .null, .int 0])), (q39, .inr (1, [.null, .null, .int 0]))] := hD
  refine W.widen (k := 7) (n := 34) (by decide) (by decide) ?_
  refine lv_dup hx hb dX12_newChains_22 rfl ?_
  have hPc := hP.sub (ws' := [(q39, .inr (1, [.null, .null, .int 0]))]) [6] rfl
  have hDc := hD.sub (ws' := [(q39, .inr (1, [.null, .null, .int 0]))]) [6] (by decide) rfl
  have hKc := hK.sub (tys' := []) [] rfl
  have hFc := va_free (wc := [(q39, .inr (1, [.null, .null, .int 0]))]) hD hS hA [6] rfl
  have h_40 : 7 ≤ 17 := by decide
  have h_41 : 34 ≤ 64 := by decide
  refine va_callv (va_runIN (As := []) (rest := [.ref q39, .int 5, .ref q5]) ⟨hx, hb, hml, hown, hts⟩ (c_X1_init l dC dI q39 _) ⟨va_cnB 0 hts wg_X12_newChains_X1_init rfl rfl rfl fN (hts (.initialized RX1) (wm_X12_newChains 6 rfl)) (by decide +kernel) ⟨Nat.le_of_ble_eq_true rfl, Nat.le_of_ble_eq_true rfl⟩, rfl, (hts (.instanceMethod yX1_init) (wm_X12_newChains 7 rfl))⟩ ⟨fun a U g mk q => by obtain ⟨q0, q1, qP, qK, qD⟩ := q; exact ⟨q0, q1, qP, va_K.moved (u := U) (U := U.calling g mk a) (Vm.Alike.refl U.vm) qK, qD⟩, fun U hU hW => ⟨rfl, by rw [hU], by rw [hU]; exact hPc, va_K.moved hW.alike hKc, hDc.weaken (fun _ _ _ _ => trivial)⟩⟩ rfl rfl hl.1 rfl (lv_room (Nat.le_of_ble_eq_true rfl)) dX12_newChains_23 ⟨h_40, h_41⟩) hS (fun q _ h => hFc q h) hFc (fun u42 t H1 locs ht hvm hw hB hz1 hk1 hS => ?_)
  obtain ⟨hP1, hK1, hD1⟩ := hB
  rw [ht] at hP1
  have hK1 := va_K.moved hvm.symm hK1
  obtain ⟨hP, hD⟩ := va_join (wr := [(q5, .inl (cA6, 16, .inr (.inr (.inr (.inr (va_up (va_up (va_up (va_up (va_up (fun _ => none) 0 (some q9)) 1 (some q15)) 2 (some q21)) 3 (some q27)) 4 (some q33))))))), (q9, .inr (1, [.null, .null, .int 0])), (q15, .inr (1, [.null, .null, .int 0])), (q21, .inr (1, [.null, .null, .int 0])), (q27, .inr (1, [.null, .null, .int 0])), (q33, .inr (1, [.null, .null, .int 0]))]) (w1 := [(q39, .inr (1, [.null, .null, .int 0]))]) hP hD [6] [0, 1, 2, 3, 4, 5] rfl rfl (by decide) (by decide) hk1 hFc hP1 hD1
  have hK := (hK.sub (tys' := [(cA6, .object RX1)]) [0] rfl).app hK1
  generalize H1 = H at hP hS ⊢
  have hP : va_P (dC, dI) vwCl [(q5, .inl (cA6, 16, .inr (.inr (.inr (.inr (va_up (va_up (va_up (va_up (va_up (fun _ => none) 0 (some q9)) 1 (some q15)) 2 (some q21)) 3 (some q27)) 4 (some q33))))))), (q9, .inr (1, [.null, .null, .int 0])), (q15, .inr (1, [.null, .null, .int 0])), (q21, .inr (1, [.null, .null, .int 0])), (q27, .inr (1, [.null, .null, .int 0])), (q33, .inr (1, [.null, .null, .int 0])), (q39, .inr (1, [.null, .null, .int 0]))] H := hP
  have hD : va_D A [(q5, .inl (cA6, 16, .inr (.inr (.inr (.inr (va_up (va_up (va_up (va_up (va_up (fun _ => none) 0 (some q9)) 1 (some q15)) 2 (some q21)) 3 (some q27)) 4 (some q33))))))), (q9, .inr (1, [.null, .null, .int 0])), (q15, .inr (1, [.null, .null, .int 0])), (q21, .inr (1, [.null, .null, .int 0])), (q27, .inr (1, [.null, .null, .int 0])), (q33, .inr (1, [.null, .null, .int 0])), (q39, .inr (1, [.null, .null, .int 0]))] := hD
  have hK : va_K (dC, dI) vwCl [(cA6, .object RX1)] s := hK
  refine W.widen (k := 7) (n := 34) (by decide) (by decide) ?_
  refine va_astq hx hb hK hP hD hS 0 0 6 1 rfl rfl rfl rfl (by unfold vp_in; decide) dX12_newChains_26 (fun H locs hP hD hS => ?_)
  have hP : va_P (dC, dI) vwCl [(q5, .inl (cA6, 16, .inr (.inr (.inr (.inr (va_up (va_up (va_up (va_up (va_up (va_up (fun _ => none) 0 (some q9)) 1 (some q15)) 2 (some q21)) 3 (some q27)) 4 (some q33)) 5 (some q39))))))), (q9, .inr (1, [.null, .null, .int 0])), (q15, .inr (1, [.null, .null, .int 0])), (q21, .inr (1, [.null, .null, .int 0])), (q27, .inr (1, [.null, .null, .int 0])), (q33, .inr (1, [.null, .null, .int 0])), (q39, .inr (1, [.null, .null, .int 0]))] H := hP
  have hD : va_D A [(q5, .inl (cA6, 16, .inr (.inr (.inr (.inr (va_up (va_up (va_up (va_up (va_up (va_up (fun _ => none) 0 (some q9)) 1 (some q15)) 2 (some q21)) 3 (some q27)) 4 (some q33)) 5 (some q39))))))), (q9, .inr (1, [.null, .null, .int 0])), (q15, .inr (1, [.null, .null, .int 0])), (q21, .inr (1, [.null, .null, .int 0])), (q27, .inr (1, [.null, .null, .int 0])), (q33, .inr (1, [.null, .null, .int 0])), (q39, .inr (1, [.null, .null, .int 0]))] := hD
  refine lv_iinc (k := 0) (v := 6) (lv' := [(2, .int 6), (1, .ref q5), (0, .int 16)]) hx hb dX12_newChains_27 hl rfl (by decide) (by decide) rfl (fun ls hl => ?_)
  refine lv_goto (tgt := 11) hx hb dX12_newChains_30 (by decide) ?_
  refine lv_iload_n hx hb dX12_newChains_11 rfl (lv_at hl 0 rfl) ?_
  refine lv_aload_n hx hb dX12_newChains_12 rfl (lv_at hl 1 rfl) ?_
  refine va_alen (v := 16) hx hb hK hP 0 0 rfl rfl (show Int32.ofNat 16 = 16 by decide) dX12_newChains_13 ?_
  refine lv_icmp_ge (tgt := 33) hx hb dX12_newChains_14 (by decide) (fun h9 => absurd h9 (by decide)) (fun _ => ?_)
  refine lv_aload_n hx hb dX12_newChains_17 rfl (lv_at hl 1 rfl) ?_
  refine lv_iload_n hx hb dX12_newChains_18 rfl (lv_at hl 0 rfl) ?_
  have h_43 : 8 ≤ 17 := by decide
  have h_44 : 37 ≤ 64 := by decide
  refine va_new (ci := 1) (fs := [.null, .null, .int 0]) (C := RX1) (T := TX1) (N := 3) hx hb hts wh_X12_newChains_X1 tyX1 tyX1_ok hown (hts (.classLink RX12 180 RX1) (wm_X12_newChains 4 rfl)) (hts (.instantiable RX1 3) (wm_X12_newChains 5 rfl)) (hts (.initialized RX1) (wm_X12_newChains 6 rfl)) hK hP hD hS hA rfl (by decide +kernel) h_43 h_44 dX12_newChains_19 (fun q45 H hP hD hS => ?_)
  have hP : va_P (dC, dI) vwCl [(q5, .inl (cA6, 16, .inr (.inr (.inr (.inr (va_up (va_up (va_up (va_up (va_up (va_up (fun _ => none) 0 (some q9)) 1 (some q15)) 2 (some q21)) 3 (some q27)) 4 (some q33)) 5 (some q39))))))), (q9, .inr (1, [.null, .null, .int 0])), (q15, .inr (1, [.null, .null, .int 0])), (q21, .inr (1, [.null, .null, .int 0])), (q27, .inr (1, [.null, .null, .int 0])), (q33, .inr (1, [.null, .null, .int 0])), (q39, .inr (1, [.null, .null, .int 0])), (q45, .inr (1, [.null, .null, .int 0]))] H := hP
  have hD : va_D A [(q5, .inl (cA6, 16, .inr (.inr (.inr (.inr (va_up (va_up (va_up (va_up (va_up (va_up (fun _ => none) 0 (some q9)) 1 (some q15)) 2 (some q21)) 3 (some q27)) 4 (some q33)) 5 (some q39))))))), (q9, .inr (1, [.null, .null, .int 0])), (q15, .inr (1, [.null, .null, .int 0])), (q21, .inr (1, [.null, .null, .int 0])), (q27, .inr (1, [.null, .null, .int 0])), (q33, .inr (1, [.null, .null, .int 0])), (q39, .inr (1, [.null, .null, .int 0])), (q45, .inr (1, [.null, .null, .int 0]))] := hD
  refine W.widen (k := 8) (n := 37) (by decide) (by decide) ?_
  refine lv_dup hx hb dX12_newChains_22 rfl ?_
  have hPc := hP.sub (ws' := [(q45, .inr (1, [.null, .null, .int 0]))]) [7] rfl
  have hDc := hD.sub (ws' := [(q45, .inr (1, [.null, .null, .int 0]))]) [7] (by decide) rfl
  have hKc := hK.sub (tys' := []) [] rfl
  have hFc := va_free (wc := [(q45, .inr (1, [.null, .null, .int 0]))]) hD hS hA [7] rfl
  have h_46 : 8 ≤ 17 := by decide
  have h_47 : 37 ≤ 64 := by decide
  refine va_callv (va_runIN (As := []) (rest := [.ref q45, .int 6, .ref q5]) ⟨hx, hb, hml, hown, hts⟩ (c_X1_init l dC dI q45 _) ⟨va_cnB 0 hts wg_X12_newChains_X1_init rfl rfl rfl fN (hts (.initialized RX1) (wm_X12_newChains 6 rfl)) (by decide +kernel) ⟨Nat.le_of_ble_eq_true rfl, Nat.le_of_ble_eq_true rfl⟩, rfl, (hts (.instanceMethod yX1_init) (wm_X12_newChains 7 rfl))⟩ ⟨fun a U g mk q => by obtain ⟨q0, q1, qP, qK, qD⟩ := q; exact ⟨q0, q1, qP, va_K.moved (u := U) (U := U.calling g mk a) (Vm.Alike.refl U.vm) qK, qD⟩, fun U hU hW => ⟨rfl, by rw [hU], by rw [hU]; exact hPc, va_K.moved hW.alike hKc, hDc.weaken (fun _ _ _ _ => trivial)⟩⟩ rfl rfl hl.1 rfl (lv_room (Nat.le_of_ble_eq_true rfl)) dX12_newChains_23 ⟨h_46, h_47⟩) hS (fun q _ h => hFc q h) hFc (fun u48 t H1 locs ht hvm hw hB hz1 hk1 hS => ?_)
  obtain ⟨hP1, hK1, hD1⟩ := hB
  rw [ht] at hP1
  have hK1 := va_K.moved hvm.symm hK1
  obtain ⟨hP, hD⟩ := va_join (wr := [(q5, .inl (cA6, 16, .inr (.inr (.inr (.inr (va_up (va_up (va_up (va_up (va_up (va_up (fun _ => none) 0 (some q9)) 1 (some q15)) 2 (some q21)) 3 (some q27)) 4 (some q33)) 5 (some q39))))))), (q9, .inr (1, [.null, .null, .int 0])), (q15, .inr (1, [.null, .null, .int 0])), (q21, .inr (1, [.null, .null, .int 0])), (q27, .inr (1, [.null, .null, .int 0])), (q33, .inr (1, [.null, .null, .int 0])), (q39, .inr (1, [.null, .null, .int 0]))]) (w1 := [(q45, .inr (1, [.null, .null, .int 0]))]) hP hD [7] [0, 1, 2, 3, 4, 5, 6] rfl rfl (by decide) (by decide) hk1 hFc hP1 hD1
  have hK := (hK.sub (tys' := [(cA6, .object RX1)]) [0] rfl).app hK1
  generalize H1 = H at hP hS ⊢
  have hP : va_P (dC, dI) vwCl [(q5, .inl (cA6, 16, .inr (.inr (.inr (.inr (va_up (va_up (va_up (va_up (va_up (va_up (fun _ => none) 0 (some q9)) 1 (some q15)) 2 (some q21)) 3 (some q27)) 4 (some q33)) 5 (some q39))))))), (q9, .inr (1, [.null, .null, .int 0])), (q15, .inr (1, [.null, .null, .int 0])), (q21, .inr (1, [.null, .null, .int 0])), (q27, .inr (1, [.null, .null, .int 0])), (q33, .inr (1, [.null, .null, .int 0])), (q39, .inr (1, [.null, .null, .int 0])), (q45, .inr (1, [.null, .null, .int 0]))] H := hP
  have hD : va_D A [(q5, .inl (cA6, 16, .inr (.inr (.inr (.inr (va_up (va_up (va_up (va_up (va_up (va_up (fun _ => none) 0 (some q9)) 1 (some q15)) 2 (some q21)) 3 (some q27)) 4 (some q33)) 5 (some q39))))))), (q9, .inr (1, [.null, .null, .int 0])), (q15, .inr (1, [.null, .null, .int 0])), (q21, .inr (1, [.null, .null, .int 0])), (q27, .inr (1, [.null, .null, .int 0])), (q33, .inr (1, [.null, .null, .int 0])), (q39, .inr (1, [.null, .null, .int 0])), (q45, .inr (1, [.null, .null, .int 0]))] := hD
  have hK : va_K (dC, dI) vwCl [(cA6, .object RX1)] s := hK
  refine W.widen (k := 8) (n := 37) (by decide) (by decide) ?_
  refine va_astq hx hb hK hP hD hS 0 0 7 1 rfl rfl rfl rfl (by unfold vp_in; decide) dX12_newChains_26 (fun H locs hP hD hS => ?_)
  have hP : va_P (dC, dI) vwCl [(q5, .inl (cA6, 16, .inr (.inr (.inr (.inr (va_up (va_up (va_up (va_up (va_up (va_up (va_up (fun _ => none) 0 (some q9)) 1 (some q15)) 2 (some q21)) 3 (some q27)) 4 (some q33)) 5 (some q39)) 6 (some q45))))))), (q9, .inr (1, [.null, .null, .int 0])), (q15, .inr (1, [.null, .null, .int 0])), (q21, .inr (1, [.null, .null, .int 0])), (q27, .inr (1, [.null, .null, .int 0])), (q33, .inr (1, [.null, .null, .int 0])), (q39, .inr (1, [.null, .null, .int 0])), (q45, .inr (1, [.null, .null, .int 0]))] H := hP
  have hD : va_D A [(q5, .inl (cA6, 16, .inr (.inr (.inr (.inr (va_up (va_up (va_up (va_up (va_up (va_up (va_up (fun _ => none) 0 (some q9)) 1 (some q15)) 2 (some q21)) 3 (some q27)) 4 (some q33)) 5 (some q39)) 6 (some q45))))))), (q9, .inr (1, [.null, .null, .int 0])), (q15, .inr (1, [.null, .null, .int 0])), (q21, .inr (1, [.null, .null, .int 0])), (q27, .inr (1, [.null, .null, .int 0])), (q33, .inr (1, [.null, .null, .int 0])), (q39, .inr (1, [.null, .null, .int 0])), (q45, .inr (1, [.null, .null, .int 0]))] := hD
  refine lv_iinc (k := 0) (v := 7) (lv' := [(2, .int 7), (1, .ref q5), (0, .int 16)]) hx hb dX12_newChains_27 hl rfl (by decide) (by decide) rfl (fun ls hl => ?_)
  refine lv_goto (tgt := 11) hx hb dX12_newChains_30 (by decide) ?_
  refine lv_iload_n hx hb dX12_newChains_11 rfl (lv_at hl 0 rfl) ?_
  refine lv_aload_n hx hb dX12_newChains_12 rfl (lv_at hl 1 rfl) ?_
  refine va_alen (v := 16) hx hb hK hP 0 0 rfl rfl (show Int32.ofNat 16 = 16 by decide) dX12_newChains_13 ?_
  refine lv_icmp_ge (tgt := 33) hx hb dX12_newChains_14 (by decide) (fun h9 => absurd h9 (by decide)) (fun _ => ?_)
  refine lv_aload_n hx hb dX12_newChains_17 rfl (lv_at hl 1 rfl) ?_
  refine lv_iload_n hx hb dX12_newChains_18 rfl (lv_at hl 0 rfl) ?_
  have h_49 : 9 ≤ 17 := by decide
  have h_50 : 40 ≤ 64 := by decide
  refine va_new (ci := 1) (fs := [.null, .null, .int 0]) (C := RX1) (T := TX1) (N := 3) hx hb hts wh_X12_newChains_X1 tyX1 tyX1_ok hown (hts (.classLink RX12 180 RX1) (wm_X12_newChains 4 rfl)) (hts (.instantiable RX1 3) (wm_X12_newChains 5 rfl)) (hts (.initialized RX1) (wm_X12_newChains 6 rfl)) hK hP hD hS hA rfl (by decide +kernel) h_49 h_50 dX12_newChains_19 (fun q51 H hP hD hS => ?_)
  have hP : va_P (dC, dI) vwCl [(q5, .inl (cA6, 16, .inr (.inr (.inr (.inr (va_up (va_up (va_up (va_up (va_up (va_up (va_up (fun _ => none) 0 (some q9)) 1 (some q15)) 2 (some q21)) 3 (some q27)) 4 (some q33)) 5 (some q39)) 6 (some q45))))))), (q9, .inr (1, [.null, .null, .int 0])), (q15, .inr (1, [.null, .null, .int 0])), (q21, .inr (1, [.null, .null, .int 0])), (q27, .inr (1, [.null, .null, .int 0])), (q33, .inr (1, [.null, .null, .int 0])), (q39, .inr (1, [.null, .null, .int 0])), (q45, .inr (1, [.null, .null, .int 0])), (q51, .inr (1, [.null, .null, .int 0]))] H := hP
  have hD : va_D A [(q5, .inl (cA6, 16, .inr (.inr (.inr (.inr (va_up (va_up (va_up (va_up (va_up (va_up (va_up (fun _ => none) 0 (some q9)) 1 (some q15)) 2 (some q21)) 3 (some q27)) 4 (some q33)) 5 (some q39)) 6 (some q45))))))), (q9, .inr (1, [.null, .null, .int 0])), (q15, .inr (1, [.null, .null, .int 0])), (q21, .inr (1, [.null, .null, .int 0])), (q27, .inr (1, [.null, .null, .int 0])), (q33, .inr (1, [.null, .null, .int 0])), (q39, .inr (1, [.null, .null, .int 0])), (q45, .inr (1, [.null, .null, .int 0])), (q51, .inr (1, [.null, .null, .int 0]))] := hD
  refine W.widen (k := 9) (n := 40) (by decide) (by decide) ?_
  refine lv_dup hx hb dX12_newChains_22 rfl ?_
  have hPc := hP.sub (ws' := [(q51, .inr (1, [.null, .null, .int 0]))]) [8] rfl
  have hDc := hD.sub (ws' := [(q51, .inr (1, [.null, .null, .int 0]))]) [8] (by decide) rfl
  have hKc := hK.sub (tys' := []) [] rfl
  have hFc := va_free (wc := [(q51, .inr (1, [.null, .null, .int 0]))]) hD hS hA [8] rfl
  have h_52 : 9 ≤ 17 := by decide
  have h_53 : 40 ≤ 64 := by decide
  refine va_callv (va_runIN (As := []) (rest := [.ref q51, .int 7, .ref q5]) ⟨hx, hb, hml, hown, hts⟩ (c_X1_init l dC dI q51 _) ⟨va_cnB 0 hts wg_X12_newChains_X1_init rfl rfl rfl fN (hts (.initialized RX1) (wm_X12_newChains 6 rfl)) (by decide +kernel) ⟨Nat.le_of_ble_eq_true rfl, Nat.le_of_ble_eq_true rfl⟩, rfl, (hts (.instanceMethod yX1_init) (wm_X12_newChains 7 rfl))⟩ ⟨fun a U g mk q => by obtain ⟨q0, q1, qP, qK, qD⟩ := q; exact ⟨q0, q1, qP, va_K.moved (u := U) (U := U.calling g mk a) (Vm.Alike.refl U.vm) qK, qD⟩, fun U hU hW => ⟨rfl, by rw [hU], by rw [hU]; exact hPc, va_K.moved hW.alike hKc, hDc.weaken (fun _ _ _ _ => trivial)⟩⟩ rfl rfl hl.1 rfl (lv_room (Nat.le_of_ble_eq_true rfl)) dX12_newChains_23 ⟨h_52, h_53⟩) hS (fun q _ h => hFc q h) hFc (fun u54 t H1 locs ht hvm hw hB hz1 hk1 hS => ?_)
  obtain ⟨hP1, hK1, hD1⟩ := hB
  rw [ht] at hP1
  have hK1 := va_K.moved hvm.symm hK1
  obtain ⟨hP, hD⟩ := va_join (wr := [(q5, .inl (cA6, 16, .inr (.inr (.inr (.inr (va_up (va_up (va_up (va_up (va_up (va_up (va_up (fun _ => none) 0 (some q9)) 1 (some q15)) 2 (some q21)) 3 (some q27)) 4 (some q33)) 5 (some q39)) 6 (some q45))))))), (q9, .inr (1, [.null, .null, .int 0])), (q15, .inr (1, [.null, .null, .int 0])), (q21, .inr (1, [.null, .null, .int 0])), (q27, .inr (1, [.null, .null, .int 0])), (q33, .inr (1, [.null, .null, .int 0])), (q39, .inr (1, [.null, .null, .int 0])), (q45, .inr (1, [.null, .null, .int 0]))]) (w1 := [(q51, .inr (1, [.null, .null, .int 0]))]) hP hD [8] [0, 1, 2, 3, 4, 5, 6, 7] rfl rfl (by decide) (by decide) hk1 hFc hP1 hD1
  have hK := (hK.sub (tys' := [(cA6, .object RX1)]) [0] rfl).app hK1
  generalize H1 = H at hP hS ⊢
  have hP : va_P (dC, dI) vwCl [(q5, .inl (cA6, 16, .inr (.inr (.inr (.inr (va_up (va_up (va_up (va_up (va_up (va_up (va_up (fun _ => none) 0 (some q9)) 1 (some q15)) 2 (some q21)) 3 (some q27)) 4 (some q33)) 5 (some q39)) 6 (some q45))))))), (q9, .inr (1, [.null, .null, .int 0])), (q15, .inr (1, [.null, .null, .int 0])), (q21, .inr (1, [.null, .null, .int 0])), (q27, .inr (1, [.null, .null, .int 0])), (q33, .inr (1, [.null, .null, .int 0])), (q39, .inr (1, [.null, .null, .int 0])), (q45, .inr (1, [.null, .null, .int 0])), (q51, .inr (1, [.null, .null, .int 0]))] H := hP
  have hD : va_D A [(q5, .inl (cA6, 16, .inr (.inr (.inr (.inr (va_up (va_up (va_up (va_up (va_up (va_up (va_up (fun _ => none) 0 (some q9)) 1 (some q15)) 2 (some q21)) 3 (some q27)) 4 (some q33)) 5 (some q39)) 6 (some q45))))))), (q9, .inr (1, [.null, .null, .int 0])), (q15, .inr (1, [.null, .null, .int 0])), (q21, .inr (1, [.null, .null, .int 0])), (q27, .inr (1, [.null, .null, .int 0])), (q33, .inr (1, [.null, .null, .int 0])), (q39, .inr (1, [.null, .null, .int 0])), (q45, .inr (1, [.null, .null, .int 0])), (q51, .inr (1, [.null, .null, .int 0]))] := hD
  have hK : va_K (dC, dI) vwCl [(cA6, .object RX1)] s := hK
  refine W.widen (k := 9) (n := 40) (by decide) (by decide) ?_
  refine va_astq hx hb hK hP hD hS 0 0 8 1 rfl rfl rfl rfl (by unfold vp_in; decide) dX12_newChains_26 (fun H locs hP hD hS => ?_)
  have hP : va_P (dC, dI) vwCl [(q5, .inl (cA6, 16, .inr (.inr (.inr (.inr (va_up (va_up (va_up (va_up (va_up (va_up (va_up (va_up (fun _ => none) 0 (some q9)) 1 (some q15)) 2 (some q21)) 3 (some q27)) 4 (some q33)) 5 (some q39)) 6 (some q45)) 7 (some q51))))))), (q9, .inr (1, [.null, .null, .int 0])), (q15, .inr (1, [.null, .null, .int 0])), (q21, .inr (1, [.null, .null, .int 0])), (q27, .inr (1, [.null, .null, .int 0])), (q33, .inr (1, [.null, .null, .int 0])), (q39, .inr (1, [.null, .null, .int 0])), (q45, .inr (1, [.null, .null, .int 0])), (q51, .inr (1, [.null, .null, .int 0]))] H := hP
  have hD : va_D A [(q5, .inl (cA6, 16, .inr (.inr (.inr (.inr (va_up (va_up (va_up (va_up (va_up (va_up (va_up (va_up (fun _ => none) 0 (some q9)) 1 (some q15)) 2 (some q21)) 3 (some q27)) 4 (some q33)) 5 (some q39)) 6 (some q45)) 7 (some q51))))))), (q9, .inr (1, [.null, .null, .int 0])), (q15, .inr (1, [.null, .null, .int 0])), (q21, .inr (1, [.null, .null, .int 0])), (q27, .inr (1, [.null, .null, .int 0])), (q33, .inr (1, [.null, .null, .int 0])), (q39, .inr (1, [.null, .null, .int 0])), (q45, .inr (1, [.null, .null, .int 0])), (q51, .inr (1, [.null, .null, .int 0]))] := hD
  refine lv_iinc (k := 0) (v := 8) (lv' := [(2, .int 8), (1, .ref q5), (0, .int 16)]) hx hb dX12_newChains_27 hl rfl (by decide) (by decide) rfl (fun ls hl => ?_)
  refine lv_goto (tgt := 11) hx hb dX12_newChains_30 (by decide) ?_
  refine lv_iload_n hx hb dX12_newChains_11 rfl (lv_at hl 0 rfl) ?_
  refine lv_aload_n hx hb dX12_newChains_12 rfl (lv_at hl 1 rfl) ?_
  refine va_alen (v := 16) hx hb hK hP 0 0 rfl rfl (show Int32.ofNat 16 = 16 by decide) dX12_newChains_13 ?_
  refine lv_icmp_ge (tgt := 33) hx hb dX12_newChains_14 (by decide) (fun h9 => absurd h9 (by decide)) (fun _ => ?_)
  refine lv_aload_n hx hb dX12_newChains_17 rfl (lv_at hl 1 rfl) ?_
  refine lv_iload_n hx hb dX12_newChains_18 rfl (lv_at hl 0 rfl) ?_
  have h_55 : 10 ≤ 17 := by decide
  have h_56 : 43 ≤ 64 := by decide
  refine va_new (ci := 1) (fs := [.null, .null, .int 0]) (C := RX1) (T := TX1) (N := 3) hx hb hts wh_X12_newChains_X1 tyX1 tyX1_ok hown (hts (.classLink RX12 180 RX1) (wm_X12_newChains 4 rfl)) (hts (.instantiable RX1 3) (wm_X12_newChains 5 rfl)) (hts (.initialized RX1) (wm_X12_newChains 6 rfl)) hK hP hD hS hA rfl (by decide +kernel) h_55 h_56 dX12_newChains_19 (fun q57 H hP hD hS => ?_)
  have hP : va_P (dC, dI) vwCl [(q5, .inl (cA6, 16, .inr (.inr (.inr (.inr (va_up (va_up (va_up (va_up (va_up (va_up (va_up (va_up (fun _ => none) 0 (some q9)) 1 (some q15)) 2 (some q21)) 3 (some q27)) 4 (some q33)) 5 (some q39)) 6 (some q45)) 7 (some q51))))))), (q9, .inr (1, [.null, .null, .int 0])), (q15, .inr (1, [.null, .null, .int 0])), (q21, .inr (1, [.null, .null, .int 0])), (q27, .inr (1, [.null, .null, .int 0])), (q33, .inr (1, [.null, .null, .int 0])), (q39, .inr (1, [.null, .null, .int 0])), (q45, .inr (1, [.null, .null, .int 0])), (q51, .inr (1, [.null, .null, .int 0])), (q57, .inr (1, [.null, .null, .int 0]))] H := hP
  have hD : va_D A [(q5, .inl (cA6, 16, .inr (.inr (.inr (.inr (va_up (va_up (va_up (va_up (va_up (va_up (va_up (va_up (fun _ => none) 0 (some q9)) 1 (some q15)) 2 (some q21)) 3 (some q27)) 4 (some q33)) 5 (some q39)) 6 (some q45)) 7 (some q51))))))), (q9, .inr (1, [.null, .null, .int 0])), (q15, .inr (1, [.null, .null, .int 0])), (q21, .inr (1, [.null, .null, .int 0])), (q27, .inr (1, [.null, .null, .int 0])), (q33, .inr (1, [.null, .null, .int 0])), (q39, .inr (1, [.null, .null, .int 0])), (q45, .inr (1, [.null, .null, .int 0])), (q51, .inr (1, [.null, .null, .int 0])), (q57, .inr (1, [.null, .null, .int 0]))] := hD
  refine W.widen (k := 10) (n := 43) (by decide) (by decide) ?_
  refine lv_dup hx hb dX12_newChains_22 rfl ?_
  have hPc := hP.sub (ws' := [(q57, .inr (1, [.null, .null, .int 0]))]) [9] rfl
  have hDc := hD.sub (ws' := [(q57, .inr (1, [.null, .null, .int 0]))]) [9] (by decide) rfl
  have hKc := hK.sub (tys' := []) [] rfl
  have hFc := va_free (wc := [(q57, .inr (1, [.null, .null, .int 0]))]) hD hS hA [9] rfl
  have h_58 : 10 ≤ 17 := by decide
  have h_59 : 43 ≤ 64 := by decide
  refine va_callv (va_runIN (As := []) (rest := [.ref q57, .int 8, .ref q5]) ⟨hx, hb, hml, hown, hts⟩ (c_X1_init l dC dI q57 _) ⟨va_cnB 0 hts wg_X12_newChains_X1_init rfl rfl rfl fN (hts (.initialized RX1) (wm_X12_newChains 6 rfl)) (by decide +kernel) ⟨Nat.le_of_ble_eq_true rfl, Nat.le_of_ble_eq_true rfl⟩, rfl, (hts (.instanceMethod yX1_init) (wm_X12_newChains 7 rfl))⟩ ⟨fun a U g mk q => by obtain ⟨q0, q1, qP, qK, qD⟩ := q; exact ⟨q0, q1, qP, va_K.moved (u := U) (U := U.calling g mk a) (Vm.Alike.refl U.vm) qK, qD⟩, fun U hU hW => ⟨rfl, by rw [hU], by rw [hU]; exact hPc, va_K.moved hW.alike hKc, hDc.weaken (fun _ _ _ _ => trivial)⟩⟩ rfl rfl hl.1 rfl (lv_room (Nat.le_of_ble_eq_true rfl)) dX12_newChains_23 ⟨h_58, h_59⟩) hS (fun q _ h => hFc q h) hFc (fun u60 t H1 locs ht hvm hw hB hz1 hk1 hS => ?_)
  obtain ⟨hP1, hK1, hD1⟩ := hB
  rw [ht] at hP1
  have hK1 := va_K.moved hvm.symm hK1
  obtain ⟨hP, hD⟩ := va_join (wr := [(q5, .inl (cA6, 16, .inr (.inr (.inr (.inr (va_up (va_up (va_up (va_up (va_up (va_up (va_up (va_up (fun _ => none) 0 (some q9)) 1 (some q15)) 2 (some q21)) 3 (some q27)) 4 (some q33)) 5 (some q39)) 6 (some q45)) 7 (some q51))))))), (q9, .inr (1, [.null, .null, .int 0])), (q15, .inr (1, [.null, .null, .int 0])), (q21, .inr (1, [.null, .null, .int 0])), (q27, .inr (1, [.null, .null, .int 0])), (q33, .inr (1, [.null, .null, .int 0])), (q39, .inr (1, [.null, .null, .int 0])), (q45, .inr (1, [.null, .null, .int 0])), (q51, .inr (1, [.null, .null, .int 0]))]) (w1 := [(q57, .inr (1, [.null, .null, .int 0]))]) hP hD [9] [0, 1, 2, 3, 4, 5, 6, 7, 8] rfl rfl (by decide) (by decide) hk1 hFc hP1 hD1
  have hK := (hK.sub (tys' := [(cA6, .object RX1)]) [0] rfl).app hK1
  generalize H1 = H at hP hS ⊢
  have hP : va_P (dC, dI) vwCl [(q5, .inl (cA6, 16, .inr (.inr (.inr (.inr (va_up (va_up (va_up (va_up (va_up (va_up (va_up (va_up (fun _ => none) 0 (some q9)) 1 (some q15)) 2 (some q21)) 3 (some q27)) 4 (some q33)) 5 (some q39)) 6 (some q45)) 7 (some q51))))))), (q9, .inr (1, [.null, .null, .int 0])), (q15, .inr (1, [.null, .null, .int 0])), (q21, .inr (1, [.null, .null, .int 0])), (q27, .inr (1, [.null, .null, .int 0])), (q33, .inr (1, [.null, .null, .int 0])), (q39, .inr (1, [.null, .null, .int 0])), (q45, .inr (1, [.null, .null, .int 0])), (q51, .inr (1, [.null, .null, .int 0])), (q57, .inr (1, [.null, .null, .int 0]))] H := hP
  have hD : va_D A [(q5, .inl (cA6, 16, .inr (.inr (.inr (.inr (va_up (va_up (va_up (va_up (va_up (va_up (va_up (va_up (fun _ => none) 0 (some q9)) 1 (some q15)) 2 (some q21)) 3 (some q27)) 4 (some q33)) 5 (some q39)) 6 (some q45)) 7 (some q51))))))), (q9, .inr (1, [.null, .null, .int 0])), (q15, .inr (1, [.null, .null, .int 0])), (q21, .inr (1, [.null, .null, .int 0])), (q27, .inr (1, [.null, .null, .int 0])), (q33, .inr (1, [.null, .null, .int 0])), (q39, .inr (1, [.null, .null, .int 0])), (q45, .inr (1, [.null, .null, .int 0])), (q51, .inr (1, [.null, .null, .int 0])), (q57, .inr (1, [.null, .null, .int 0]))] := hD
  have hK : va_K (dC, dI) vwCl [(cA6, .object RX1)] s := hK
  refine W.widen (k := 10) (n := 43) (by decide) (by decide) ?_
  refine va_astq hx hb hK hP hD hS 0 0 9 1 rfl rfl rfl rfl (by unfold vp_in; decide) dX12_newChains_26 (fun H locs hP hD hS => ?_)
  have hP : va_P (dC, dI) vwCl [(q5, .inl (cA6, 16, .inr (.inr (.inr (.inr (va_up (va_up (va_up (va_up (va_up (va_up (va_up (va_up (va_up (fun _ => none) 0 (some q9)) 1 (some q15)) 2 (some q21)) 3 (some q27)) 4 (some q33)) 5 (some q39)) 6 (some q45)) 7 (some q51)) 8 (some q57))))))), (q9, .inr (1, [.null, .null, .int 0])), (q15, .inr (1, [.null, .null, .int 0])), (q21, .inr (1, [.null, .null, .int 0])), (q27, .inr (1, [.null, .null, .int 0])), (q33, .inr (1, [.null, .null, .int 0])), (q39, .inr (1, [.null, .null, .int 0])), (q45, .inr (1, [.null, .null, .int 0])), (q51, .inr (1, [.null, .null, .int 0])), (q57, .inr (1, [.null, .null, .int 0]))] H := hP
  have hD : va_D A [(q5, .inl (cA6, 16, .inr (.inr (.inr (.inr (va_up (va_up (va_up (va_up (va_up (va_up (va_up (va_up (va_up (fun _ => none) 0 (some q9)) 1 (some q15)) 2 (some q21)) 3 (some q27)) 4 (some q33)) 5 (some q39)) 6 (some q45)) 7 (some q51)) 8 (some q57))))))), (q9, .inr (1, [.null, .null, .int 0])), (q15, .inr (1, [.null, .null, .int 0])), (q21, .inr (1, [.null, .null, .int 0])), (q27, .inr (1, [.null, .null, .int 0])), (q33, .inr (1, [.null, .null, .int 0])), (q39, .inr (1, [.null, .null, .int 0])), (q45, .inr (1, [.null, .null, .int 0])), (q51, .inr (1, [.null, .null, .int 0])), (q57, .inr (1, [.null, .null, .int 0]))] := hD
  refine lv_iinc (k := 0) (v := 9) (lv' := [(2, .int 9), (1, .ref q5), (0, .int 16)]) hx hb dX12_newChains_27 hl rfl (by decide) (by decide) rfl (fun ls hl => ?_)
  refine lv_goto (tgt := 11) hx hb dX12_newChains_30 (by decide) ?_
  refine lv_iload_n hx hb dX12_newChains_11 rfl (lv_at hl 0 rfl) ?_
  refine lv_aload_n hx hb dX12_newChains_12 rfl (lv_at hl 1 rfl) ?_
  refine va_alen (v := 16) hx hb hK hP 0 0 rfl rfl (show Int32.ofNat 16 = 16 by decide) dX12_newChains_13 ?_
  refine lv_icmp_ge (tgt := 33) hx hb dX12_newChains_14 (by decide) (fun h9 => absurd h9 (by decide)) (fun _ => ?_)
  refine lv_aload_n hx hb dX12_newChains_17 rfl (lv_at hl 1 rfl) ?_
  refine lv_iload_n hx hb dX12_newChains_18 rfl (lv_at hl 0 rfl) ?_
  have h_61 : 11 ≤ 17 := by decide
  have h_62 : 46 ≤ 64 := by decide
  refine va_new (ci := 1) (fs := [.null, .null, .int 0]) (C := RX1) (T := TX1) (N := 3) hx hb hts wh_X12_newChains_X1 tyX1 tyX1_ok hown (hts (.classLink RX12 180 RX1) (wm_X12_newChains 4 rfl)) (hts (.instantiable RX1 3) (wm_X12_newChains 5 rfl)) (hts (.initialized RX1) (wm_X12_newChains 6 rfl)) hK hP hD hS hA rfl (by decide +kernel) h_61 h_62 dX12_newChains_19 (fun q63 H hP hD hS => ?_)
  have hP : va_P (dC, dI) vwCl [(q5, .inl (cA6, 16, .inr (.inr (.inr (.inr (va_up (va_up (va_up (va_up (va_up (va_up (va_up (va_up (va_up (fun _ => none) 0 (some q9)) 1 (some q15)) 2 (some q21)) 3 (some q27)) 4 (some q33)) 5 (some q39)) 6 (some q45)) 7 (some q51)) 8 (some q57))))))), (q9, .inr (1, [.null, .null, .int 0])), (q15, .inr (1, [.null, .null, .int 0])), (q21, .inr (1, [.null, .null, .int 0])), (q27, .inr (1, [.null, .null, .int 0])), (q33, .inr (1, [.null, .null, .int 0])), (q39, .inr (1, [.null, .null, .int 0])), (q45, .inr (1, [.null, .null, .int 0])), (q51, .inr (1, [.null, .null, .int 0])), (q57, .inr (1, [.null, .null, .int 0])), (q63, .inr (1, [.null, .null, .int 0]))] H := hP
  have hD : va_D A [(q5, .inl (cA6, 16, .inr (.inr (.inr (.inr (va_up (va_up (va_up (va_up (va_up (va_up (va_up (va_up (va_up (fun _ => none) 0 (some q9)) 1 (some q15)) 2 (some q21)) 3 (some q27)) 4 (some q33)) 5 (some q39)) 6 (some q45)) 7 (some q51)) 8 (some q57))))))), (q9, .inr (1, [.null, .null, .int 0])), (q15, .inr (1, [.null, .null, .int 0])), (q21, .inr (1, [.null, .null, .int 0])), (q27, .inr (1, [.null, .null, .int 0])), (q33, .inr (1, [.null, .null, .int 0])), (q39, .inr (1, [.null, .null, .int 0])), (q45, .inr (1, [.null, .null, .int 0])), (q51, .inr (1, [.null, .null, .int 0])), (q57, .inr (1, [.null, .null, .int 0])), (q63, .inr (1, [.null, .null, .int 0]))] := hD
  refine W.widen (k := 11) (n := 46) (by decide) (by decide) ?_
  refine lv_dup hx hb dX12_newChains_22 rfl ?_
  have hPc := hP.sub (ws' := [(q63, .inr (1, [.null, .null, .int 0]))]) [10] rfl
  have hDc := hD.sub (ws' := [(q63, .inr (1, [.null, .null, .int 0]))]) [10] (by decide) rfl
  have hKc := hK.sub (tys' := []) [] rfl
  have hFc := va_free (wc := [(q63, .inr (1, [.null, .null, .int 0]))]) hD hS hA [10] rfl
  have h_64 : 11 ≤ 17 := by decide
  have h_65 : 46 ≤ 64 := by decide
  refine va_callv (va_runIN (As := []) (rest := [.ref q63, .int 9, .ref q5]) ⟨hx, hb, hml, hown, hts⟩ (c_X1_init l dC dI q63 _) ⟨va_cnB 0 hts wg_X12_newChains_X1_init rfl rfl rfl fN (hts (.initialized RX1) (wm_X12_newChains 6 rfl)) (by decide +kernel) ⟨Nat.le_of_ble_eq_true rfl, Nat.le_of_ble_eq_true rfl⟩, rfl, (hts (.instanceMethod yX1_init) (wm_X12_newChains 7 rfl))⟩ ⟨fun a U g mk q => by obtain ⟨q0, q1, qP, qK, qD⟩ := q; exact ⟨q0, q1, qP, va_K.moved (u := U) (U := U.calling g mk a) (Vm.Alike.refl U.vm) qK, qD⟩, fun U hU hW => ⟨rfl, by rw [hU], by rw [hU]; exact hPc, va_K.moved hW.alike hKc, hDc.weaken (fun _ _ _ _ => trivial)⟩⟩ rfl rfl hl.1 rfl (lv_room (Nat.le_of_ble_eq_true rfl)) dX12_newChains_23 ⟨h_64, h_65⟩) hS (fun q _ h => hFc q h) hFc (fun u66 t H1 locs ht hvm hw hB hz1 hk1 hS => ?_)
  obtain ⟨hP1, hK1, hD1⟩ := hB
  rw [ht] at hP1
  have hK1 := va_K.moved hvm.symm hK1
  obtain ⟨hP, hD⟩ := va_join (wr := [(q5, .inl (cA6, 16, .inr (.inr (.inr (.inr (va_up (va_up (va_up (va_up (va_up (va_up (va_up (va_up (va_up (fun _ => none) 0 (some q9)) 1 (some q15)) 2 (some q21)) 3 (some q27)) 4 (some q33)) 5 (some q39)) 6 (some q45)) 7 (some q51)) 8 (some q57))))))), (q9, .inr (1, [.null, .null, .int 0])), (q15, .inr (1, [.null, .null, .int 0])), (q21, .inr (1, [.null, .null, .int 0])), (q27, .inr (1, [.null, .null, .int 0])), (q33, .inr (1, [.null, .null, .int 0])), (q39, .inr (1, [.null, .null, .int 0])), (q45, .inr (1, [.null, .null, .int 0])), (q51, .inr (1, [.null, .null, .int 0])), (q57, .inr (1, [.null, .null, .int 0]))]) (w1 := [(q63, .inr (1, [.null, .null, .int 0]))]) hP hD [10] [0, 1, 2, 3, 4, 5, 6, 7, 8, 9] rfl rfl (by decide) (by decide) hk1 hFc hP1 hD1
  have hK := (hK.sub (tys' := [(cA6, .object RX1)]) [0] rfl).app hK1
  generalize H1 = H at hP hS ⊢
  have hP : va_P (dC, dI) vwCl [(q5, .inl (cA6, 16, .inr (.inr (.inr (.inr (va_up (va_up (va_up (va_up (va_up (va_up (va_up (va_up (va_up (fun _ => none) 0 (some q9)) 1 (some q15)) 2 (some q21)) 3 (some q27)) 4 (some q33)) 5 (some q39)) 6 (some q45)) 7 (some q51)) 8 (some q57))))))), (q9, .inr (1, [.null, .null, .int 0])), (q15, .inr (1, [.null, .null, .int 0])), (q21, .inr (1, [.null, .null, .int 0])), (q27, .inr (1, [.null, .null, .int 0])), (q33, .inr (1, [.null, .null, .int 0])), (q39, .inr (1, [.null, .null, .int 0])), (q45, .inr (1, [.null, .null, .int 0])), (q51, .inr (1, [.null, .null, .int 0])), (q57, .inr (1, [.null, .null, .int 0])), (q63, .inr (1, [.null, .null, .int 0]))] H := hP
  have hD : va_D A [(q5, .inl (cA6, 16, .inr (.inr (.inr (.inr (va_up (va_up (va_up (va_up (va_up (va_up (va_up (va_up (va_up (fun _ => none) 0 (some q9)) 1 (some q15)) 2 (some q21)) 3 (some q27)) 4 (some q33)) 5 (some q39)) 6 (some q45)) 7 (some q51)) 8 (some q57))))))), (q9, .inr (1, [.null, .null, .int 0])), (q15, .inr (1, [.null, .null, .int 0])), (q21, .inr (1, [.null, .null, .int 0])), (q27, .inr (1, [.null, .null, .int 0])), (q33, .inr (1, [.null, .null, .int 0])), (q39, .inr (1, [.null, .null, .int 0])), (q45, .inr (1, [.null, .null, .int 0])), (q51, .inr (1, [.null, .null, .int 0])), (q57, .inr (1, [.null, .null, .int 0])), (q63, .inr (1, [.null, .null, .int 0]))] := hD
  have hK : va_K (dC, dI) vwCl [(cA6, .object RX1)] s := hK
  refine W.widen (k := 11) (n := 46) (by decide) (by decide) ?_
  refine va_astq hx hb hK hP hD hS 0 0 10 1 rfl rfl rfl rfl (by unfold vp_in; decide) dX12_newChains_26 (fun H locs hP hD hS => ?_)
  have hP : va_P (dC, dI) vwCl [(q5, .inl (cA6, 16, .inr (.inr (.inr (.inr (va_up (va_up (va_up (va_up (va_up (va_up (va_up (va_up (va_up (va_up (fun _ => none) 0 (some q9)) 1 (some q15)) 2 (some q21)) 3 (some q27)) 4 (some q33)) 5 (some q39)) 6 (some q45)) 7 (some q51)) 8 (some q57)) 9 (some q63))))))), (q9, .inr (1, [.null, .null, .int 0])), (q15, .inr (1, [.null, .null, .int 0])), (q21, .inr (1, [.null, .null, .int 0])), (q27, .inr (1, [.null, .null, .int 0])), (q33, .inr (1, [.null, .null, .int 0])), (q39, .inr (1, [.null, .null, .int 0])), (q45, .inr (1, [.null, .null, .int 0])), (q51, .inr (1, [.null, .null, .int 0])), (q57, .inr (1, [.null, .null, .int 0])), (q63, .inr (1, [.null, .null, .int 0]))] H := hP
  have hD : va_D A [(q5, .inl (cA6, 16, .inr (.inr (.inr (.inr (va_up (va_up (va_up (va_up (va_up (va_up (va_up (va_up (va_up (va_up (fun _ => none) 0 (some q9)) 1 (some q15)) 2 (some q21)) 3 (some q27)) 4 (some q33)) 5 (some q39)) 6 (some q45)) 7 (some q51)) 8 (some q57)) 9 (some q63))))))), (q9, .inr (1, [.null, .null, .int 0])), (q15, .inr (1, [.null, .null, .int 0])), (q21, .inr (1, [.null, .null, .int 0])), (q27, .inr (1, [.null, .null, .int 0])), (q33, .inr (1, [.null, .null, .int 0])), (q39, .inr (1, [.null, .null, .int 0])), (q45, .inr (1, [.null, .null, .int 0])), (q51, .inr (1, [.null, .null, .int 0])), (q57, .inr (1, [.null, .null, .int 0])), (q63, .inr (1, [.null, .null, .int 0]))] := hD
  refine lv_iinc (k := 0) (v := 10) (lv' := [(2, .int 10), (1, .ref q5), (0, .int 16)]) hx hb dX12_newChains_27 hl rfl (by decide) (by decide) rfl (fun ls hl => ?_)
  refine lv_goto (tgt := 11) hx hb dX12_newChains_30 (by decide) ?_
  refine lv_iload_n hx hb dX12_newChains_11 rfl (lv_at hl 0 rfl) ?_
  refine lv_aload_n hx hb dX12_newChains_12 rfl (lv_at hl 1 rfl) ?_
  refine va_alen (v := 16) hx hb hK hP 0 0 rfl rfl (show Int32.ofNat 16 = 16 by decide) dX12_newChains_13 ?_
  refine lv_icmp_ge (tgt := 33) hx hb dX12_newChains_14 (by decide) (fun h9 => absurd h9 (by decide)) (fun _ => ?_)
  refine lv_aload_n hx hb dX12_newChains_17 rfl (lv_at hl 1 rfl) ?_
  refine lv_iload_n hx hb dX12_newChains_18 rfl (lv_at hl 0 rfl) ?_
  have h_67 : 12 ≤ 17 := by decide
  have h_68 : 49 ≤ 64 := by decide
  refine va_new (ci := 1) (fs := [.null, .null, .int 0]) (C := RX1) (T := TX1) (N := 3) hx hb hts wh_X12_newChains_X1 tyX1 tyX1_ok hown (hts (.classLink RX12 180 RX1) (wm_X12_newChains 4 rfl)) (hts (.instantiable RX1 3) (wm_X12_newChains 5 rfl)) (hts (.initialized RX1) (wm_X12_newChains 6 rfl)) hK hP hD hS hA rfl (by decide +kernel) h_67 h_68 dX12_newChains_19 (fun q69 H hP hD hS => ?_)
  have hP : va_P (dC, dI) vwCl [(q5, .inl (cA6, 16, .inr (.inr (.inr (.inr (va_up (va_up (va_up (va_up (va_up (va_up (va_up (va_up (va_up (va_up (fun _ => none) 0 (some q9)) 1 (some q15)) 2 (some q21)) 3 (some q27)) 4 (some q33)) 5 (some q39)) 6 (some q45)) 7 (some q51)) 8 (some q57)) 9 (some q63))))))), (q9, .inr (1, [.null, .null, .int 0])), (q15, .inr (1, [.null, .null, .int 0])), (q21, .inr (1, [.null, .null, .int 0])), (q27, .inr (1, [.null, .null, .int 0])), (q33, .inr (1, [.null, .null, .int 0])), (q39, .inr (1, [.null, .null, .int 0])), (q45, .inr (1, [.null, .null, .int 0])), (q51, .inr (1, [.null, .null, .int 0])), (q57, .inr (1, [.null, .null, .int 0])), (q63, .inr (1, [.null, .null, .int 0])), (q69, .inr (1, [.null, .null, .int 0]))] H := hP
  have hD : va_D A [(q5, .inl (cA6, 16, .inr (.inr (.inr (.inr (va_up (va_up (va_up (va_up (va_up (va_up (va_up (va_up (va_up (va_up (fun _ => none) 0 (some q9)) 1 (some q15)) 2 (some q21)) 3 (some q27)) 4 (some q33)) 5 (some q39)) 6 (some q45)) 7 (some q51)) 8 (some q57)) 9 (some q63))))))), (q9, .inr (1, [.null, .null, .int 0])), (q15, .inr (1, [.null, .null, .int 0])), (q21, .inr (1, [.null, .null, .int 0])), (q27, .inr (1, [.null, .null, .int 0])), (q33, .inr (1, [.null, .null, .int 0])), (q39, .inr (1, [.null, .null, .int 0])), (q45, .inr (1, [.null, .null, .int 0])), (q51, .inr (1, [.null, .null, .int 0])), (q57, .inr (1, [.null, .null, .int 0])), (q63, .inr (1, [.null, .null, .int 0])), (q69, .inr (1, [.null, .null, .int 0]))] := hD
  refine W.widen (k := 12) (n := 49) (by decide) (by decide) ?_
  refine lv_dup hx hb dX12_newChains_22 rfl ?_
  have hPc := hP.sub (ws' := [(q69, .inr (1, [.null, .null, .int 0]))]) [11] rfl
  have hDc := hD.sub (ws' := [(q69, .inr (1, [.null, .null, .int 0]))]) [11] (by decide) rfl
  have hKc := hK.sub (tys' := []) [] rfl
  have hFc := va_free (wc := [(q69, .inr (1, [.null, .null, .int 0]))]) hD hS hA [11] rfl
  have h_70 : 12 ≤ 17 := by decide
  have h_71 : 49 ≤ 64 := by decide
  refine va_callv (va_runIN (As := []) (rest := [.ref q69, .int 10, .ref q5]) ⟨hx, hb, hml, hown, hts⟩ (c_X1_init l dC dI q69 _) ⟨va_cnB 0 hts wg_X12_newChains_X1_init rfl rfl rfl fN (hts (.initialized RX1) (wm_X12_newChains 6 rfl)) (by decide +kernel) ⟨Nat.le_of_ble_eq_true rfl, Nat.le_of_ble_eq_true rfl⟩, rfl, (hts (.instanceMethod yX1_init) (wm_X12_newChains 7 rfl))⟩ ⟨fun a U g mk q => by obtain ⟨q0, q1, qP, qK, qD⟩ := q; exact ⟨q0, q1, qP, va_K.moved (u := U) (U := U.calling g mk a) (Vm.Alike.refl U.vm) qK, qD⟩, fun U hU hW => ⟨rfl, by rw [hU], by rw [hU]; exact hPc, va_K.moved hW.alike hKc, hDc.weaken (fun _ _ _ _ => trivial)⟩⟩ rfl rfl hl.1 rfl (lv_room (Nat.le_of_ble_eq_true rfl)) dX12_newChains_23 ⟨h_70, h_71⟩) hS (fun q _ h => hFc q h) hFc (fun u72 t H1 locs ht hvm hw hB hz1 hk1 hS => ?_)
  obtain ⟨hP1, hK1, hD1⟩ := hB
  rw [ht] at hP1
  have hK1 := va_K.moved hvm.symm hK1
  obtain ⟨hP, hD⟩ := va_join (wr := [(q5, .inl (cA6, 16, .inr (.inr (.inr (.inr (va_up (va_up (va_up (va_up (va_up (va_up (va_up (va_up (va_up (va_up (fun _ => none) 0 (some q9)) 1 (some q15)) 2 (some q21)) 3 (some q27)) 4 (some q33)) 5 (some q39)) 6 (some q45)) 7 (some q51)) 8 (some q57)) 9 (some q63))))))), (q9, .inr (1, [.null, .null, .int 0])), (q15, .inr (1, [.null, .null, .int 0])), (q21, .inr (1, [.null, .null, .int 0])), (q27, .inr (1, [.null, .null, .int 0])), (q33, .inr (1, [.null, .null, .int 0])), (q39, .inr (1, [.null, .null, .int 0])), (q45, .inr (1, [.null, .null, .int 0])), (q51, .inr (1, [.null, .null, .int 0])), (q57, .inr (1, [.null, .null, .int 0])), (q63, .inr (1, [.null, .null, .int 0]))]) (w1 := [(q69, .inr (1, [.null, .null, .int 0]))]) hP hD [11] [0, 1, 2, 3, 4, 5, 6, 7, 8, 9, 10] rfl rfl (by decide) (by decide) hk1 hFc hP1 hD1
  have hK := (hK.sub (tys' := [(cA6, .object RX1)]) [0] rfl).app hK1
  generalize H1 = H at hP hS ⊢
  have hP : va_P (dC, dI) vwCl [(q5, .inl (cA6, 16, .inr (.inr (.inr (.inr (va_up (va_up (va_up (va_up (va_up (va_up (va_up (va_up (va_up (va_up (fun _ => none) 0 (some q9)) 1 (some q15)) 2 (some q21)) 3 (some q27)) 4 (some q33)) 5 (some q39)) 6 (some q45)) 7 (some q51)) 8 (some q57)) 9 (some q63))))))), (q9, .inr (1, [.null, .null, .int 0])), (q15, .inr (1, [.null, .null, .int 0])), (q21, .inr (1, [.null, .null, .int 0])), (q27, .inr (1, [.null, .null, .int 0])), (q33, .inr (1, [.null, .null, .int 0])), (q39, .inr (1, [.null, .null, .int 0])), (q45, .inr (1, [.null, .null, .int 0])), (q51, .inr (1, [.null, .null, .int 0])), (q57, .inr (1, [.null, .null, .int 0])), (q63, .inr (1, [.null, .null, .int 0])), (q69, .inr (1, [.null, .null, .int 0]))] H := hP
  have hD : va_D A [(q5, .inl (cA6, 16, .inr (.inr (.inr (.inr (va_up (va_up (va_up (va_up (va_up (va_up (va_up (va_up (va_up (va_up (fun _ => none) 0 (some q9)) 1 (some q15)) 2 (some q21)) 3 (some q27)) 4 (some q33)) 5 (some q39)) 6 (some q45)) 7 (some q51)) 8 (some q57)) 9 (some q63))))))), (q9, .inr (1, [.null, .null, .int 0])), (q15, .inr (1, [.null, .null, .int 0])), (q21, .inr (1, [.null, .null, .int 0])), (q27, .inr (1, [.null, .null, .int 0])), (q33, .inr (1, [.null, .null, .int 0])), (q39, .inr (1, [.null, .null, .int 0])), (q45, .inr (1, [.null, .null, .int 0])), (q51, .inr (1, [.null, .null, .int 0])), (q57, .inr (1, [.null, .null, .int 0])), (q63, .inr (1, [.null, .null, .int 0])), (q69, .inr (1, [.null, .null, .int 0]))] := hD
  have hK : va_K (dC, dI) vwCl [(cA6, .object RX1)] s := hK
  refine W.widen (k := 12) (n := 49) (by decide) (by decide) ?_
  refine va_astq hx hb hK hP hD hS 0 0 11 1 rfl rfl rfl rfl (by unfold vp_in; decide) dX12_newChains_26 (fun H locs hP hD hS => ?_)
  have hP : va_P (dC, dI) vwCl [(q5, .inl (cA6, 16, .inr (.inr (.inr (.inr (va_up (va_up (va_up (va_up (va_up (va_up (va_up (va_up (va_up (va_up (va_up (fun _ => none) 0 (some q9)) 1 (some q15)) 2 (some q21)) 3 (some q27)) 4 (some q33)) 5 (some q39)) 6 (some q45)) 7 (some q51)) 8 (some q57)) 9 (some q63)) 10 (some q69))))))), (q9, .inr (1, [.null, .null, .int 0])), (q15, .inr (1, [.null, .null, .int 0])), (q21, .inr (1, [.null, .null, .int 0])), (q27, .inr (1, [.null, .null, .int 0])), (q33, .inr (1, [.null, .null, .int 0])), (q39, .inr (1, [.null, .null, .int 0])), (q45, .inr (1, [.null, .null, .int 0])), (q51, .inr (1, [.null, .null, .int 0])), (q57, .inr (1, [.null, .null, .int 0])), (q63, .inr (1, [.null, .null, .int 0])), (q69, .inr (1, [.null, .null, .int 0]))] H := hP
  have hD : va_D A [(q5, .inl (cA6, 16, .inr (.inr (.inr (.inr (va_up (va_up (va_up (va_up (va_up (va_up (va_up (va_up (va_up (va_up (va_up (fun _ => none) 0 (some q9)) 1 (some q15)) 2 (some q21)) 3 (some q27)) 4 (some q33)) 5 (some q39)) 6 (some q45)) 7 (some q51)) 8 (some q57)) 9 (some q63)) 10 (some q69))))))), (q9, .inr (1, [.null, .null, .int 0])), (q15, .inr (1, [.null, .null, .int 0])), (q21, .inr (1, [.null, .null, .int 0])), (q27, .inr (1, [.null, .null, .int 0])), (q33, .inr (1, [.null, .null, .int 0])), (q39, .inr (1, [.null, .null, .int 0])), (q45, .inr (1, [.null, .null, .int 0])), (q51, .inr (1, [.null, .null, .int 0])), (q57, .inr (1, [.null, .null, .int 0])), (q63, .inr (1, [.null, .null, .int 0])), (q69, .inr (1, [.null, .null, .int 0]))] := hD
  refine lv_iinc (k := 0) (v := 11) (lv' := [(2, .int 11), (1, .ref q5), (0, .int 16)]) hx hb dX12_newChains_27 hl rfl (by decide) (by decide) rfl (fun ls hl => ?_)
  refine lv_goto (tgt := 11) hx hb dX12_newChains_30 (by decide) ?_
  refine lv_iload_n hx hb dX12_newChains_11 rfl (lv_at hl 0 rfl) ?_
  refine lv_aload_n hx hb dX12_newChains_12 rfl (lv_at hl 1 rfl) ?_
  refine va_alen (v := 16) hx hb hK hP 0 0 rfl rfl (show Int32.ofNat 16 = 16 by decide) dX12_newChains_13 ?_
  refine lv_icmp_ge (tgt := 33) hx hb dX12_newChains_14 (by decide) (fun h9 => absurd h9 (by decide)) (fun _ => ?_)
  refine lv_aload_n hx hb dX12_newChains_17 rfl (lv_at hl 1 rfl) ?_
  refine lv_iload_n hx hb dX12_newChains_18 rfl (lv_at hl 0 rfl) ?_
  have h_73 : 13 ≤ 17 := by decide
  have h_74 : 52 ≤ 64 := by decide
  refine va_new (ci := 1) (fs := [.null, .null, .int 0]) (C := RX1) (T := TX1) (N := 3) hx hb hts wh_X12_newChains_X1 tyX1 tyX1_ok hown (hts (.classLink RX12 180 RX1) (wm_X12_newChains 4 rfl)) (hts (.instantiable RX1 3) (wm_X12_newChains 5 rfl)) (hts (.initialized RX1) (wm_X12_newChains 6 rfl)) hK hP hD hS hA rfl (by decide +kernel) h_73 h_74 dX12_newChains_19 (fun q75 H hP hD hS => ?_)
  have hP : va_P (dC, dI) vwCl [(q5, .inl (cA6, 16, .inr (.inr (.inr (.inr (va_up (va_up (va_up (va_up (va_up (va_up (va_up (va_up (va_up (va_up (va_up (fun _ => none) 0 (some q9)) 1 (some q15)) 2 (some q21)) 3 (some q27)) 4 (some q33)) 5 (some q39)) 6 (some q45)) 7 (some q51)) 8 (some q57)) 9 (some q63)) 10 (some q69))))))), (q9, .inr (1, [.null, .null, .int 0])), (q15, .inr (1, [.null, .null, .int 0])), (q21, .inr (1, [.null, .null, .int 0])), (q27, .inr (1, [.null, .null, .int 0])), (q33, .inr (1, [.null, .null, .int 0])), (q39, .inr (1, [.null, .null, .int 0])), (q45, .inr (1, [.null, .null, .int 0])), (q51, .inr (1, [.null, .null, .int 0])), (q57, .inr (1, [.null, .null, .int 0])), (q63, .inr (1, [.null, .null, .int 0])), (q69, .inr (1, [.null, .null, .int 0])), (q75, .inr (1, [.null, .null, .int 0]))] H := hP
  have hD : va_D A [(q5, .inl (cA6, 16, .inr (.inr (.inr (.inr (va_up (va_up (va_up (va_up (va_up (va_up (va_up (va_up (va_up (va_up (va_up (fun _ => none) 0 (some q9)) 1 (some q15)) 2 (some q21)) 3 (some q27)) 4 (some q33)) 5 (some q39)) 6 (some q45)) 7 (some q51)) 8 (some q57)) 9 (some q63)) 10 (some q69))))))), (q9, .inr (1, [.null, .null, .int 0])), (q15, .inr (1, [.null, .null, .int 0])), (q21, .inr (1, [.null, .null, .int 0])), (q27, .inr (1, [.null, .null, .int 0])), (q33, .inr (1, [.null, .null, .int 0])), (q39, .inr (1, [.null, .null, .int 0])), (q45, .inr (1, [.null, .null, .int 0])), (q51, .inr (1, [.null, .null, .int 0])), (q57, .inr (1, [.null, .null, .int 0])), (q63, .inr (1, [.null, .null, .int 0])), (q69, .inr (1, [.null, .null, .int 0])), (q75, .inr (1, [.null, .null, .int 0]))] := hD
  refine W.widen (k := 13) (n := 52) (by decide) (by decide) ?_
  refine lv_dup hx hb dX12_newChains_22 rfl ?_
  have hPc := hP.sub (ws' := [(q75, .inr (1, [.null, .null, .int 0]))]) [12] rfl
  have hDc := hD.sub (ws' := [(q75, .inr (1, [.null, .null, .int 0]))]) [12] (by decide) rfl
  have hKc := hK.sub (tys' := []) [] rfl
  have hFc := va_free (wc := [(q75, .inr (1, [.null, .null, .int 0]))]) hD hS hA [12] rfl
  have h_76 : 13 ≤ 17 := by decide
  have h_77 : 52 ≤ 64 := by decide
  refine va_callv (va_runIN (As := []) (rest := [.ref q75, .int 11, .ref q5]) ⟨hx, hb, hml, hown, hts⟩ (c_X1_init l dC dI q75 _) ⟨va_cnB 0 hts wg_X12_newChains_X1_init rfl rfl rfl fN (hts (.initialized RX1) (wm_X12_newChains 6 rfl)) (by decide +kernel) ⟨Nat.le_of_ble_eq_true rfl, Nat.le_of_ble_eq_true rfl⟩, rfl, (hts (.instanceMethod yX1_init) (wm_X12_newChains 7 rfl))⟩ ⟨fun a U g mk q => by obtain ⟨q0, q1, qP, qK, qD⟩ := q; exact ⟨q0, q1, qP, va_K.moved (u := U) (U := U.calling g mk a) (Vm.Alike.refl U.vm) qK, qD⟩, fun U hU hW => ⟨rfl, by rw [hU], by rw [hU]; exact hPc, va_K.moved hW.alike hKc, hDc.weaken (fun _ _ _ _ => trivial)⟩⟩ rfl rfl hl.1 rfl (lv_room (Nat.le_of_ble_eq_true rfl)) dX12_newChains_23 ⟨h_76, h_77⟩) hS (fun q _ h => hFc q h) hFc (fun u78 t H1 locs ht hvm hw hB hz1 hk1 hS => ?_)
  obtain ⟨hP1, hK1, hD1⟩ := hB
  rw [ht] at hP1
  have hK1 := va_K.moved hvm.symm hK1
  obtain ⟨hP, hD⟩ := va_join (wr := [(q5, .inl (cA6, 16, .inr (.inr (.inr (.inr (va_up (va_up (va_up (va_up (va_up (va_up (va_up (va_up (va_up (va_up (va_up (fun _ => none) 0 (some q9)) 1 (some q15)) 2 (some q21)) 3 (some q27)) 4 (some q33)) 5 (some q39)) 6 (some q45)) 7 (some q51)) 8 (some q57)) 9 (some q63)) 10 (some q69))))))), (q9, .inr (1, [.null, .null, .int 0])), (q15, .inr (1, [.null, .null, .int 0])), (q21, .inr (1, [.null, .null, .int 0])), (q27, .inr (1, [.null, .null, .int 0])), (q33, .inr (1, [.null, .null, .int 0])), (q39, .inr (1, [.null, .null, .int 0])), (q45, .inr (1, [.null, .null, .int 0])), (q51, .inr (1, [.null, .null, .int 0])), (q57, .inr (1, [.null, .null, .int 0])), (q63, .inr (1, [.null, .null, .int 0])), (q69, .inr (1, [.null, .null, .int 0]))]) (w1 := [(q75, .inr (1, [.null, .null, .int 0]))]) hP hD [12] [0, 1, 2, 3, 4, 5, 6, 7, 8, 9, 10, 11] rfl rfl (by decide) (by decide) hk1 hFc hP1 hD1
  have hK := (hK.sub (tys' := [(cA6, .object RX1)]) [0] rfl).app hK1
  generalize H1 = H at hP hS ⊢
  have hP : va_P (dC, dI) vwCl [(q5, .inl (cA6, 16, .inr (.inr (.inr (.inr (va_up (va_up (va_up (va_up (va_up (va_up (va_up (va_up (va_up (va_up (va_up (fun _ => none) 0 (some q9)) 1 (some q15)) 2 (some q21)) 3 (some q27)) 4 (some q33)) 5 (some q39)) 6 (some q45)) 7 (some q51)) 8 (some q57)) 9 (some q63)) 10 (some q69))))))), (q9, .inr (1, [.null, .null, .int 0])), (q15, .inr (1, [.null, .null, .int 0])), (q21, .inr (1, [.null, .null, .int 0])), (q27, .inr (1, [.null, .null, .int 0])), (q33, .inr (1, [.null, .null, .int 0])), (q39, .inr (1, [.null, .null, .int 0])), (q45, .inr (1, [.null, .null, .int 0])), (q51, .inr (1, [.null, .null, .int 0])), (q57, .inr (1, [.null, .null, .int 0])), (q63, .inr (1, [.null, .null, .int 0])), (q69, .inr (1, [.null, .null, .int 0])), (q75, .inr (1, [.null, .null, .int 0]))] H := hP
  have hD : va_D A [(q5, .inl (cA6, 16, .inr (.inr (.inr (.inr (va_up (va_up (va_up (va_up (va_up (va_up (va_up (va_up (va_up (va_up (va_up (fun _ => none) 0 (some q9)) 1 (some q15)) 2 (some q21)) 3 (some q27)) 4 (some q33)) 5 (some q39)) 6 (some q45)) 7 (some q51)) 8 (some q57)) 9 (some q63)) 10 (some q69))))))), (q9, .inr (1, [.null, .null, .int 0])), (q15, .inr (1, [.null, .null, .int 0])), (q21, .inr (1, [.null, .null, .int 0])), (q27, .inr (1, [.null, .null, .int 0])), (q33, .inr (1, [.null, .null, .int 0])), (q39, .inr (1, [.null, .null, .int 0])), (q45, .inr (1, [.null, .null, .int 0])), (q51, .inr (1, [.null, .null, .int 0])), (q57, .inr (1, [.null, .null, .int 0])), (q63, .inr (1, [.null, .null, .int 0])), (q69, .inr (1, [.null, .null, .int 0])), (q75, .inr (1, [.null, .null, .int 0]))] := hD
  have hK : va_K (dC, dI) vwCl [(cA6, .object RX1)] s := hK
  refine W.widen (k := 13) (n := 52) (by decide) (by decide) ?_
  refine va_astq hx hb hK hP hD hS 0 0 12 1 rfl rfl rfl rfl (by unfold vp_in; decide) dX12_newChains_26 (fun H locs hP hD hS => ?_)
  have hP : va_P (dC, dI) vwCl [(q5, .inl (cA6, 16, .inr (.inr (.inr (.inr (va_up (va_up (va_up (va_up (va_up (va_up (va_up (va_up (va_up (va_up (va_up (va_up (fun _ => none) 0 (some q9)) 1 (some q15)) 2 (some q21)) 3 (some q27)) 4 (some q33)) 5 (some q39)) 6 (some q45)) 7 (some q51)) 8 (some q57)) 9 (some q63)) 10 (some q69)) 11 (some q75))))))), (q9, .inr (1, [.null, .null, .int 0])), (q15, .inr (1, [.null, .null, .int 0])), (q21, .inr (1, [.null, .null, .int 0])), (q27, .inr (1, [.null, .null, .int 0])), (q33, .inr (1, [.null, .null, .int 0])), (q39, .inr (1, [.null, .null, .int 0])), (q45, .inr (1, [.null, .null, .int 0])), (q51, .inr (1, [.null, .null, .int 0])), (q57, .inr (1, [.null, .null, .int 0])), (q63, .inr (1, [.null, .null, .int 0])), (q69, .inr (1, [.null, .null, .int 0])), (q75, .inr (1, [.null, .null, .int 0]))] H := hP
  have hD : va_D A [(q5, .inl (cA6, 16, .inr (.inr (.inr (.inr (va_up (va_up (va_up (va_up (va_up (va_up (va_up (va_up (va_up (va_up (va_up (va_up (fun _ => none) 0 (some q9)) 1 (some q15)) 2 (some q21)) 3 (some q27)) 4 (some q33)) 5 (some q39)) 6 (some q45)) 7 (some q51)) 8 (some q57)) 9 (some q63)) 10 (some q69)) 11 (some q75))))))), (q9, .inr (1, [.null, .null, .int 0])), (q15, .inr (1, [.null, .null, .int 0])), (q21, .inr (1, [.null, .null, .int 0])), (q27, .inr (1, [.null, .null, .int 0])), (q33, .inr (1, [.null, .null, .int 0])), (q39, .inr (1, [.null, .null, .int 0])), (q45, .inr (1, [.null, .null, .int 0])), (q51, .inr (1, [.null, .null, .int 0])), (q57, .inr (1, [.null, .null, .int 0])), (q63, .inr (1, [.null, .null, .int 0])), (q69, .inr (1, [.null, .null, .int 0])), (q75, .inr (1, [.null, .null, .int 0]))] := hD
  refine lv_iinc (k := 0) (v := 12) (lv' := [(2, .int 12), (1, .ref q5), (0, .int 16)]) hx hb dX12_newChains_27 hl rfl (by decide) (by decide) rfl (fun ls hl => ?_)
  refine lv_goto (tgt := 11) hx hb dX12_newChains_30 (by decide) ?_
  refine lv_iload_n hx hb dX12_newChains_11 rfl (lv_at hl 0 rfl) ?_
  refine lv_aload_n hx hb dX12_newChains_12 rfl (lv_at hl 1 rfl) ?_
  refine va_alen (v := 16) hx hb hK hP 0 0 rfl rfl (show Int32.ofNat 16 = 16 by decide) dX12_newChains_13 ?_
  refine lv_icmp_ge (tgt := 33) hx hb dX12_newChains_14 (by decide) (fun h9 => absurd h9 (by decide)) (fun _ => ?_)
  refine lv_aload_n hx hb dX12_newChains_17 rfl (lv_at hl 1 rfl) ?_
  refine lv_iload_n hx hb dX12_newChains_18 rfl (lv_at hl 0 rfl) ?_
  have h_79 : 14 ≤ 17 := by decide
  have h_80 : 55 ≤ 64 := by decide
  refine va_new (ci := 1) (fs := [.null, .null, .int 0]) (C := RX1) (T := TX1) (N := 3) hx hb hts wh_X12_newChains_X1 tyX1 tyX1_ok hown (hts (.classLink RX12 180 RX1) (wm_X12_newChains 4 rfl)) (hts (.instantiable RX1 3) (wm_X12_newChains 5 rfl)) (hts (.initialized RX1) (wm_X12_newChains 6 rfl)) hK hP hD hS hA rfl (by decide +kernel) h_79 h_80 dX12_newChains_19 (fun q81 H hP hD hS => ?_)
  have hP : va_P (dC, dI) vwCl [(q5, .inl (cA6, 16, .inr (.inr (.inr (.inr (va_up (va_up (va_up (va_up (va_up (va_up (va_up (va_up (va_up (va_up (va_up (va_up (fun _ => none) 0 (some q9)) 1 (some q15)) 2 (some q21)) 3 (some q27)) 4 (some q33)) 5 (some q39)) 6 (some q45)) 7 (some q51)) 8 (some q57)) 9 (some q63)) 10 (some q69)) 11 (some q75))))))), (q9, .inr (1, [.null, .null, .int 0])), (q15, .inr (1, [.null, .null, .int 0])), (q21, .inr (1, [.null, .null, .int 0])), (q27, .inr (1, [.null, .null, .int 0])), (q33, .inr (1, [.null, .null, .int 0])), (q39, .inr (1, [.null, .null, .int 0])), (q45, .inr (1, [.null, .null, .int 0])), (q51, .inr (1, [.null, .null, .int 0])), (q57, .inr (1, [.null, .null, .int 0])), (q63, .inr (1, [.null, .null, .int 0])), (q69, .inr (1, [.null, .null, .int 0])), (q75, .inr (1, [.null, .null, .int 0])), (q81, .inr (1, [.null, .null, .int 0]))] H := hP
  have hD : va_D A [(q5, .inl (cA6, 16, .inr (.inr (.inr (.inr (va_up (va_up (va_up (va_up (va_up (va_up (va_up (va_up (va_up (va_up (va_up (va_up (fun _ => none) 0 (some q9)) 1 (some q15)) 2 (some q21)) 3 (some q27)) 4 (some q33)) 5 (some q39)) 6 (some q45)) 7 (some q51)) 8 (some q57)) 9 (some q63)) 10 (some q69)) 11 (some q75))))))), (q9, .inr (1, [.null, .null, .int 0])), (q15, .inr (1, [.null, .null, .int 0])), (q21, .inr (1, [.null, .null, .int 0])), (q27, .inr (1, [.null, .null, .int 0])), (q33, .inr (1, [.null, .null, .int 0])), (q39, .inr (1, [.null, .null, .int 0])), (q45, .inr (1, [.null, .null, .int 0])), (q51, .inr (1, [.null, .null, .int 0])), (q57, .inr (1, [.null, .null, .int 0])), (q63, .inr (1, [.null, .null, .int 0])), (q69, .inr (1, [.null, .null, .int 0])), (q75, .inr (1, [.null, .null, .int 0])), (q81, .inr (1, [.null, .null, .int 0]))] := hD
  refine W.widen (k := 14) (n := 55) (by decide) (by decide) ?_
  refine lv_dup hx hb dX12_newChains_22 rfl ?_
  have hPc := hP.sub (ws' := [(q81, .inr (1, [.null, .null, .int 0]))]) [13] rfl
  have hDc := hD.sub (ws' := [(q81, .inr (1, [.null, .null, .int 0]))]) [13] (by decide) rfl
  have hKc := hK.sub (tys' := []) [] rfl
  have hFc := va_free (wc := [(q81, .inr (1, [.null, .null, .int 0]))]) hD hS hA [13] rfl
  have h_82 : 14 ≤ 17 := by decide
  have h_83 : 55 ≤ 64 := by decide
  refine va_callv (va_runIN (As := []) (rest := [.ref q81, .int 12, .ref q5]) ⟨hx, hb, hml, hown, hts⟩ (c_X1_init l dC dI q81 _) ⟨va_cnB 0 hts wg_X12_newChains_X1_init rfl rfl rfl fN (hts (.initialized RX1) (wm_X12_newChains 6 rfl)) (by decide +kernel) ⟨Nat.le_of_ble_eq_true rfl, Nat.le_of_ble_eq_true rfl⟩, rfl, (hts (.instanceMethod yX1_init) (wm_X12_newChains 7 rfl))⟩ ⟨fun a U g mk q => by obtain ⟨q0, q1, qP, qK, qD⟩ := q; exact ⟨q0, q1, qP, va_K.moved (u := U) (U := U.calling g mk a) (Vm.Alike.refl U.vm) qK, qD⟩, fun U hU hW => ⟨rfl, by rw [hU], by rw [hU]; exact hPc, va_K.moved hW.alike hKc, hDc.weaken (fun _ _ _ _ => trivial)⟩⟩ rfl rfl hl.1 rfl (lv_room (Nat.le_of_ble_eq_true rfl)) dX12_newChains_23 ⟨h_82, h_83⟩) hS (fun q _ h => hFc q h) hFc (fun u84 t H1 locs ht hvm hw hB hz1 hk1 hS => ?_)
  obtain ⟨hP1, hK1, hD1⟩ := hB
  rw [ht] at hP1
  have hK1 := va_K.moved hvm.symm hK1
  obtain ⟨hP, hD⟩ := va_join (wr := [(q5, .inl (cA6, 16, .inr (.inr (.inr (.inr (va_up (va_up (va_up (va_up (va_up (va_up (va_up (va_up (va_up (va_up (va_up (va_up (fun _ => none) 0 (some q9)) 1 (some q15)) 2 (some q21)) 3 (some q27)) 4 (some q33)) 5 (some q39)) 6 (some q45)) 7 (some q51)) 8 (some q57)) 9 (some q63)) 10 (some q69)) 11 (some q75))))))), (q9, .inr (1, [.null, .null, .int 0])), (q15, .inr (1, [.null, .null, .int 0])), (q21, .inr (1, [.null, .null, .int 0])), (q27, .inr (1, [.null, .null, .int 0])), (q33, .inr (1, [.null, .null, .int 0])), (q39, .inr (1, [.null, .null, .int 0])), (q45, .inr (1, [.null, .null, .int 0])), (q51, .inr (1, [.null, .null, .int 0])), (q57, .inr (1, [.null, .null, .int 0])), (q63, .inr (1, [.null, .null, .int 0])), (q69, .inr (1, [.null, .null, .int 0])), (q75, .inr (1, [.null, .null, .int 0]))]) (w1 := [(q81, .inr (1, [.null, .null, .int 0]))]) hP hD [13] [0, 1, 2, 3, 4, 5, 6, 7, 8, 9, 10, 11, 12] rfl rfl (by decide) (by decide) hk1 hFc hP1 hD1
  have hK := (hK.sub (tys' := [(cA6, .object RX1)]) [0] rfl).app hK1
  generalize H1 = H at hP hS ⊢
  have hP : va_P (dC, dI) vwCl [(q5, .inl (cA6, 16, .inr (.inr (.inr (.inr (va_up (va_up (va_up (va_up (va_up (va_up (va_up (va_up (va_up (va_up (va_up (va_up (fun _ => none) 0 (some q9)) 1 (some q15)) 2 (some q21)) 3 (some q27)) 4 (some q33)) 5 (some q39)) 6 (some q45)) 7 (some q51)) 8 (some q57)) 9 (some q63)) 10 (some q69)) 11 (some q75))))))), (q9, .inr (1, [.null, .null, .int 0])), (q15, .inr (1, [.null, .null, .int 0])), (q21, .inr (1, [.null, .null, .int 0])), (q27, .inr (1, [.null, .null, .int 0])), (q33, .inr (1, [.null, .null, .int 0])), (q39, .inr (1, [.null, .null, .int 0])), (q45, .inr (1, [.null, .null, .int 0])), (q51, .inr (1, [.null, .null, .int 0])), (q57, .inr (1, [.null, .null, .int 0])), (q63, .inr (1, [.null, .null, .int 0])), (q69, .inr (1, [.null, .null, .int 0])), (q75, .inr (1, [.null, .null, .int 0])), (q81, .inr (1, [.null, .null, .int 0]))] H := hP
  have hD : va_D A [(q5, .inl (cA6, 16, .inr (.inr (.inr (.inr (va_up (va_up (va_up (va_up (va_up (va_up (va_up (va_up (va_up (va_up (va_up (va_up (fun _ => none) 0 (some q9)) 1 (some q15)) 2 (some q21)) 3 (some q27)) 4 (some q33)) 5 (some q39)) 6 (some q45)) 7 (some q51)) 8 (some q57)) 9 (some q63)) 10 (some q69)) 11 (some q75))))))), (q9, .inr (1, [.null, .null, .int 0])), (q15, .inr (1, [.null, .null, .int 0])), (q21, .inr (1, [.null, .null, .int 0])), (q27, .inr (1, [.null, .null, .int 0])), (q33, .inr (1, [.null, .null, .int 0])), (q39, .inr (1, [.null, .null, .int 0])), (q45, .inr (1, [.null, .null, .int 0])), (q51, .inr (1, [.null, .null, .int 0])), (q57, .inr (1, [.null, .null, .int 0])), (q63, .inr (1, [.null, .null, .int 0])), (q69, .inr (1, [.null, .null, .int 0])), (q75, .inr (1, [.null, .null, .int 0])), (q81, .inr (1, [.null, .null, .int 0]))] := hD
  have hK : va_K (dC, dI) vwCl [(cA6, .object RX1)] s := hK
  refine W.widen (k := 14) (n := 55) (by decide) (by decide) ?_
  refine va_astq hx hb hK hP hD hS 0 0 13 1 rfl rfl rfl rfl (by unfold vp_in; decide) dX12_newChains_26 (fun H locs hP hD hS => ?_)
  have hP : va_P (dC, dI) vwCl [(q5, .inl (cA6, 16, .inr (.inr (.inr (.inr (va_up (va_up (va_up (va_up (va_up (va_up (va_up (va_up (va_up (va_up (va_up (va_up (va_up (fun _ => none) 0 (some q9)) 1 (some q15)) 2 (some q21)) 3 (some q27)) 4 (some q33)) 5 (some q39)) 6 (some q45)) 7 (some q51)) 8 (some q57)) 9 (some q63)) 10 (some q69)) 11 (some q75)) 12 (some q81))))))), (q9, .inr (1, [.null, .null, .int 0])), (q15, .inr (1, [.null, .null, .int 0])), (q21, .inr (1, [.null, .null, .int 0])), (q27, .inr (1, [.null, .null, .int 0])), (q33, .inr (1, [.null, .null, .int 0])), (q39, .inr (1, [.null, .null, .int 0])), (q45, .inr (1, [.null, .null, .int 0])), (q51, .inr (1, [.null, .null, .int 0])), (q57, .inr (1, [.null, .null, .int 0])), (q63, .inr (1, [.null, .null, .int 0])), (q69, .inr (1, [.null, .null, .int 0])), (q75, .inr (1, [.null, .null, .int 0])), (q81, .inr (1, [.null, .null, .int 0]))] H := hP
  have hD : va_D A [(q5, .inl (cA6, 16, .inr (.inr (.inr (.inr (va_up (va_up (va_up (va_up (va_up (va_up (va_up (va_up (va_up (va_up (va_up (va_up (va_up (fun _ => none) 0 (some q9)) 1 (some q15)) 2 (some q21)) 3 (some q27)) 4 (some q33)) 5 (some q39)) 6 (some q45)) 7 (some q51)) 8 (some q57)) 9 (some q63)) 10 (some q69)) 11 (some q75)) 12 (some q81))))))), (q9, .inr (1, [.null, .null, .int 0])), (q15, .inr (1, [.null, .null, .int 0])), (q21, .inr (1, [.null, .null, .int 0])), (q27, .inr (1, [.null, .null, .int 0])), (q33, .inr (1, [.null, .null, .int 0])), (q39, .inr (1, [.null, .null, .int 0])), (q45, .inr (1, [.null, .null, .int 0])), (q51, .inr (1, [.null, .null, .int 0])), (q57, .inr (1, [.null, .null, .int 0])), (q63, .inr (1, [.null, .null, .int 0])), (q69, .inr (1, [.null, .null, .int 0])), (q75, .inr (1, [.null, .null, .int 0])), (q81, .inr (1, [.null, .null, .int 0]))] := hD
  refine lv_iinc (k := 0) (v := 13) (lv' := [(2, .int 13), (1, .ref q5), (0, .int 16)]) hx hb dX12_newChains_27 hl rfl (by decide) (by decide) rfl (fun ls hl => ?_)
  refine lv_goto (tgt := 11) hx hb dX12_newChains_30 (by decide) ?_
  refine lv_iload_n hx hb dX12_newChains_11 rfl (lv_at hl 0 rfl) ?_
  refine lv_aload_n hx hb dX12_newChains_12 rfl (lv_at hl 1 rfl) ?_
  refine va_alen (v := 16) hx hb hK hP 0 0 rfl rfl (show Int32.ofNat 16 = 16 by decide) dX12_newChains_13 ?_
  refine lv_icmp_ge (tgt := 33) hx hb dX12_newChains_14 (by decide) (fun h9 => absurd h9 (by decide)) (fun _ => ?_)
  refine lv_aload_n hx hb dX12_newChains_17 rfl (lv_at hl 1 rfl) ?_
  refine lv_iload_n hx hb dX12_newChains_18 rfl (lv_at hl 0 rfl) ?_
  have h_85 : 15 ≤ 17 := by decide
  have h_86 : 58 ≤ 64 := by decide
  refine va_new (ci := 1) (fs := [.null, .null, .int 0]) (C := RX1) (T := TX1) (N := 3) hx hb hts wh_X12_newChains_X1 tyX1 tyX1_ok hown (hts (.classLink RX12 180 RX1) (wm_X12_newChains 4 rfl)) (hts (.instantiable RX1 3) (wm_X12_newChains 5 rfl)) (hts (.initialized RX1) (wm_X12_newChains 6 rfl)) hK hP hD hS hA rfl (by decide +kernel) h_85 h_86 dX12_newChains_19 (fun q87 H hP hD hS => ?_)
  have hP : va_P (dC, dI) vwCl [(q5, .inl (cA6, 16, .inr (.inr (.inr (.inr (va_up (va_up (va_up (va_up (va_up (va_up (va_up (va_up (va_up (va_up (va_up (va_up (va_up (fun _ => none) 0 (some q9)) 1 (some q15)) 2 (some q21)) 3 (some q27)) 4 (some q33)) 5 (some q39)) 6 (some q45)) 7 (some q51)) 8 (some q57)) 9 (some q63)) 10 (some q69)) 11 (some q75)) 12 (some q81))))))), (q9, .inr (1, [.null, .null, .int 0])), (q15, .inr (1, [.null, .null, .int 0])), (q21, .inr (1, [.null, .null, .int 0])), (q27, .inr (1, [.null, .null, .int 0])), (q33, .inr (1, [.null, .null, .int 0])), (q39, .inr (1, [.null, .null, .int 0])), (q45, .inr (1, [.null, .null, .int 0])), (q51, .inr (1, [.null, .null, .int 0])), (q57, .inr (1, [.null, .null, .int 0])), (q63, .inr (1, [.null, .null, .int 0])), (q69, .inr (1, [.null, .null, .int 0])), (q75, .inr (1, [.null, .null, .int 0])), (q81, .inr (1, [.null, .null, .int 0])), (q87, .inr (1, [.null, .null, .int 0]))] H := hP
  have hD : va_D A [(q5, .inl (cA6, 16, .inr (.inr (.inr (.inr (va_up (va_up (va_up (va_up (va_up (va_up (va_up (va_up (va_up (va_up (va_up (va_up (va_up (fun _ => none) 0 (some q9)) 1 (some q15)) 2 (some q21)) 3 (some q27)) 4 (some q33)) 5 (some q39)) 6 (some q45)) 7 (some q51)) 8 (some q57)) 9 (some q63)) 10 (some q69)) 11 (some q75)) 12 (some q81))))))), (q9, .inr (1, [.null, .null, .int 0])), (q15, .inr (1, [.null, .null, .int 0])), (q21, .inr (1, [.null, .null, .int 0])), (q27, .inr (1, [.null, .null, .int 0])), (q33, .inr (1, [.null, .null, .int 0])), (q39, .inr (1, [.null, .null, .int 0])), (q45, .inr (1, [.null, .null, .int 0])), (q51, .inr (1, [.null, .null, .int 0])), (q57, .inr (1, [.null, .null, .int 0])), (q63, .inr (1, [.null, .null, .int 0])), (q69, .inr (1, [.null, .null, .int 0])), (q75, .inr (1, [.null, .null, .int 0])), (q81, .inr (1, [.null, .null, .int 0])), (q87, .inr (1, [.null, .null, .int 0]))] := hD
  refine W.widen (k := 15) (n := 58) (by decide) (by decide) ?_
  refine lv_dup hx hb dX12_newChains_22 rfl ?_
  have hPc := hP.sub (ws' := [(q87, .inr (1, [.null, .null, .int 0]))]) [14] rfl
  have hDc := hD.sub (ws' := [(q87, .inr (1, [.null, .null, .int 0]))]) [14] (by decide) rfl
  have hKc := hK.sub (tys' := []) [] rfl
  have hFc := va_free (wc := [(q87, .inr (1, [.null, .null, .int 0]))]) hD hS hA [14] rfl
  have h_88 : 15 ≤ 17 := by decide
  have h_89 : 58 ≤ 64 := by decide
  refine va_callv (va_runIN (As := []) (rest := [.ref q87, .int 13, .ref q5]) ⟨hx, hb, hml, hown, hts⟩ (c_X1_init l dC dI q87 _) ⟨va_cnB 0 hts wg_X12_newChains_X1_init rfl rfl rfl fN (hts (.initialized RX1) (wm_X12_newChains 6 rfl)) (by decide +kernel) ⟨Nat.le_of_ble_eq_true rfl, Nat.le_of_ble_eq_true rfl⟩, rfl, (hts (.instanceMethod yX1_init) (wm_X12_newChains 7 rfl))⟩ ⟨fun a U g mk q => by obtain ⟨q0, q1, qP, qK, qD⟩ := q; exact ⟨q0, q1, qP, va_K.moved (u := U) (U := U.calling g mk a) (Vm.Alike.refl U.vm) qK, qD⟩, fun U hU hW => ⟨rfl, by rw [hU], by rw [hU]; exact hPc, va_K.moved hW.alike hKc, hDc.weaken (fun _ _ _ _ => trivial)⟩⟩ rfl rfl hl.1 rfl (lv_room (Nat.le_of_ble_eq_true rfl)) dX12_newChains_23 ⟨h_88, h_89⟩) hS (fun q _ h => hFc q h) hFc (fun u90 t H1 locs ht hvm hw hB hz1 hk1 hS => ?_)
  obtain ⟨hP1, hK1, hD1⟩ := hB
  rw [ht] at hP1
  have hK1 := va_K.moved hvm.symm hK1
  obtain ⟨hP, hD⟩ := va_join (wr := [(q5, .inl (cA6, 16, .inr (.inr (.inr (.inr (va_up (va_up (va_up (va_up (va_up (va_up (va_up (va_up (va_up (va_up (va_up (va_up (va_up (fun _ => none) 0 (some q9)) 1 (some q15)) 2 (some q21)) 3 (some q27)) 4 (some q33)) 5 (some q39)) 6 (some q45)) 7 (some q51)) 8 (some q57)) 9 (some q63)) 10 (some q69)) 11 (some q75)) 12 (some q81))))))), (q9, .inr (1, [.null, .null, .int 0])), (q15, .inr (1, [.null, .null, .int 0])), (q21, .inr (1, [.null, .null, .int 0])), (q27, .inr (1, [.null, .null, .int 0])), (q33, .inr (1, [.null, .null, .int 0])), (q39, .inr (1, [.null, .null, .int 0])), (q45, .inr (1, [.null, .null, .int 0])), (q51, .inr (1, [.null, .null, .int 0])), (q57, .inr (1, [.null, .null, .int 0])), (q63, .inr (1, [.null, .null, .int 0])), (q69, .inr (1, [.null, .null, .int 0])), (q75, .inr (1, [.null, .null, .int 0])), (q81, .inr (1, [.null, .null, .int 0]))]) (w1 := [(q87, .inr (1, [.null, .null, .int 0]))]) hP hD [14] [0, 1, 2, 3, 4, 5, 6, 7, 8, 9, 10, 11, 12, 13] rfl rfl (by decide) (by decide) hk1 hFc hP1 hD1
  have hK := (hK.sub (tys' := [(cA6, .object RX1)]) [0] rfl).app hK1
  generalize H1 = H at hP hS ⊢
  have hP : va_P (dC, dI) vwCl [(q5, .inl (cA6, 16, .inr (.inr (.inr (.inr (va_up (va_up (va_up (va_up (va_up (va_up (va_up (va_up (va_up (va_up (va_up (va_up (va_up (fun _ => none) 0 (some q9)) 1 (some q15)) 2 (some q21)) 3 (some q27)) 4 (some q33)) 5 (some q39)) 6 (some q45)) 7 (some q51)) 8 (some q57)) 9 (some q63)) 10 (some q69)) 11 (some q75)) 12 (some q81))))))), (q9, .inr (1, [.null, .null, .int 0])), (q15, .inr (1, [.null, .null, .int 0])), (q21, .inr (1, [.null, .null, .int 0])), (q27, .inr (1, [.null, .null, .int 0])), (q33, .inr (1, [.null, .null, .int 0])), (q39, .inr (1, [.null, .null, .int 0])), (q45, .inr (1, [.null, .null, .int 0])), (q51, .inr (1, [.null, .null, .int 0])), (q57, .inr (1, [.null, .null, .int 0])), (q63, .inr (1, [.null, .null, .int 0])), (q69, .inr (1, [.null, .null, .int 0])), (q75, .inr (1, [.null, .null, .int 0])), (q81, .inr (1, [.null, .null, .int 0])), (q87, .inr (1, [.null, .null, .int 0]))] H := hP
  have hD : va_D A [(q5, .inl (cA6, 16, .inr (.inr (.inr (.inr (va_up (va_up (va_up (va_up (va_up (va_up (va_up (va_up (va_up (va_up (va_up (va_up (va_up (fun _ => none) 0 (some q9)) 1 (some q15)) 2 (some q21)) 3 (some q27)) 4 (some q33)) 5 (some q39)) 6 (some q45)) 7 (some q51)) 8 (some q57)) 9 (some q63)) 10 (some q69)) 11 (some q75)) 12 (some q81))))))), (q9, .inr (1, [.null, .null, .int 0])), (q15, .inr (1, [.null, .null, .int 0])), (q21, .inr (1, [.null, .null, .int 0])), (q27, .inr (1, [.null, .null, .int 0])), (q33, .inr (1, [.null, .null, .int 0])), (q39, .inr (1, [.null, .null, .int 0])), (q45, .inr (1, [.null, .null, .int 0])), (q51, .inr (1, [.null, .null, .int 0])), (q57, .inr (1, [.null, .null, .int 0])), (q63, .inr (1, [.null, .null, .int 0])), (q69, .inr (1, [.null, .null, .int 0])), (q75, .inr (1, [.null, .null, .int 0])), (q81, .inr (1, [.null, .null, .int 0])), (q87, .inr (1, [.null, .null, .int 0]))] := hD
  have hK : va_K (dC, dI) vwCl [(cA6, .object RX1)] s := hK
  refine W.widen (k := 15) (n := 58) (by decide) (by decide) ?_
  refine va_astq hx hb hK hP hD hS 0 0 14 1 rfl rfl rfl rfl (by unfold vp_in; decide) dX12_newChains_26 (fun H locs hP hD hS => ?_)
  have hP : va_P (dC, dI) vwCl [(q5, .inl (cA6, 16, .inr (.inr (.inr (.inr (va_up (va_up (va_up (va_up (va_up (va_up (va_up (va_up (va_up (va_up (va_up (va_up (va_up (va_up (fun _ => none) 0 (some q9)) 1 (some q15)) 2 (some q21)) 3 (some q27)) 4 (some q33)) 5 (some q39)) 6 (some q45)) 7 (some q51)) 8 (some q57)) 9 (some q63)) 10 (some q69)) 11 (some q75)) 12 (some q81)) 13 (some q87))))))), (q9, .inr (1, [.null, .null, .int 0])), (q15, .inr (1, [.null, .null, .int 0])), (q21, .inr (1, [.null, .null, .int 0])), (q27, .inr (1, [.null, .null, .int 0])), (q33, .inr (1, [.null, .null, .int 0])), (q39, .inr (1, [.null, .null, .int 0])), (q45, .inr (1, [.null, .null, .int 0])), (q51, .inr (1, [.null, .null, .int 0])), (q57, .inr (1, [.null, .null, .int 0])), (q63, .inr (1, [.null, .null, .int 0])), (q69, .inr (1, [.null, .null, .int 0])), (q75, .inr (1, [.null, .null, .int 0])), (q81, .inr (1, [.null, .null, .int 0])), (q87, .inr (1, [.null, .null, .int 0]))] H := hP
  have hD : va_D A [(q5, .inl (cA6, 16, .inr (.inr (.inr (.inr (va_up (va_up (va_up (va_up (va_up (va_up (va_up (va_up (va_up (va_up (va_up (va_up (va_up (va_up (fun _ => none) 0 (some q9)) 1 (some q15)) 2 (some q21)) 3 (some q27)) 4 (some q33)) 5 (some q39)) 6 (some q45)) 7 (some q51)) 8 (some q57)) 9 (some q63)) 10 (some q69)) 11 (some q75)) 12 (some q81)) 13 (some q87))))))), (q9, .inr (1, [.null, .null, .int 0])), (q15, .inr (1, [.null, .null, .int 0])), (q21, .inr (1, [.null, .null, .int 0])), (q27, .inr (1, [.null, .null, .int 0])), (q33, .inr (1, [.null, .null, .int 0])), (q39, .inr (1, [.null, .null, .int 0])), (q45, .inr (1, [.null, .null, .int 0])), (q51, .inr (1, [.null, .null, .int 0])), (q57, .inr (1, [.null, .null, .int 0])), (q63, .inr (1, [.null, .null, .int 0])), (q69, .inr (1, [.null, .null, .int 0])), (q75, .inr (1, [.null, .null, .int 0])), (q81, .inr (1, [.null, .null, .int 0])), (q87, .inr (1, [.null, .null, .int 0]))] := hD
  refine lv_iinc (k := 0) (v := 14) (lv' := [(2, .int 14), (1, .ref q5), (0, .int 16)]) hx hb dX12_newChains_27 hl rfl (by decide) (by decide) rfl (fun ls hl => ?_)
  refine lv_goto (tgt := 11) hx hb dX12_newChains_30 (by decide) ?_
  refine lv_iload_n hx hb dX12_newChains_11 rfl (lv_at hl 0 rfl) ?_
  refine lv_aload_n hx hb dX12_newChains_12 rfl (lv_at hl 1 rfl) ?_
  refine va_alen (v := 16) hx hb hK hP 0 0 rfl rfl (show Int32.ofNat 16 = 16 by decide) dX12_newChains_13 ?_
  refine lv_icmp_ge (tgt := 33) hx hb dX12_newChains_14 (by decide) (fun h9 => absurd h9 (by decide)) (fun _ => ?_)
  refine lv_aload_n hx hb dX12_newChains_17 rfl (lv_at hl 1 rfl) ?_
  refine lv_iload_n hx hb dX12_newChains_18 rfl (lv_at hl 0 rfl) ?_
  have h_91 : 16 ≤ 17 := by decide
  have h_92 : 61 ≤ 64 := by decide
  refine va_new (ci := 1) (fs := [.null, .null, .int 0]) (C := RX1) (T := TX1) (N := 3) hx hb hts wh_X12_newChains_X1 tyX1 tyX1_ok hown (hts (.classLink RX12 180 RX1) (wm_X12_newChains 4 rfl)) (hts (.instantiable RX1 3) (wm_X12_newChains 5 rfl)) (hts (.initialized RX1) (wm_X12_newChains 6 rfl)) hK hP hD hS hA rfl (by decide +kernel) h_91 h_92 dX12_newChains_19 (fun q93 H hP hD hS => ?_)
  have hP : va_P (dC, dI) vwCl [(q5, .inl (cA6, 16, .inr (.inr (.inr (.inr (va_up (va_up (va_up (va_up (va_up (va_up (va_up (va_up (va_up (va_up (va_up (va_up (va_up (va_up (fun _ => none) 0 (some q9)) 1 (some q15)) 2 (some q21)) 3 (some q27)) 4 (some q33)) 5 (some q39)) 6 (some q45)) 7 (some q51)) 8 (some q57)) 9 (some q63)) 10 (some q69)) 11 (some q75)) 12 (some q81)) 13 (some q87))))))), (q9, .inr (1, [.null, .null, .int 0])), (q15, .inr (1, [.null, .null, .int 0])), (q21, .inr (1, [.null, .null, .int 0])), (q27, .inr (1, [.null, .null, .int 0])), (q33, .inr (1, [.null, .null, .int 0])), (q39, .inr (1, [.null, .null, .int 0])), (q45, .inr (1, [.null, .null, .int 0])), (q51, .inr (1, [.null, .null, .int 0])), (q57, .inr (1, [.null, .null, .int 0])), (q63, .inr (1, [.null, .null, .int 0])), (q69, .inr (1, [.null, .null, .int 0])), (q75, .inr (1, [.null, .null, .int 0])), (q81, .inr (1, [.null, .null, .int 0])), (q87, .inr (1, [.null, .null, .int 0])), (q93, .inr (1, [.null, .null, .int 0]))] H := hP
  have hD : va_D A [(q5, .inl (cA6, 16, .inr (.inr (.inr (.inr (va_up (va_up (va_up (va_up (va_up (va_up (va_up (va_up (va_up (va_up (va_up (va_up (va_up (va_up (fun _ => none) 0 (some q9)) 1 (some q15)) 2 (some q21)) 3 (some q27)) 4 (some q33)) 5 (some q39)) 6 (some q45)) 7 (some q51)) 8 (some q57)) 9 (some q63)) 10 (some q69)) 11 (some q75)) 12 (some q81)) 13 (some q87))))))), (q9, .inr (1, [.null, .null, .int 0])), (q15, .inr (1, [.null, .null, .int 0])), (q21, .inr (1, [.null, .null, .int 0])), (q27, .inr (1, [.null, .null, .int 0])), (q33, .inr (1, [.null, .null, .int 0])), (q39, .inr (1, [.null, .null, .int 0])), (q45, .inr (1, [.null, .null, .int 0])), (q51, .inr (1, [.null, .null, .int 0])), (q57, .inr (1, [.null, .null, .int 0])), (q63, .inr (1, [.null, .null, .int 0])), (q69, .inr (1, [.null, .null, .int 0])), (q75, .inr (1, [.null, .null, .int 0])), (q81, .inr (1, [.null, .null, .int 0])), (q87, .inr (1, [.null, .null, .int 0])), (q93, .inr (1, [.null, .null, .int 0]))] := hD
  refine W.widen (k := 16) (n := 61) (by decide) (by decide) ?_
  refine lv_dup hx hb dX12_newChains_22 rfl ?_
  have hPc := hP.sub (ws' := [(q93, .inr (1, [.null, .null, .int 0]))]) [15] rfl
  have hDc := hD.sub (ws' := [(q93, .inr (1, [.null, .null, .int 0]))]) [15] (by decide) rfl
  have hKc := hK.sub (tys' := []) [] rfl
  have hFc := va_free (wc := [(q93, .inr (1, [.null, .null, .int 0]))]) hD hS hA [15] rfl
  have h_94 : 16 ≤ 17 := by decide
  have h_95 : 61 ≤ 64 := by decide
  refine va_callv (va_runIN (As := []) (rest := [.ref q93, .int 14, .ref q5]) ⟨hx, hb, hml, hown, hts⟩ (c_X1_init l dC dI q93 _) ⟨va_cnB 0 hts wg_X12_newChains_X1_init rfl rfl rfl fN (hts (.initialized RX1) (wm_X12_newChains 6 rfl)) (by decide +kernel) ⟨Nat.le_of_ble_eq_true rfl, Nat.le_of_ble_eq_true rfl⟩, rfl, (hts (.instanceMethod yX1_init) (wm_X12_newChains 7 rfl))⟩ ⟨fun a U g mk q => by obtain ⟨q0, q1, qP, qK, qD⟩ := q; exact ⟨q0, q1, qP, va_K.moved (u := U) (U := U.calling g mk a) (Vm.Alike.refl U.vm) qK, qD⟩, fun U hU hW => ⟨rfl, by rw [hU], by rw [hU]; exact hPc, va_K.moved hW.alike hKc, hDc.weaken (fun _ _ _ _ => trivial)⟩⟩ rfl rfl hl.1 rfl (lv_room (Nat.le_of_ble_eq_true rfl)) dX12_newChains_23 ⟨h_94, h_95⟩) hS (fun q _ h => hFc q h) hFc (fun u96 t H1 locs ht hvm hw hB hz1 hk1 hS => ?_)
  obtain ⟨hP1, hK1, hD1⟩ := hB
  rw [ht] at hP1
  have hK1 := va_K.moved hvm.symm hK1
  obtain ⟨hP, hD⟩ := va_join (wr := [(q5, .inl (cA6, 16, .inr (.inr (.inr (.inr (va_up (va_up (va_up (va_up (va_up (va_up (va_up (va_up (va_up (va_up (va_up (va_up (va_up (va_up (fun _ => none) 0 (some q9)) 1 (some q15)) 2 (some q21)) 3 (some q27)) 4 (some q33)) 5 (some q39)) 6 (some q45)) 7 (some q51)) 8 (some q57)) 9 (some q63)) 10 (some q69)) 11 (some q75)) 12 (some q81)) 13 (some q87))))))), (q9, .inr (1, [.null, .null, .int 0])), (q15, .inr (1, [.null, .null, .int 0])), (q21, .inr (1, [.null, .null, .int 0])), (q27, .inr (1, [.null, .null, .int 0])), (q33, .inr (1, [.null, .null, .int 0])), (q39, .inr (1, [.null, .null, .int 0])), (q45, .inr (1, [.null, .null, .int 0])), (q51, .inr (1, [.null, .null, .int 0])), (q57, .inr (1, [.null, .null, .int 0])), (q63, .inr (1, [.null, .null, .int 0])), (q69, .inr (1, [.null, .null, .int 0])), (q75, .inr (1, [.null, .null, .int 0])), (q81, .inr (1, [.null, .null, .int 0])), (q87, .inr (1, [.null, .null, .int 0]))]) (w1 := [(q93, .inr (1, [.null, .null, .int 0]))]) hP hD [15] [0, 1, 2, 3, 4, 5, 6, 7, 8, 9, 10, 11, 12, 13, 14] rfl rfl (by decide) (by decide) hk1 hFc hP1 hD1
  have hK := (hK.sub (tys' := [(cA6, .object RX1)]) [0] rfl).app hK1
  generalize H1 = H at hP hS ⊢
  have hP : va_P (dC, dI) vwCl [(q5, .inl (cA6, 16, .inr (.inr (.inr (.inr (va_up (va_up (va_up (va_up (va_up (va_up (va_up (va_up (va_up (va_up (va_up (va_up (va_up (va_up (fun _ => none) 0 (some q9)) 1 (some q15)) 2 (some q21)) 3 (some q27)) 4 (some q33)) 5 (some q39)) 6 (some q45)) 7 (some q51)) 8 (some q57)) 9 (some q63)) 10 (some q69)) 11 (some q75)) 12 (some q81)) 13 (some q87))))))), (q9, .inr (1, [.null, .null, .int 0])), (q15, .inr (1, [.null, .null, .int 0])), (q21, .inr (1, [.null, .null, .int 0])), (q27, .inr (1, [.null, .null, .int 0])), (q33, .inr (1, [.null, .null, .int 0])), (q39, .inr (1, [.null, .null, .int 0])), (q45, .inr (1, [.null, .null, .int 0])), (q51, .inr (1, [.null, .null, .int 0])), (q57, .inr (1, [.null, .null, .int 0])), (q63, .inr (1, [.null, .null, .int 0])), (q69, .inr (1, [.null, .null, .int 0])), (q75, .inr (1, [.null, .null, .int 0])), (q81, .inr (1, [.null, .null, .int 0])), (q87, .inr (1, [.null, .null, .int 0])), (q93, .inr (1, [.null, .null, .int 0]))] H := hP
  have hD : va_D A [(q5, .inl (cA6, 16, .inr (.inr (.inr (.inr (va_up (va_up (va_up (va_up (va_up (va_up (va_up (va_up (va_up (va_up (va_up (va_up (va_up (va_up (fun _ => none) 0 (some q9)) 1 (some q15)) 2 (some q21)) 3 (some q27)) 4 (some q33)) 5 (some q39)) 6 (some q45)) 7 (some q51)) 8 (some q57)) 9 (some q63)) 10 (some q69)) 11 (some q75)) 12 (some q81)) 13 (some q87))))))), (q9, .inr (1, [.null, .null, .int 0])), (q15, .inr (1, [.null, .null, .int 0])), (q21, .inr (1, [.null, .null, .int 0])), (q27, .inr (1, [.null, .null, .int 0])), (q33, .inr (1, [.null, .null, .int 0])), (q39, .inr (1, [.null, .null, .int 0])), (q45, .inr (1, [.null, .null, .int 0])), (q51, .inr (1, [.null, .null, .int 0])), (q57, .inr (1, [.null, .null, .int 0])), (q63, .inr (1, [.null, .null, .int 0])), (q69, .inr (1, [.null, .null, .int 0])), (q75, .inr (1, [.null, .null, .int 0])), (q81, .inr (1, [.null, .null, .int 0])), (q87, .inr (1, [.null, .null, .int 0])), (q93, .inr (1, [.null, .null, .int 0]))] := hD
  have hK : va_K (dC, dI) vwCl [(cA6, .object RX1)] s := hK
  refine W.widen (k := 16) (n := 61) (by decide) (by decide) ?_
  refine va_astq hx hb hK hP hD hS 0 0 15 1 rfl rfl rfl rfl (by unfold vp_in; decide) dX12_newChains_26 (fun H locs hP hD hS => ?_)
  have hP : va_P (dC, dI) vwCl [(q5, .inl (cA6, 16, .inr (.inr (.inr (.inr (va_up (va_up (va_up (va_up (va_up (va_up (va_up (va_up (va_up (va_up (va_up (va_up (va_up (va_up (va_up (fun _ => none) 0 (some q9)) 1 (some q15)) 2 (some q21)) 3 (some q27)) 4 (some q33)) 5 (some q39)) 6 (some q45)) 7 (some q51)) 8 (some q57)) 9 (some q63)) 10 (some q69)) 11 (some q75)) 12 (some q81)) 13 (some q87)) 14 (some q93))))))), (q9, .inr (1, [.null, .null, .int 0])), (q15, .inr (1, [.null, .null, .int 0])), (q21, .inr (1, [.null, .null, .int 0])), (q27, .inr (1, [.null, .null, .int 0])), (q33, .inr (1, [.null, .null, .int 0])), (q39, .inr (1, [.null, .null, .int 0])), (q45, .inr (1, [.null, .null, .int 0])), (q51, .inr (1, [.null, .null, .int 0])), (q57, .inr (1, [.null, .null, .int 0])), (q63, .inr (1, [.null, .null, .int 0])), (q69, .inr (1, [.null, .null, .int 0])), (q75, .inr (1, [.null, .null, .int 0])), (q81, .inr (1, [.null, .null, .int 0])), (q87, .inr (1, [.null, .null, .int 0])), (q93, .inr (1, [.null, .null, .int 0]))] H := hP
  have hD : va_D A [(q5, .inl (cA6, 16, .inr (.inr (.inr (.inr (va_up (va_up (va_up (va_up (va_up (va_up (va_up (va_up (va_up (va_up (va_up (va_up (va_up (va_up (va_up (fun _ => none) 0 (some q9)) 1 (some q15)) 2 (some q21)) 3 (some q27)) 4 (some q33)) 5 (some q39)) 6 (some q45)) 7 (some q51)) 8 (some q57)) 9 (some q63)) 10 (some q69)) 11 (some q75)) 12 (some q81)) 13 (some q87)) 14 (some q93))))))), (q9, .inr (1, [.null, .null, .int 0])), (q15, .inr (1, [.null, .null, .int 0])), (q21, .inr (1, [.null, .null, .int 0])), (q27, .inr (1, [.null, .null, .int 0])), (q33, .inr (1, [.null, .null, .int 0])), (q39, .inr (1, [.null, .null, .int 0])), (q45, .inr (1, [.null, .null, .int 0])), (q51, .inr (1, [.null, .null, .int 0])), (q57, .inr (1, [.null, .null, .int 0])), (q63, .inr (1, [.null, .null, .int 0])), (q69, .inr (1, [.null, .null, .int 0])), (q75, .inr (1, [.null, .null, .int 0])), (q81, .inr (1, [.null, .null, .int 0])), (q87, .inr (1, [.null, .null, .int 0])), (q93, .inr (1, [.null, .null, .int 0]))] := hD
  refine lv_iinc (k := 0) (v := 15) (lv' := [(2, .int 15), (1, .ref q5), (0, .int 16)]) hx hb dX12_newChains_27 hl rfl (by decide) (by decide) rfl (fun ls hl => ?_)
  refine lv_goto (tgt := 11) hx hb dX12_newChains_30 (by decide) ?_
  refine lv_iload_n hx hb dX12_newChains_11 rfl (lv_at hl 0 rfl) ?_
  refine lv_aload_n hx hb dX12_newChains_12 rfl (lv_at hl 1 rfl) ?_
  refine va_alen (v := 16) hx hb hK hP 0 0 rfl rfl (show Int32.ofNat 16 = 16 by decide) dX12_newChains_13 ?_
  refine lv_icmp_ge (tgt := 33) hx hb dX12_newChains_14 (by decide) (fun h9 => absurd h9 (by decide)) (fun _ => ?_)
  refine lv_aload_n hx hb dX12_newChains_17 rfl (lv_at hl 1 rfl) ?_
  refine lv_iload_n hx hb dX12_newChains_18 rfl (lv_at hl 0 rfl) ?_
  have h_97 : 17 ≤ 17 := by decide
  have h_98 : 64 ≤ 64 := by decide
  refine va_new (ci := 1) (fs := [.null, .null, .int 0]) (C := RX1) (T := TX1) (N := 3) hx hb hts wh_X12_newChains_X1 tyX1 tyX1_ok hown (hts (.classLink RX12 180 RX1) (wm_X12_newChains 4 rfl)) (hts (.instantiable RX1 3) (wm_X12_newChains 5 rfl)) (hts (.initialized RX1) (wm_X12_newChains 6 rfl)) hK hP hD hS hA rfl (by decide +kernel) h_97 h_98 dX12_newChains_19 (fun q99 H hP hD hS => ?_)
  have hP : va_P (dC, dI) vwCl [(q5, .inl (cA6, 16, .inr (.inr (.inr (.inr (va_up (va_up (va_up (va_up (va_up (va_up (va_up (va_up (va_up (va_up (va_up (va_up (va_up (va_up (va_up (fun _ => none) 0 (some q9)) 1 (some q15)) 2 (some q21)) 3 (some q27)) 4 (some q33)) 5 (some q39)) 6 (some q45)) 7 (some q51)) 8 (some q57)) 9 (some q63)) 10 (some q69)) 11 (some q75)) 12 (some q81)) 13 (some q87)) 14 (some q93))))))), (q9, .inr (1, [.null, .null, .int 0])), (q15, .inr (1, [.null, .null, .int 0])), (q21, .inr (1, [.null, .null, .int 0])), (q27, .inr (1, [.null, .null, .int 0])), (q33, .inr (1, [.null, .null, .int 0])), (q39, .inr (1, [.null, .null, .int 0])), (q45, .inr (1, [.null, .null, .int 0])), (q51, .inr (1, [.null, .null, .int 0])), (q57, .inr (1, [.null, .null, .int 0])), (q63, .inr (1, [.null, .null, .int 0])), (q69, .inr (1, [.null, .null, .int 0])), (q75, .inr (1, [.null, .null, .int 0])), (q81, .inr (1, [.null, .null, .int 0])), (q87, .inr (1, [.null, .null, .int 0])), (q93, .inr (1, [.null, .null, .int 0])), (q99, .inr (1, [.null, .null, .int 0]))] H := hP
  have hD : va_D A [(q5, .inl (cA6, 16, .inr (.inr (.inr (.inr (va_up (va_up (va_up (va_up (va_up (va_up (va_up (va_up (va_up (va_up (va_up (va_up (va_up (va_up (va_up (fun _ => none) 0 (some q9)) 1 (some q15)) 2 (some q21)) 3 (some q27)) 4 (some q33)) 5 (some q39)) 6 (some q45)) 7 (some q51)) 8 (some q57)) 9 (some q63)) 10 (some q69)) 11 (some q75)) 12 (some q81)) 13 (some q87)) 14 (some q93))))))), (q9, .inr (1, [.null, .null, .int 0])), (q15, .inr (1, [.null, .null, .int 0])), (q21, .inr (1, [.null, .null, .int 0])), (q27, .inr (1, [.null, .null, .int 0])), (q33, .inr (1, [.null, .null, .int 0])), (q39, .inr (1, [.null, .null, .int 0])), (q45, .inr (1, [.null, .null, .int 0])), (q51, .inr (1, [.null, .null, .int 0])), (q57, .inr (1, [.null, .null, .int 0])), (q63, .inr (1, [.null, .null, .int 0])), (q69, .inr (1, [.null, .null, .int 0])), (q75, .inr (1, [.null, .null, .int 0])), (q81, .inr (1, [.null, .null, .int 0])), (q87, .inr (1, [.null, .null, .int 0])), (q93, .inr (1, [.null, .null, .int 0])), (q99, .inr (1, [.null, .null, .int 0]))] := hD
  refine W.widen (k := 17) (n := 64) (by decide) (by decide) ?_
  refine lv_dup hx hb dX12_newChains_22 rfl ?_
  have hPc := hP.sub (ws' := [(q99, .inr (1, [.null, .null, .int 0]))]) [16] rfl
  have hDc := hD.sub (ws' := [(q99, .inr (1, [.null, .null, .int 0]))]) [16] (by decide) rfl
  have hKc := hK.sub (tys' := []) [] rfl
  have hFc := va_free (wc := [(q99, .inr (1, [.null, .null, .int 0]))]) hD hS hA [16] rfl
  have h_100 : 17 ≤ 17 := by decide
  have h_101 : 64 ≤ 64 := by decide
  refine va_callv (va_runIN (As := []) (rest := [.ref q99, .int 15, .ref q5]) ⟨hx, hb, hml, hown, hts⟩ (c_X1_init l dC dI q99 _) ⟨va_cnB 0 hts wg_X12_newChains_X1_init rfl rfl rfl fN (hts (.initialized RX1) (wm_X12_newChains 6 rfl)) (by decide +kernel) ⟨Nat.le_of_ble_eq_true rfl, Nat.le_of_ble_eq_true rfl⟩, rfl, (hts (.instanceMethod yX1_init) (wm_X12_newChains 7 rfl))⟩ ⟨fun a U g mk q => by obtain ⟨q0, q1, qP, qK, qD⟩ := q; exact ⟨q0, q1, qP, va_K.moved (u := U) (U := U.calling g mk a) (Vm.Alike.refl U.vm) qK, qD⟩, fun U hU hW => ⟨rfl, by rw [hU], by rw [hU]; exact hPc, va_K.moved hW.alike hKc, hDc.weaken (fun _ _ _ _ => trivial)⟩⟩ rfl rfl hl.1 rfl (lv_room (Nat.le_of_ble_eq_true rfl)) dX12_newChains_23 ⟨h_100, h_101⟩) hS (fun q _ h => hFc q h) hFc (fun u102 t H1 locs ht hvm hw hB hz1 hk1 hS => ?_)
  obtain ⟨hP1, hK1, hD1⟩ := hB
  rw [ht] at hP1
  have hK1 := va_K.moved hvm.symm hK1
  obtain ⟨hP, hD⟩ := va_join (wr := [(q5, .inl (cA6, 16, .inr (.inr (.inr (.inr (va_up (va_up (va_up (va_up (va_up (va_up (va_up (va_up (va_up (va_up (va_up (va_up (va_up (va_up (va_up (fun _ => none) 0 (some q9)) 1 (some q15)) 2 (some q21)) 3 (some q27)) 4 (some q33)) 5 (some q39)) 6 (some q45)) 7 (some q51)) 8 (some q57)) 9 (some q63)) 10 (some q69)) 11 (some q75)) 12 (some q81)) 13 (some q87)) 14 (some q93))))))), (q9, .inr (1, [.null, .null, .int 0])), (q15, .inr (1, [.null, .null, .int 0])), (q21, .inr (1, [.null, .null, .int 0])), (q27, .inr (1, [.null, .null, .int 0])), (q33, .inr (1, [.null, .null, .int 0])), (q39, .inr (1, [.null, .null, .int 0])), (q45, .inr (1, [.null, .null, .int 0])), (q51, .inr (1, [.null, .null, .int 0])), (q57, .inr (1, [.null, .null, .int 0])), (q63, .inr (1, [.null, .null, .int 0])), (q69, .inr (1, [.null, .null, .int 0])), (q75, .inr (1, [.null, .null, .int 0])), (q81, .inr (1, [.null, .null, .int 0])), (q87, .inr (1, [.null, .null, .int 0])), (q93, .inr (1, [.null, .null, .int 0]))]) (w1 := [(q99, .inr (1, [.null, .null, .int 0]))]) hP hD [16] [0, 1, 2, 3, 4, 5, 6, 7, 8, 9, 10, 11, 12, 13, 14, 15] rfl rfl (by decide) (by decide) hk1 hFc hP1 hD1
  have hK := (hK.sub (tys' := [(cA6, .object RX1)]) [0] rfl).app hK1
  generalize H1 = H at hP hS ⊢
  have hP : va_P (dC, dI) vwCl [(q5, .inl (cA6, 16, .inr (.inr (.inr (.inr (va_up (va_up (va_up (va_up (va_up (va_up (va_up (va_up (va_up (va_up (va_up (va_up (va_up (va_up (va_up (fun _ => none) 0 (some q9)) 1 (some q15)) 2 (some q21)) 3 (some q27)) 4 (some q33)) 5 (some q39)) 6 (some q45)) 7 (some q51)) 8 (some q57)) 9 (some q63)) 10 (some q69)) 11 (some q75)) 12 (some q81)) 13 (some q87)) 14 (some q93))))))), (q9, .inr (1, [.null, .null, .int 0])), (q15, .inr (1, [.null, .null, .int 0])), (q21, .inr (1, [.null, .null, .int 0])), (q27, .inr (1, [.null, .null, .int 0])), (q33, .inr (1, [.null, .null, .int 0])), (q39, .inr (1, [.null, .null, .int 0])), (q45, .inr (1, [.null, .null, .int 0])), (q51, .inr (1, [.null, .null, .int 0])), (q57, .inr (1, [.null, .null, .int 0])), (q63, .inr (1, [.null, .null, .int 0])), (q69, .inr (1, [.null, .null, .int 0])), (q75, .inr (1, [.null, .null, .int 0])), (q81, .inr (1, [.null, .null, .int 0])), (q87, .inr (1, [.null, .null, .int 0])), (q93, .inr (1, [.null, .null, .int 0])), (q99, .inr (1, [.null, .null, .int 0]))] H := hP
  have hD : va_D A [(q5, .inl (cA6, 16, .inr (.inr (.inr (.inr (va_up (va_up (va_up (va_up (va_up (va_up (va_up (va_up (va_up (va_up (va_up (va_up (va_up (va_up (va_up (fun _ => none) 0 (some q9)) 1 (some q15)) 2 (some q21)) 3 (some q27)) 4 (some q33)) 5 (some q39)) 6 (some q45)) 7 (some q51)) 8 (some q57)) 9 (some q63)) 10 (some q69)) 11 (some q75)) 12 (some q81)) 13 (some q87)) 14 (some q93))))))), (q9, .inr (1, [.null, .null, .int 0])), (q15, .inr (1, [.null, .null, .int 0])), (q21, .inr (1, [.null, .null, .int 0])), (q27, .inr (1, [.null, .null, .int 0])), (q33, .inr (1, [.null, .null, .int 0])), (q39, .inr (1, [.null, .null, .int 0])), (q45, .inr (1, [.null, .null, .int 0])), (q51, .inr (1, [.null, .null, .int 0])), (q57, .inr (1, [.null, .null, .int 0])), (q63, .inr (1, [.null, .null, .int 0])), (q69, .inr (1, [.null, .null, .int 0])), (q75, .inr (1, [.null, .null, .int 0])), (q81, .inr (1, [.null, .null, .int 0])), (q87, .inr (1, [.null, .null, .int 0])), (q93, .inr (1, [.null, .null, .int 0])), (q99, .inr (1, [.null, .null, .int 0]))] := hD
  have hK : va_K (dC, dI) vwCl [(cA6, .object RX1)] s := hK
  refine W.widen (k := 17) (n := 64) (by decide) (by decide) ?_
  refine va_astq hx hb hK hP hD hS 0 0 16 1 rfl rfl rfl rfl (by unfold vp_in; decide) dX12_newChains_26 (fun H locs hP hD hS => ?_)
  have hP : va_P (dC, dI) vwCl [(q5, .inl (cA6, 16, .inr (.inr (.inr (.inr (va_up (va_up (va_up (va_up (va_up (va_up (va_up (va_up (va_up (va_up (va_up (va_up (va_up (va_up (va_up (va_up (fun _ => none) 0 (some q9)) 1 (some q15)) 2 (some q21)) 3 (some q27)) 4 (some q33)) 5 (some q39)) 6 (some q45)) 7 (some q51)) 8 (some q57)) 9 (some q63)) 10 (some q69)) 11 (some q75)) 12 (some q81)) 13 (some q87)) 14 (some q93)) 15 (some q99))))))), (q9, .inr (1, [.null, .null, .int 0])), (q15, .inr (1, [.null, .null, .int 0])), (q21, .inr (1, [.null, .null, .int 0])), (q27, .inr (1, [.null, .null, .int 0])), (q33, .inr (1, [.null, .null, .int 0])), (q39, .inr (1, [.null, .null, .int 0])), (q45, .inr (1, [.null, .null, .int 0])), (q51, .inr (1, [.null, .null, .int 0])), (q57, .inr (1, [.null, .null, .int 0])), (q63, .inr (1, [.null, .null, .int 0])), (q69, .inr (1, [.null, .null, .int 0])), (q75, .inr (1, [.null, .null, .int 0])), (q81, .inr (1, [.null, .null, .int 0])), (q87, .inr (1, [.null, .null, .int 0])), (q93, .inr (1, [.null, .null, .int 0])), (q99, .inr (1, [.null, .null, .int 0]))] H := hP
  have hD : va_D A [(q5, .inl (cA6, 16, .inr (.inr (.inr (.inr (va_up (va_up (va_up (va_up (va_up (va_up (va_up (va_up (va_up (va_up (va_up (va_up (va_up (va_up (va_up (va_up (fun _ => none) 0 (some q9)) 1 (some q15)) 2 (some q21)) 3 (some q27)) 4 (some q33)) 5 (some q39)) 6 (some q45)) 7 (some q51)) 8 (some q57)) 9 (some q63)) 10 (some q69)) 11 (some q75)) 12 (some q81)) 13 (some q87)) 14 (some q93)) 15 (some q99))))))), (q9, .inr (1, [.null, .null, .int 0])), (q15, .inr (1, [.null, .null, .int 0])), (q21, .inr (1, [.null, .null, .int 0])), (q27, .inr (1, [.null, .null, .int 0])), (q33, .inr (1, [.null, .null, .int 0])), (q39, .inr (1, [.null, .null, .int 0])), (q45, .inr (1, [.null, .null, .int 0])), (q51, .inr (1, [.null, .null, .int 0])), (q57, .inr (1, [.null, .null, .int 0])), (q63, .inr (1, [.null, .null, .int 0])), (q69, .inr (1, [.null, .null, .int 0])), (q75, .inr (1, [.null, .null, .int 0])), (q81, .inr (1, [.null, .null, .int 0])), (q87, .inr (1, [.null, .null, .int 0])), (q93, .inr (1, [.null, .null, .int 0])), (q99, .inr (1, [.null, .null, .int 0]))] := hD
  refine lv_iinc (k := 0) (v := 16) (lv' := [(2, .int 16), (1, .ref q5), (0, .int 16)]) hx hb dX12_newChains_27 hl rfl (by decide) (by decide) rfl (fun ls hl => ?_)
  refine lv_goto (tgt := 11) hx hb dX12_newChains_30 (by decide) ?_
  refine lv_iload_n hx hb dX12_newChains_11 rfl (lv_at hl 0 rfl) ?_
  refine lv_aload_n hx hb dX12_newChains_12 rfl (lv_at hl 1 rfl) ?_
  refine va_alen (v := 16) hx hb hK hP 0 0 rfl rfl (show Int32.ofNat 16 = 16 by decide) dX12_newChains_13 ?_
  refine lv_icmp_ge (tgt := 33) hx hb dX12_newChains_14 (by decide) (fun _ => ?_) (fun h9 => absurd (by decide) h9)
  refine lv_aload_n hx hb dX12_newChains_33 rfl (lv_at hl 1 rfl) ?_
  have hP9 := hP.sub (ws' := [(q5, .inl (cA6, 16, .inr (.inr (.inr (.inr (va_up (va_up (va_up (va_up (va_up (va_up (va_up (va_up (va_up (va_up (va_up (va_up (va_up (va_up (va_up (va_up (fun _ => none) 0 (some q9)) 1 (some q15)) 2 (some q21)) 3 (some q27)) 4 (some q33)) 5 (some q39)) 6 (some q45)) 7 (some q51)) 8 (some q57)) 9 (some q63)) 10 (some q69)) 11 (some q75)) 12 (some q81)) 13 (some q87)) 14 (some q93)) 15 (some q99)))))))]) [0] rfl
  have hD9 := hD.sub (ws' := [(q5, .inl (cA6, 16, .inr (.inr (.inr (.inr (va_up (va_up (va_up (va_up (va_up (va_up (va_up (va_up (va_up (va_up (va_up (va_up (va_up (va_up (va_up (va_up (fun _ => none) 0 (some q9)) 1 (some q15)) 2 (some q21)) 3 (some q27)) 4 (some q33)) 5 (some q39)) 6 (some q45)) 7 (some q51)) 8 (some q57)) 9 (some q63)) 10 (some q69)) 11 (some q75)) 12 (some q81)) 13 (some q87)) 14 (some q93)) 15 (some q99)))))))]) [0] (by decide) rfl
  have hK9 := hK.sub (tys' := [(cA6, .object RX1)]) [0] rfl
  exact W.aret hx hb hr (Or.inr ⟨_, rfl⟩) (Or.inr ⟨_, rfl⟩) (fun t ht hW => ⟨⟨(cA6, q9, q15, q21, q27, q33, q39, q45, q51, q57, q63, q69, q75, q81, q87, q93, q99), q5, rfl, trivial, by rw [ht]; exact hP9, va_K.moved hW.alike hK9, hD9⟩, hS.F ht⟩) hS.2.2 dX12_newChains_34

abbrev at_J7_fill_53178 (dC : Nat → ClassId) (dI : Nat → Nat → Nat) (A : Nat → Prop) (h0 : Nat) (k1 : Int32) (cB : ClassId) (f1 : Nat → Int32) (u : Unit) (t : State) : Prop := match u with
  | _ => va_P (dC, dI) vwCl [(h0, .inl (cB, 4, .inl (upd (upd (upd (upd f1 0 k1) 1 k1) 2 k1) 3 k1)))] t.heap ∧ va_K (dC, dI) vwCl [(cB, .int)] t ∧ va_D A [(h0, .inl (cB, 4, .inl (upd (upd (upd (upd f1 0 k1) 1 k1) 2 k1) 3 k1)))]
theorem dJ7_fill_53178_0 : decode cJ7_fill_53178 0 = .ok (.iconst 0, 1) := by decide +kernel
theorem dJ7_fill_53178_1 : decode cJ7_fill_53178 1 = .ok (.istore_n 2, 1) := by decide +kernel
theorem dJ7_fill_53178_2 : decode cJ7_fill_53178 2 = .ok (.aload_n 0, 1) := by decide +kernel
theorem dJ7_fill_53178_3 : decode cJ7_fill_53178 3 = .ok (.arraylength, 1) := by decide +kernel
theorem dJ7_fill_53178_4 : decode cJ7_fill_53178 4 = .ok (.istore_n 3, 1) := by decide +kernel
theorem dJ7_fill_53178_5 : decode cJ7_fill_53178 5 = .ok (.iload_n 2, 1) := by decide +kernel
theorem dJ7_fill_53178_6 : decode cJ7_fill_53178 6 = .ok (.iload_n 3, 1) := by decide +kernel
theorem dJ7_fill_53178_7 : decode cJ7_fill_53178 7 = .ok (.if_icmp .ge 13, 3) := by decide +kernel
theorem dJ7_fill_53178_10 : decode cJ7_fill_53178 10 = .ok (.aload_n 0, 1) := by decide +kernel
theorem dJ7_fill_53178_11 : decode cJ7_fill_53178 11 = .ok (.iload_n 2, 1) := by decide +kernel
theorem dJ7_fill_53178_12 : decode cJ7_fill_53178 12 = .ok (.iload_n 1, 1) := by decide +kernel
theorem dJ7_fill_53178_13 : decode cJ7_fill_53178 13 = .ok (.iastore, 1) := by decide +kernel
theorem dJ7_fill_53178_14 : decode cJ7_fill_53178 14 = .ok (.iinc 2 1, 3) := by decide +kernel
theorem dJ7_fill_53178_17 : decode cJ7_fill_53178 17 = .ok (.goto (-12), 3) := by decide +kernel
theorem dJ7_fill_53178_20 : decode cJ7_fill_53178 20 = .ok (.return_, 1) := by decide +kernel
def ww_J7_fill_53178 : List Cond := []
def wv_J7_fill_53178 : List Cond := .code yJ7_fill_53178 cJ7_fill_53178 4 none :: (ww_J7_fill_53178 ++ [])
theorem wm_J7_fill_53178 {w : Cond} (i : Nat) (h : ww_J7_fill_53178[i]? = some w) : w ∈ wv_J7_fill_53178 := List.mem_cons_of_mem _ (List.mem_append_left _ (List.mem_of_getElem? h))
theorem gw_J7_fill_53178 : wv_J7_fill_53178.all goodWord = true := by decide +kernel
set_option maxHeartbeats 4000000 in
set_option maxRecDepth 100000 in
/-- Arrays.fill of four ints -/
theorem c_J7_fill_53178 (l : Launch) (dC : Nat → ClassId) (dI : Nat → Nat → Nat) (h0 : Nat) (k1 : Int32) (cB : ClassId) (f1 : Nat → Int32) (sz : Nat) : Met l yJ7_fill_53178 wv_J7_fill_53178 ({ frames := 0, cells := 0, slots := 0, locals := 0 }) (va_Pc [.ref h0, .int k1] (fun U => U.heap.size = sz ∧ va_P (dC, dI) vwCl [(h0, .inl (cB, 4, .inl f1))] U.heap ∧ va_K (dC, dI) vwCl [(cB, .int)] U ∧ va_D (fun _ => True) [(h0, .inl (cB, 4, .inl f1))])) (va_Qv (fun _ : Unit => True) (at_J7_fill_53178 dC dI (va_A [(h0, .inl (cB, 4, .inl f1))] sz) h0 k1 cB f1) (va_A [(h0, .inl (cB, 4, .inl f1))] sz)) 0 0 (va_A [(h0, .inl (cB, 4, .inl f1))] sz) := by
  refine Met.ofW (cc := cJ7_fill_53178) (maxL := 4) (ret := none) (by decide) rfl ?_
  intro p e s m args below meth c s₁ B hml hv
  obtain ⟨rfl, hsz, hP, hK, hD0⟩ := hv
  have hx := B.exec
  have hb := B.bytes
  have hr := B.returns
  have hts := atoms_spec (ws := wv_J7_fill_53178) B.pre
  have hown : s.vm.findClass RJ7 = some m.cls := findClass_of_methodNamed B.named
  have hlocks := B.notSynchronized
  subst hsz
  have hD := hD0.self (sz := s.heap.size)
  generalize hAe : va_A [(h0, .inl (cB, 4, .inl f1))] s.heap.size = A at hD ⊢
  have hA : ∀ q : Nat, s.heap.size ≤ q → A q := fun q h => by rw [← hAe]; exact Or.inr h
  have hS : va_S A s.heap s.heap [] := va_S.rf
  have hP : va_P (dC, dI) vwCl [(h0, .inl (cB, 4, .inl f1))] s.heap := hP
  have hl := lv_entry ([.ref h0, .int k1]) (n := 4) (Nat.le_of_ble_eq_true rfl)
  rw [lg_entry_eq]
  generalize (lg_sl ([.ref h0, .int k1]) ++ List.replicate (4 - (lg_sl ([.ref h0, .int k1])).length) Slot.unset).toArray = ls at hl ⊢
  have hl : lv_has ls 4 [(0, .ref h0), (1, .int k1)] := hl
  refine lv_iconst (v := 0) hx hb dJ7_fill_53178_0 (by decide) ?_
  refine lv_istore_n (lv' := [(2, .int 0), (0, .ref h0), (1, .int k1)]) hx hb dJ7_fill_53178_1 rfl hl (by decide) rfl (fun ls hl => ?_)
  refine lv_aload_n hx hb dJ7_fill_53178_2 rfl (lv_at hl 1 rfl) ?_
  refine va_alen (v := 4) hx hb hK hP 0 0 rfl rfl (show Int32.ofNat 4 = 4 by decide) dJ7_fill_53178_3 ?_
  refine lv_istore_n (lv' := [(3, .int 4), (2, .int 0), (0, .ref h0), (1, .int k1)]) hx hb dJ7_fill_53178_4 rfl hl (by decide) rfl (fun ls hl => ?_)
  refine lv_iload_n hx hb dJ7_fill_53178_5 rfl (lv_at hl 1 rfl) ?_
  refine lv_iload_n hx hb dJ7_fill_53178_6 rfl (lv_at hl 0 rfl) ?_
  refine lv_icmp_ge (tgt := 20) hx hb dJ7_fill_53178_7 (by decide) (fun h9 => absurd h9 (by decide)) (fun _ => ?_)
  refine lv_aload_n hx hb dJ7_fill_53178_10 rfl (lv_at hl 2 rfl) ?_
  refine lv_iload_n hx hb dJ7_fill_53178_11 rfl (lv_at hl 1 rfl) ?_
  refine lv_iload_n hx hb dJ7_fill_53178_12 rfl (lv_at hl 3 rfl) ?_
  refine va_iast hx hb hK hP hD hS 0 0 rfl rfl (by unfold vp_in; decide) dJ7_fill_53178_13 (fun H locs hP hD hS => ?_)
  have hP : va_P (dC, dI) vwCl [(h0, .inl (cB, 4, .inl (upd f1 0 k1)))] H := hP
  have hD : va_D A [(h0, .inl (cB, 4, .inl (upd f1 0 k1)))] := hD
  refine lv_iinc (k := 1) (v := 1) (lv' := [(2, .int 1), (3, .int 4), (0, .ref h0), (1, .int k1)]) hx hb dJ7_fill_53178_14 hl rfl (by decide) (by decide) rfl (fun ls hl => ?_)
  refine lv_goto (tgt := 5) hx hb dJ7_fill_53178_17 (by decide) ?_
  refine lv_iload_n hx hb dJ7_fill_53178_5 rfl (lv_at hl 0 rfl) ?_
  refine lv_iload_n hx hb dJ7_fill_53178_6 rfl (lv_at hl 1 rfl) ?_
  refine lv_icmp_ge (tgt := 20) hx hb dJ7_fill_53178_7 (by decide) (fun h9 => absurd h9 (by decide)) (fun _ => ?_)
  refine lv_aload_n hx hb dJ7_fill_53178_10 rfl (lv_at hl 2 rfl) ?_
  refine lv_iload_n hx hb dJ7_fill_53178_11 rfl (lv_at hl 0 rfl) ?_
  refine lv_iload_n hx hb dJ7_fill_53178_12 rfl (lv_at hl 3 rfl) ?_
  refine va_iast hx hb hK hP hD hS 0 0 rfl rfl (by unfold vp_in; decide) dJ7_fill_53178_13 (fun H locs hP hD hS => ?_)
  have hP : va_P (dC, dI) vwCl [(h0, .inl (cB, 4, .inl (upd (upd f1 0 k1) 1 k1)))] H := hP
  have hD : va_D A [(h0, .inl (cB, 4, .inl (upd (upd f1 0 k1) 1 k1)))] := hD
  refine lv_iinc (k := 0) (v := 2) (lv' := [(2, .int 2), (3, .int 4), (0, .ref h0), (1, .int k1)]) hx hb dJ7_fill_53178_14 hl rfl (by decide) (by decide) rfl (fun ls hl => ?_)
  refine lv_goto (tgt := 5) hx hb dJ7_fill_53178_17 (by decide) ?_
  refine lv_iload_n hx hb dJ7_fill_53178_5 rfl (lv_at hl 0 rfl) ?_
  refine lv_iload_n hx hb dJ7_fill_53178_6 rfl (lv_at hl 1 rfl) ?_
  refine lv_icmp_ge (tgt := 20) hx hb dJ7_fill_53178_7 (by decide) (fun h9 => absurd h9 (by decide)) (fun _ => ?_)
  refine lv_aload_n hx hb dJ7_fill_53178_10 rfl (lv_at hl 2 rfl) ?_
  refine lv_iload_n hx hb dJ7_fill_53178_11 rfl (lv_at hl 0 rfl) ?_
  refine lv_iload_n hx hb dJ7_fill_53178_12 rfl (lv_at hl 3 rfl) ?_
  refine va_iast hx hb hK hP hD hS 0 0 rfl rfl (by unfold vp_in; decide) dJ7_fill_53178_13 (fun H locs hP hD hS => ?_)
  have hP : va_P (dC, dI) vwCl [(h0, .inl (cB, 4, .inl (upd (upd (upd f1 0 k1) 1 k1) 2 k1)))] H := hP
  have hD : va_D A [(h0, .inl (cB, 4, .inl (upd (upd (upd f1 0 k1) 1 k1) 2 k1)))] := hD
  refine lv_iinc (k := 0) (v := 3) (lv' := [(2, .int 3), (3, .int 4), (0, .ref h0), (1, .int k1)]) hx hb dJ7_fill_53178_14 hl rfl (by decide) (by decide) rfl (fun ls hl => ?_)
  refine lv_goto (tgt := 5) hx hb dJ7_fill_53178_17 (by decide) ?_
  refine lv_iload_n hx hb dJ7_fill_53178_5 rfl (lv_at hl 0 rfl) ?_
  refine lv_iload_n hx hb dJ7_fill_53178_6 rfl (lv_at hl 1 rfl) ?_
  refine lv_icmp_ge (tgt := 20) hx hb dJ7_fill_53178_7 (by decide) (fun h9 => absurd h9 (by decide)) (fun _ => ?_)
  refine lv_aload_n hx hb dJ7_fill_53178_10 rfl (lv_at hl 2 rfl) ?_
  refine lv_iload_n hx hb dJ7_fill_53178_11 rfl (lv_at hl 0 rfl) ?_
  refine lv_iload_n hx hb dJ7_fill_53178_12 rfl (lv_at hl 3 rfl) ?_
  refine va_iast hx hb hK hP hD hS 0 0 rfl rfl (by unfold vp_in; decide) dJ7_fill_53178_13 (fun H locs hP hD hS => ?_)
  have hP : va_P (dC, dI) vwCl [(h0, .inl (cB, 4, .inl (upd (upd (upd (upd f1 0 k1) 1 k1) 2 k1) 3 k1)))] H := hP
  have hD : va_D A [(h0, .inl (cB, 4, .inl (upd (upd (upd (upd f1 0 k1) 1 k1) 2 k1) 3 k1)))] := hD
  refine lv_iinc (k := 0) (v := 4) (lv' := [(2, .int 4), (3, .int 4), (0, .ref h0), (1, .int k1)]) hx hb dJ7_fill_53178_14 hl rfl (by decide) (by decide) rfl (fun ls hl => ?_)
  refine lv_goto (tgt := 5) hx hb dJ7_fill_53178_17 (by decide) ?_
  refine lv_iload_n hx hb dJ7_fill_53178_5 rfl (lv_at hl 0 rfl) ?_
  refine lv_iload_n hx hb dJ7_fill_53178_6 rfl (lv_at hl 1 rfl) ?_
  refine lv_icmp_ge (tgt := 20) hx hb dJ7_fill_53178_7 (by decide) (fun _ => ?_) (fun h9 => absurd (by decide) h9)
  have hP9 := hP.sub (ws' := [(h0, .inl (cB, 4, .inl (upd (upd (upd (upd f1 0 k1) 1 k1) 2 k1) 3 k1)))]) [0] rfl
  have hD9 := hD.sub (ws' := [(h0, .inl (cB, 4, .inl (upd (upd (upd (upd f1 0 k1) 1 k1) 2 k1) 3 k1)))]) [0] (by decide) rfl
  have hK9 := hK.sub (tys' := [(cB, .int)]) [0] rfl
  exact W.vret hx hb hr (fun t ht hW => ⟨⟨(), rfl, trivial, by rw [ht]; exact hP9, va_K.moved hW.alike hK9, hD9⟩, hS.F ht⟩) hS.2.2 dJ7_fill_53178_20


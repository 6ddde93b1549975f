/-- 'throw' of a thing that is there -/
theorem xz_athrow {p : Program} {l : Launch} {e : Env} {R : Room} {s : State} {m : MethodId} {args : Array Value} {below : List Frame} {meth : Method} {c : Code} {H : Heap} {locs : List Loc} {cells slots : Nat} {Q : State → Prop} {cc : ByteArray} {pc : Nat} {ls : Array Slot} {rest : List Value} (hexec : p.tables.exec = Jvm.exec) (hb : c.code = cc) {q : Addr} (hdg : decode cc pc = .ok (.athrow, 1)) (kk : vx_W p l e R s m args below meth c H locs cells slots Q (F0 m pc ls rest) q) : W p l e R s m args below meth c H locs cells slots Q (F0 m pc ls (.ref q :: rest)) := by
  intro T hT X
  obtain ⟨t, a1, b1⟩ := kk T hT X
  refine ⟨t, ?_, b1⟩
  jvm_step X.here [X.here.top, hexec, hb, hdg, Op.athrow.wp_sem]
  exact a1
theorem xz_cell {s : State} {H : Heap} {D : va_G} {cl : List vw_C} {a q0 ci : Nat} {q : vw_C} {fs : List Value} {ws : va_W} {tys : List (ClassId × FieldType)} (hK : va_K D cl tys s) (hP : va_P D cl ws H) (hc : cl[ci]? = some q) (he : ws[q0]? = some (a, .inr (ci, fs))) : ∃ cell : Cell, H[a]? = some cell ∧ cell.vm = .none ∧ s.vm.findClass q.1 = some cell.cls := by
  obtain ⟨q', h1, cell, g1, g2, g3, -⟩ := hP q0 _ he
  exact ⟨cell, g1, g3, by rw [g2]; exact (hK.1 ci q hc).2.1⟩
abbrev ax_X6_refuse (dC : Nat → ClassId) (dI : Nat → Nat → Nat) (A : Nat → Prop) (h6 : Nat) (k1 : Int32) (b0 b1 b2 b3 b4 b5 b6 b7 b8 : Value) (E : String) (_ : Unit) (t : State) : Prop := E = "java/lang/IllegalArgumentException" ∧ va_P (dC, dI) vwCl [(h6, .inr (6, [b0, b1, b2, b3, b4, b5, .int k1, b7, b8]))] t.heap ∧ va_K (dC, dI) vwCl [] t ∧ va_D A [(h6, .inr (6, [b0, b1, b2, b3, b4, b5, .int k1, b7, b8]))]
theorem dX6_refuse_0 : decode cX6_refuse 0 = .ok (.aload_n 0, 1) := by decide +kernel
theorem dX6_refuse_1 : decode cX6_refuse 1 = .ok (.iload_n 1, 1) := by decide +kernel
theorem dX6_refuse_2 : decode cX6_refuse 2 = .ok (.putfield 28, 3) := by decide +kernel
theorem dX6_refuse_5 : decode cX6_refuse 5 = .ok (.new 64, 3) := by decide +kernel
theorem dX6_refuse_8 : decode cX6_refuse 8 = .ok (.dup, 1) := by decide +kernel
theorem dX6_refuse_9 : decode cX6_refuse 9 = .ok (.invokespecial 265, 3) := by decide +kernel
theorem dX6_refuse_12 : decode cX6_refuse 12 = .ok (.athrow, 1) := by decide +kernel
def ww_X6_refuse : List Cond := [.fieldLink RX6 28 "StreamHouse$Parser" "fault" "I", .classLink RX6 64 "java/lang/IllegalArgumentException", .initialized "java/lang/IllegalArgumentException"]
def wv_X6_refuse : List Cond := .code yX6_refuse cX6_refuse 2 none :: (ww_X6_refuse ++ (u_ws RX6 TX6 9 ++ ((vx_at0 RX6 265 "java/lang/IllegalArgumentException" ["java/lang/RuntimeException", "java/lang/Exception"]).filter goodWord ++ [])))
theorem wm_X6_refuse {w : Cond} (i : Nat) (h : ww_X6_refuse[i]? = some w) : w ∈ wv_X6_refuse := List.mem_cons_of_mem _ (List.mem_append_left _ (List.mem_of_getElem? h))
set_option maxRecDepth 100000 in
theorem gw_X6_refuse : wv_X6_refuse.all goodWord = true := by decide +kernel
theorem wh_X6_refuse_X6 : ∀ w ∈ u_ws RX6 TX6 9, w ∈ wv_X6_refuse := fun w h => List.mem_cons_of_mem _ (List.mem_append_right _ (List.mem_append_left _ h))
theorem wx_X6_refuse_265 : ∀ w ∈ (vx_at0 RX6 265 "java/lang/IllegalArgumentException" ["java/lang/RuntimeException", "java/lang/Exception"]).filter goodWord, w ∈ wv_X6_refuse := fun w h => List.mem_cons_of_mem _ (List.mem_append_right _ (List.mem_append_right _ (List.mem_append_left _ h)))
set_option maxHeartbeats 4000000 in
set_option maxRecDepth 100000 in
/-- refuse(k): IllegalArgumentException -/
theorem x_X6_refuse (l : Launch) (hl0 : l.stackTraces = false) (dC : Nat → ClassId) (dI : Nat → Nat → Nat) (h6 : Nat) (k1 : Int32) (b0 b1 b2 b3 b4 b5 b6 b7 b8 : Value) (sz : Nat) : vx_Met l yX6_refuse wv_X6_refuse ({ frames := 6, cells := 1, slots := 6, locals := 81 }) (va_Pc [.ref h6, .int k1] (fun U => U.heap.size = sz ∧ va_P (dC, dI) vwCl [(h6, .inr (6, [b0, b1, b2, b3, b4, b5, b6, b7, b8]))] U.heap ∧ va_K (dC, dI) vwCl [] U ∧ va_D (fun _ => True) [(h6, .inr (6, [b0, b1, b2, b3, b4, b5, b6, b7, b8]))] ∧ xz_F U ∧ xz_Z (va_A [(h6, .inr (6, [b0, b1, b2, b3, b4, b5, b6, b7, b8]))] sz) U U.heap)) (va_Qv (fun _ : Unit => False) (fun _ _ => True) (va_A [(h6, .inr (6, [b0, b1, b2, b3, b4, b5, b6, b7, b8]))] sz)) (vx_X (fun _ : Unit => True) (ax_X6_refuse dC dI (va_A [(h6, .inr (6, [b0, b1, b2, b3, b4, b5, b6, b7, b8]))] sz) h6 k1 b0 b1 b2 b3 b4 b5 b6 b7 b8) (va_A [(h6, .inr (6, [b0, b1, b2, b3, b4, b5, b6, b7, b8]))] sz)) 1 6 (va_A [(h6, .inr (6, [b0, b1, b2, b3, b4, b5, b6, b7, b8]))] sz) := by
  refine vx_ofW (cc := cX6_refuse) (maxL := 2) (ret := none) (by decide) rfl ?_
  intro p e s m args below meth c s₁ B hml hex hv
  obtain ⟨rfl, hsz, hP, hK, hD0, hF9, hZ9⟩ := hv
  have hx := B.exec
  have hb := B.bytes
  have hr := B.returns
  have hts := atoms_spec (ws := wv_X6_refuse) B.pre
  have hown : s.vm.findClass RX6 = some m.cls := findClass_of_methodNamed B.named
  have hlocks := B.notSynchronized
  subst hsz
  have hD := hD0.self (sz := s.heap.size)
  generalize hAe : va_A [(h6, .inr (6, [b0, b1, b2, b3, b4, b5, b6, b7, b8]))] s.heap.size = A at hD hZ9 ⊢
  have hA : ∀ q : Nat, s.heap.size ≤ q → A q := fun q h => by rw [← hAe]; exact Or.inr h
  have hS : va_S A s.heap s.heap [] := va_S.rf
  have hP : va_P (dC, dI) vwCl [(h6, .inr (6, [b0, b1, b2, b3, b4, b5, b6, b7, b8]))] s.heap := hP
  have hl := lv_entry ([.ref h6, .int k1]) (n := 2) (Nat.le_of_ble_eq_true rfl)
  rw [lg_entry_eq]
  generalize (lg_sl ([.ref h6, .int k1]) ++ List.replicate (2 - (lg_sl ([.ref h6, .int k1])).length) Slot.unset).toArray = ls at hl ⊢
  have hl : lv_has ls 2 [(0, .ref h6), (1, .int k1)] := hl
  have hout : ∀ {k : Nat}, ∀ x ∈ c.exceptionTable.toList, covers x k = false := fun x h => (hex x h).elim
  refine lv_aload_n hx hb dX6_refuse_0 rfl (lv_at hl 0 rfl) ?_
  refine lv_iload_n hx hb dX6_refuse_1 rfl (lv_at hl 1 rfl) ?_
  refine va_put (D := (dC, dI)) (ci := 6) (v := .int k1) (ty := .int) (C := RX6) (T := TX6) (N := 9) hx hb hts wh_X6_refuse_X6 tyX6 tyX6_ok nmX6 hown hK hP hD hS 0 rfl rfl 6 (by decide) (hts (.fieldLink RX6 28 "StreamHouse$Parser" "fault" "I") (wm_X6_refuse 0 rfl)) (fun _ h9 => h9) rfl (by decide +kernel) rfl rfl (Nat.le_of_ble_eq_true rfl) dX6_refuse_2 (fun H locs hP hD hS => ?_)
  have hP : va_P (dC, dI) vwCl [(h6, .inr (6, [b0, b1, b2, b3, b4, b5, .int k1, b7, b8]))] H := hP
  have hD : va_D A [(h6, .inr (6, [b0, b1, b2, b3, b4, b5, .int k1, b7, b8]))] := hD
  have h_1 : 1 ≤ 1 := by decide
  have h_2 : 6 ≤ 6 := by decide
  have hat9 : ∀ w ∈ vx_at0 RX6 265 "java/lang/IllegalArgumentException" ["java/lang/RuntimeException", "java/lang/Exception"], w.before _ s = true := vx_hat (B := [.declares (Bundle.init0 "java/lang/RuntimeException"), .declares (Bundle.init0 "java/lang/Exception"), .declares (Bundle.init0 Bundle.tN), .castable "java/lang/IllegalArgumentException" "java/lang/IllegalArgumentException"]) (fun w hw => hts w (wx_X6_refuse_265 w hw)) (by decide +kernel) (vx_c (va_Nw.use rfl hF9.1) (vx_c (va_Nw.use rfl hF9.2.1) (vx_c (va_Nw.use rfl hF9.2.2.1) (vx_c (va_Nw.use rfl hF9.2.2.2.2.1) vx_n))))
  have hP9 := hP.sub (ws' := [(h6, .inr (6, [b0, b1, b2, b3, b4, b5, .int k1, b7, b8]))]) [0] rfl
  have hD9 := hD.sub (ws' := [(h6, .inr (6, [b0, b1, b2, b3, b4, b5, .int k1, b7, b8]))]) [0] (by decide) rfl
  have hK9 := hK.sub (tys' := []) [] rfl
  exact vx_throw0 (A := A) hx hb hl0 hown (by decide +kernel) (by decide +kernel) (hts (.classLink RX6 64 "java/lang/IllegalArgumentException") (wm_X6_refuse 1 rfl)) (hts (.initialized "java/lang/IllegalArgumentException") (wm_X6_refuse 2 rfl)) hat9 (by decide +kernel) hZ9.1 hZ9.2 hS (hl.1.trans hml.symm) dX6_refuse_5 dX6_refuse_8 dX6_refuse_9 dX6_refuse_12 hout (by decide) (by decide) h_1 h_2 hlocks (fun t9 ha9 hz9 hk9 => ⟨(), trivial, ⟨rfl, (xz_keep hS hP9 hz9 hk9).1, va_K.moved ha9 hK9, hD9⟩, (xz_keep hS hP9 hz9 hk9).2⟩) hS.2.2 (by decide) (by decide)

abbrev ax_X6_cannotStand (dC : Nat → ClassId) (dI : Nat → Nat → Nat) (A : Nat → Prop) (h6 : Nat) (b0 b1 b2 b4 b5 b6 b7 b8 : Value) (E : String) (_ : Unit) (t : State) : Prop := E = "java/lang/IllegalArgumentException" ∧ va_P (dC, dI) vwCl [(h6, .inr (6, [b0, b1, b2, .int 0, b4, b5, .int 3, b7, b8]))] t.heap ∧ va_K (dC, dI) vwCl [] t ∧ va_D A [(h6, .inr (6, [b0, b1, b2, .int 0, b4, b5, .int 3, b7, b8]))]
theorem dX6_cannotStand_0 : decode cX6_cannotStand 0 = .ok (.aload_n 0, 1) := by decide +kernel
theorem dX6_cannotStand_1 : decode cX6_cannotStand 1 = .ok (.aload_n 0, 1) := by decide +kernel
theorem dX6_cannotStand_2 : decode cX6_cannotStand 2 = .ok (.getfield 43, 3) := by decide +kernel
theorem dX6_cannotStand_5 : decode cX6_cannotStand 5 = .ok (.ifCond .ne 7, 3) := by decide +kernel
theorem dX6_cannotStand_8 : decode cX6_cannotStand 8 = .ok (.iconst 3, 1) := by decide +kernel
theorem dX6_cannotStand_9 : decode cX6_cannotStand 9 = .ok (.goto 4, 3) := by decide +kernel
theorem dX6_cannotStand_13 : decode cX6_cannotStand 13 = .ok (.invokevirtual 81, 3) := by decide +kernel
def ww_X6_cannotStand : List Cond := [.fieldLink RX6 43 "StreamHouse$Parser" "token" "I", .methodLink RX6 81 yX6_refuse, .instanceMethod yX6_refuse, .selects RX6 yX6_refuse yX6_refuse, .initialized RX6]
def wv_X6_cannotStand : List Cond := .code yX6_cannotStand cX6_cannotStand 1 none :: (ww_X6_cannotStand ++ (u_ws RX6 TX6 9 ++ (wv_X6_refuse ++ [])))
theorem wm_X6_cannotStand {w : Cond} (i : Nat) (h : ww_X6_cannotStand[i]? = some w) : w ∈ wv_X6_cannotStand := List.mem_cons_of_mem _ (List.mem_append_left _ (List.mem_of_getElem? h))
set_option maxRecDepth 100000 in
theorem gw_X6_cannotStand : wv_X6_cannotStand.all goodWord = true := by decide +kernel
theorem wh_X6_cannotStand_X6 : ∀ w ∈ u_ws RX6 TX6 9, w ∈ wv_X6_cannotStand := fun w h => List.mem_cons_of_mem _ (List.mem_append_right _ (List.mem_append_left _ h))
theorem wg_X6_cannotStand_X6_refuse : GoodIn wv_X6_cannotStand wv_X6_refuse := goodIn_sub (fun w h => List.mem_cons_of_mem _ (List.mem_append_right _ (List.mem_append_right _ (List.mem_append_left _ h)))) gw_X6_refuse
theorem wV_X6_cannotStand_X6_refuse_81 : GoodIn wv_X6_cannotStand (wsV RX6 81 RX6 yX6_refuse wv_X6_refuse) := goodIn_app (goodIn_sub (fun w h => by simp only [List.mem_cons, List.not_mem_nil, or_false] at h; rcases h with rfl | rfl | rfl | rfl <;> first | exact wm_X6_cannotStand 1 rfl | exact wm_X6_cannotStand 2 rfl | exact wm_X6_cannotStand 3 rfl | exact wm_X6_cannotStand 4 rfl) (by decide +kernel)) wg_X6_cannotStand_X6_refuse
set_option maxHeartbeats 4000000 in
set_option maxRecDepth 100000 in
/-- cannotStand() at the end of the text -/
theorem x_X6_cannotStand (l : Launch) (hl0 : l.stackTraces = false) (dC : Nat → ClassId) (dI : Nat → Nat → Nat) (h6 : Nat) (b0 b1 b2 b4 b5 b6 b7 b8 : Value) (sz : Nat) : vx_Met l yX6_cannotStand wv_X6_cannotStand ({ frames := 7, cells := 1, slots := 6, locals := 102 }) (va_Pc [.ref h6] (fun U => U.heap.size = sz ∧ va_P (dC, dI) vwCl [(h6, .inr (6, [b0, b1, b2, .int 0, b4, b5, b6, b7, b8]))] U.heap ∧ va_K (dC, dI) vwCl [] U ∧ va_D (fun _ => True) [(h6, .inr (6, [b0, b1, b2, .int 0, b4, b5, b6, b7, b8]))] ∧ xz_F U ∧ xz_Z (va_A [(h6, .inr (6, [b0, b1, b2, .int 0, b4, b5, b6, b7, b8]))] sz) U U.heap)) (va_Qv (fun _ : Unit => False) (fun _ _ => True) (va_A [(h6, .inr (6, [b0, b1, b2, .int 0, b4, b5, b6, b7, b8]))] sz)) (vx_X (fun _ : Unit => True) (ax_X6_cannotStand dC dI (va_A [(h6, .inr (6, [b0, b1, b2, .int 0, b4, b5, b6, b7, b8]))] sz) h6 b0 b1 b2 b4 b5 b6 b7 b8) (va_A [(h6, .inr (6, [b0, b1, b2, .int 0, b4, b5, b6, b7, b8]))] sz)) 1 6 (va_A [(h6, .inr (6, [b0, b1, b2, .int 0, b4, b5, b6, b7, b8]))] sz) := by
  refine vx_ofW (cc := cX6_cannotStand) (maxL := 1) (ret := none) (by decide) rfl ?_
  intro p e s m args below meth c s₁ B hml hex hv
  obtain ⟨rfl, hsz, hP, hK, hD0, hF9, hZ9⟩ := hv
  have hx := B.exec
  have hb := B.bytes
  have hr := B.returns
  have hts := atoms_spec (ws := wv_X6_cannotStand) B.pre
  have hown : s.vm.findClass RX6 = some m.cls := findClass_of_methodNamed B.named
  have hlocks := B.notSynchronized
  subst hsz
  have hD := hD0.self (sz := s.heap.size)
  generalize hAe : va_A [(h6, .inr (6, [b0, b1, b2, .int 0, b4, b5, b6, b7, b8]))] s.heap.size = A at hD hZ9 ⊢
  have hA : ∀ q : Nat, s.heap.size ≤ q → A q := fun q h => by rw [← hAe]; exact Or.inr h
  have hS : va_S A s.heap s.heap [] := va_S.rf
  have hP : va_P (dC, dI) vwCl [(h6, .inr (6, [b0, b1, b2, .int 0, b4, b5, b6, b7, b8]))] s.heap := hP
  have hl := lv_entry ([.ref h6]) (n := 1) (Nat.le_of_ble_eq_true rfl)
  rw [lg_entry_eq]
  generalize (lg_sl ([.ref h6]) ++ List.replicate (1 - (lg_sl ([.ref h6])).length) Slot.unset).toArray = ls at hl ⊢
  have hl : lv_has ls 1 [(0, .ref h6)] := hl
  have hout : ∀ {k : Nat}, ∀ x ∈ c.exceptionTable.toList, covers x k = false := fun x h => (hex x h).elim
  refine lv_aload_n hx hb dX6_cannotStand_0 rfl (lv_at hl 0 rfl) ?_
  refine lv_aload_n hx hb dX6_cannotStand_1 rfl (lv_at hl 0 rfl) ?_
  refine va_get (D := (dC, dI)) (ci := 6) (v := .int 0) (C := RX6) (T := TX6) (N := 9) hx hb hts wh_X6_cannotStand_X6 hown hK hP 0 rfl rfl 3 (by decide) (hts (.fieldLink RX6 43 "StreamHouse$Parser" "token" "I") (wm_X6_cannotStand 0 rfl)) (fun _ h9 => h9) rfl dX6_cannotStand_2 ?_
  refine lv_if_ne (tgt := 12) hx hb dX6_cannotStand_5 (by decide) (fun h9 => absurd (by decide) h9) (fun _ => ?_)
  refine lv_iconst (v := 3) hx hb dX6_cannotStand_8 (by decide) ?_
  refine lv_goto (tgt := 13) hx hb dX6_cannotStand_9 (by decide) ?_
  have hPc := hP.sub (ws' := [(h6, .inr (6, [b0, b1, b2, .int 0, b4, b5, b6, b7, b8]))]) [0] rfl
  have hDc := hD.sub (ws' := [(h6, .inr (6, [b0, b1, b2, .int 0, b4, b5, b6, b7, b8]))]) [0] (by decide) rfl
  have hKc := hK.sub (tys' := []) [] rfl
  have hFc := va_free (wc := [(h6, .inr (6, [b0, b1, b2, .int 0, b4, b5, b6, b7, b8]))]) hD hS hA [0] rfl
  have h_1 : 1 ≤ 1 := by decide
  have h_2 : 6 ≤ 6 := by decide
  refine xz_callX (vx_runV (As := [.int 3]) (rest := []) ⟨hx, hb, hml, hown, hts⟩ (x_X6_refuse l hl0 dC dI h6 3 b0 b1 b2 (.int 0) b4 b5 b6 b7 b8 _) (cwV 1 hts wV_X6_cannotStand_X6_refuse_81 rfl rfl rfl (by decide +kernel) ⟨Nat.le_of_ble_eq_true rfl, Nat.le_of_ble_eq_true rfl⟩) ⟨fun a U g mk q => by obtain ⟨q0, q1, qP, qK, qD, qf0, qf1⟩ := q; exact ⟨q0, q1, qP, va_K.moved (u := U) (U := U.calling g mk a) (Vm.Alike.refl U.vm) qK, qD, xz_F.same rfl qf0, xz_Z.same (Vm.Alike.refl _) rfl qf1⟩, va_recv hKc hPc (ci := 6) (q0 := 0) rfl rfl, fun U hU hW => ⟨rfl, by rw [hU], by rw [hU]; exact hPc, va_K.moved hW.alike hKc, hDc.weaken (fun _ _ _ _ => trivial), xz_F.warm hW hF9, (hZ9.to hS hFc hW.alike hU)⟩⟩ rfl rfl hl.1 rfl (lv_room (Nat.le_of_ble_eq_true rfl)) dX6_cannotStand_13 ⟨h_1, h_2⟩) (fun _ _ _ h9 => by obtain ⟨⟨_, h9⟩, _⟩ := h9; simp at h9) hS hFc (fun q _ h => hFc q h) (fun E ce x3 u t H1 locs ht hvm hw hB hz1 hk1 hS hce hcv hcl => ?_)
  obtain ⟨hE, hP1, hK1, hD1⟩ := hB
  subst hE
  rw [ht] at hP1
  have hK1 := va_K.moved hvm.symm hK1
  obtain ⟨hP, hD⟩ := va_join (wr := []) (w1 := [(h6, .inr (6, [b0, b1, b2, .int 0, b4, b5, .int 3, b7, b8]))]) hP hD [0] [] rfl rfl (by decide) (by decide) hk1 hFc hP1 hD1
  have hK := (hK.sub (tys' := []) [] rfl).app hK1
  generalize H1 = H at hP hS hce ⊢
  have hP : va_P (dC, dI) vwCl [(h6, .inr (6, [b0, b1, b2, .int 0, b4, b5, .int 3, b7, b8]))] H := hP
  have hD : va_D A [(h6, .inr (6, [b0, b1, b2, .int 0, b4, b5, .int 3, b7, b8]))] := hD
  have hK : va_K (dC, dI) vwCl [] s := hK
  refine vx_widen (k := 1) (n := 6) (by decide) (by decide) ?_
  have hP9 := hP.sub (ws' := [(h6, .inr (6, [b0, b1, b2, .int 0, b4, b5, .int 3, b7, b8]))]) [0] rfl
  have hD9 := hD.sub (ws' := [(h6, .inr (6, [b0, b1, b2, .int 0, b4, b5, .int 3, b7, b8]))]) [0] (by decide) rfl
  have hK9 := hK.sub (tys' := []) [] rfl
  exact vx_out hout hlocks hce hcv hcl (fun t9 e9 a9 => ⟨(), trivial, ⟨rfl, by rw [e9]; exact hP9, va_K.moved a9 hK9, hD9⟩, hS.F e9⟩) hS.2.2 (by decide) (by decide)

abbrev ar_X6_isWord (dC : Nat → ClassId) (dI : Nat → Nat → Nat) (A : Nat → Prop) (h6 : Nat) (b0 b1 b2 b4 b5 b6 b7 b8 : Value) (_ : Unit) (t : State) : Prop := va_P (dC, dI) vwCl [(h6, .inr (6, [b0, b1, b2, .int 0, b4, b5, b6, b7, b8]))] t.heap ∧ va_K (dC, dI) vwCl [] t ∧ va_D A [(h6, .inr (6, [b0, b1, b2, .int 0, b4, b5, b6, b7, b8]))]
theorem dX6_isWord_0 : decode cX6_isWord 0 = .ok (.aload_n 0, 1) := by decide +kernel
theorem dX6_isWord_1 : decode cX6_isWord 1 = .ok (.getfield 43, 3) := by decide +kernel
theorem dX6_isWord_4 : decode cX6_isWord 4 = .ok (.iconst 2, 1) := by decide +kernel
theorem dX6_isWord_5 : decode cX6_isWord 5 = .ok (.if_icmp .ne 17, 3) := by decide +kernel
theorem dX6_isWord_22 : decode cX6_isWord 22 = .ok (.iconst 0, 1) := by decide +kernel
theorem dX6_isWord_23 : decode cX6_isWord 23 = .ok (.ireturn, 1) := by decide +kernel
def ww_X6_isWord : List Cond := [.fieldLink RX6 43 "StreamHouse$Parser" "token" "I"]
def wv_X6_isWord : List Cond := .code yX6_isWord cX6_isWord 2 (some .boolean) :: (ww_X6_isWord ++ (u_ws RX6 TX6 9 ++ []))
theorem wm_X6_isWord {w : Cond} (i : Nat) (h : ww_X6_isWord[i]? = some w) : w ∈ wv_X6_isWord := List.mem_cons_of_mem _ (List.mem_append_left _ (List.mem_of_getElem? h))
set_option maxRecDepth 100000 in
theorem gw_X6_isWord : wv_X6_isWord.all goodWord = true := by decide +kernel
theorem wh_X6_isWord_X6 : ∀ w ∈ u_ws RX6 TX6 9, w ∈ wv_X6_isWord := fun w h => List.mem_cons_of_mem _ (List.mem_append_right _ (List.mem_append_left _ h))
set_option maxHeartbeats 4000000 in
set_option maxRecDepth 100000 in
/-- isWord(output) at the end of the text -/
theorem r_X6_isWord (l : Launch) (dC : Nat → ClassId) (dI : Nat → Nat → Nat) (h6 : Nat) (b0 b1 b2 b4 b5 b6 b7 b8 : Value) (sz : Nat) : Met l yX6_isWord wv_X6_isWord ({ frames := 0, cells := 0, slots := 0, locals := 0 }) (va_Pc [.ref h6, .int 17] (fun U => U.heap.size = sz ∧ va_P (dC, dI) vwCl [(h6, .inr (6, [b0, b1, b2, .int 0, b4, b5, b6, b7, b8]))] U.heap ∧ va_K (dC, dI) vwCl [] U ∧ va_D (fun _ => True) [(h6, .inr (6, [b0, b1, b2, .int 0, b4, b5, b6, b7, b8]))])) (va_Qi (fun r (_ : Unit) => r = 0) (ar_X6_isWord dC dI (va_A [(h6, .inr (6, [b0, b1, b2, .int 0, b4, b5, b6, b7, b8]))] sz) h6 b0 b1 b2 b4 b5 b6 b7 b8) (va_A [(h6, .inr (6, [b0, b1, b2, .int 0, b4, b5, b6, b7, b8]))] sz)) 0 0 (va_A [(h6, .inr (6, [b0, b1, b2, .int 0, b4, b5, b6, b7, b8]))] sz) := by
  refine Met.ofW (cc := cX6_isWord) (maxL := 2) (ret := (some .boolean)) (by decide) rfl ?_
  intro p e s m args below meth c s₁ B hml hv
  obtain ⟨rfl, hsz, hP, hK, hD0⟩ := hv
  have hx := B.exec
  have hb := B.bytes
  have hr := B.returns
  have hts := atoms_spec (ws := wv_X6_isWord) B.pre
  have hown : s.vm.findClass RX6 = some m.cls := findClass_of_methodNamed B.named
  have hlocks := B.notSynchronized
  subst hsz
  have hD := hD0.self (sz := s.heap.size)
  generalize hAe : va_A [(h6, .inr (6, [b0, b1, b2, .int 0, b4, b5, b6, b7, b8]))] s.heap.size = A at hD ⊢
  have hA : ∀ q : Nat, s.heap.size ≤ q → A q := fun q h => by rw [← hAe]; exact Or.inr h
  have hS : va_S A s.heap s.heap [] := va_S.rf
  have hP : va_P (dC, dI) vwCl [(h6, .inr (6, [b0, b1, b2, .int 0, b4, b5, b6, b7, b8]))] s.heap := hP
  have hl := lv_entry ([.ref h6, .int 17]) (n := 2) (Nat.le_of_ble_eq_true rfl)
  rw [lg_entry_eq]
  generalize (lg_sl ([.ref h6, .int 17]) ++ List.replicate (2 - (lg_sl ([.ref h6, .int 17])).length) Slot.unset).toArray = ls at hl ⊢
  have hl : lv_has ls 2 [(0, .ref h6), (1, .int 17)] := hl
  refine lv_aload_n hx hb dX6_isWord_0 rfl (lv_at hl 0 rfl) ?_
  refine va_get (D := (dC, dI)) (ci := 6) (v := .int 0) (C := RX6) (T := TX6) (N := 9) hx hb hts wh_X6_isWord_X6 hown hK hP 0 rfl rfl 3 (by decide) (hts (.fieldLink RX6 43 "StreamHouse$Parser" "token" "I") (wm_X6_isWord 0 rfl)) (fun _ h9 => h9) rfl dX6_isWord_1 ?_
  refine lv_iconst (v := 2) hx hb dX6_isWord_4 (by decide) ?_
  refine lv_icmp_ne (tgt := 22) hx hb dX6_isWord_5 (by decide) (fun _ => ?_) (fun h9 => absurd h9 (by decide))
  refine lv_iconst (v := 0) hx hb dX6_isWord_22 (by decide) ?_
  have hP9 := hP.sub (ws' := [(h6, .inr (6, [b0, b1, b2, .int 0, b4, b5, b6, b7, b8]))]) [0] rfl
  have hD9 := hD.sub (ws' := [(h6, .inr (6, [b0, b1, b2, .int 0, b4, b5, b6, b7, b8]))]) [0] (by decide) rfl
  have hK9 := hK.sub (tys' := []) [] rfl
  refine W.widen (k := 0) (n := 0) (by decide) (by decide) ?_
  exact W.zret (v := 0) hx hb hr rfl (fun t ht hW => ⟨⟨0, (), rfl, rfl, by rw [ht]; exact hP9, va_K.moved hW.alike hK9, hD9⟩, hS.F ht⟩) hS.2.2 dX6_isWord_23

abbrev ax_X6_statementHead (dC : Nat → ClassId) (dI : Nat → Nat → Nat) (A : Nat → Prop) (h6 : Nat) (b0 b1 b2 b4 b5 b6 b7 b8 : Value) (E : String) (_ : Unit) (t : State) : Prop := E = "java/lang/IllegalArgumentException" ∧ va_P (dC, dI) vwCl [(h6, .inr (6, [b0, b1, b2, .int 0, b4, b5, .int 3, b7, b8]))] t.heap ∧ va_K (dC, dI) vwCl [] t ∧ va_D A [(h6, .inr (6, [b0, b1, b2, .int 0, b4, b5, .int 3, b7, b8]))]
theorem dX6_statementHead_0 : decode cX6_statementHead 0 = .ok (.aload_n 0, 1) := by decide +kernel
theorem dX6_statementHead_1 : decode cX6_statementHead 1 = .ok (.bipush 17, 2) := by decide +kernel
theorem dX6_statementHead_3 : decode cX6_statementHead 3 = .ok (.invokevirtual 66, 3) := by decide +kernel
theorem dX6_statementHead_6 : decode cX6_statementHead 6 = .ok (.istore_n 1, 1) := by decide +kernel
theorem dX6_statementHead_7 : decode cX6_statementHead 7 = .ok (.iload_n 1, 1) := by decide +kernel
theorem dX6_statementHead_8 : decode cX6_statementHead 8 = .ok (.ifCond .ne 15, 3) := by decide +kernel
theorem dX6_statementHead_11 : decode cX6_statementHead 11 = .ok (.aload_n 0, 1) := by decide +kernel
theorem dX6_statementHead_12 : decode cX6_statementHead 12 = .ok (.getfield 43, 3) := by decide +kernel
theorem dX6_statementHead_15 : decode cX6_statementHead 15 = .ok (.iconst 1, 1) := by decide +kernel
theorem dX6_statementHead_16 : decode cX6_statementHead 16 = .ok (.if_icmp .eq 7, 3) := by decide +kernel
theorem dX6_statementHead_19 : decode cX6_statementHead 19 = .ok (.aload_n 0, 1) := by decide +kernel
theorem dX6_statementHead_20 : decode cX6_statementHead 20 = .ok (.invokevirtual 70, 3) := by decide +kernel
def ww_X6_statementHead : List Cond := [.initialized RX6, .methodLink RX6 66 yX6_isWord, .instanceMethod yX6_isWord, .selects RX6 yX6_isWord yX6_isWord, .fieldLink RX6 43 "StreamHouse$Parser" "token" "I", .methodLink RX6 70 yX6_cannotStand, .instanceMethod yX6_cannotStand, .selects RX6 yX6_cannotStand yX6_cannotStand]
def wv_X6_statementHead : List Cond := .code yX6_statementHead cX6_statementHead 2 (some .boolean) :: (ww_X6_statementHead ++ (wv_X6_isWord ++ (u_ws RX6 TX6 9 ++ (wv_X6_cannotStand ++ []))))
theorem wm_X6_statementHead {w : Cond} (i : Nat) (h : ww_X6_statementHead[i]? = some w) : w ∈ wv_X6_statementHead := List.mem_cons_of_mem _ (List.mem_append_left _ (List.mem_of_getElem? h))
set_option maxRecDepth 100000 in
theorem gw_X6_statementHead : wv_X6_statementHead.all goodWord = true := by decide +kernel
theorem wg_X6_statementHead_X6_isWord : GoodIn wv_X6_statementHead wv_X6_isWord := goodIn_sub (fun w h => List.mem_cons_of_mem _ (List.mem_append_right _ (List.mem_append_left _ h))) gw_X6_isWord
theorem wV_X6_statementHead_X6_isWord_66 : GoodIn wv_X6_statementHead (wsV RX6 66 RX6 yX6_isWord wv_X6_isWord) := goodIn_app (goodIn_sub (fun w h => by simp only [List.mem_cons, List.not_mem_nil, or_false] at h; rcases h with rfl | rfl | rfl | rfl <;> first | exact wm_X6_statementHead 1 rfl | exact wm_X6_statementHead 2 rfl | exact wm_X6_statementHead 3 rfl | exact wm_X6_statementHead 0 rfl) (by decide +kernel)) wg_X6_statementHead_X6_isWord
theorem wh_X6_statementHead_X6 : ∀ w ∈ u_ws RX6 TX6 9, w ∈ wv_X6_statementHead := fun w h => List.mem_cons_of_mem _ (List.mem_append_right _ (List.mem_append_right _ (List.mem_append_left _ h)))
theorem wg_X6_statementHead_X6_cannotStand : GoodIn wv_X6_statementHead wv_X6_cannotStand := goodIn_sub (fun w h => List.mem_cons_of_mem _ (List.mem_append_right _ (List.mem_append_right _ (List.mem_append_right _ (List.mem_append_left _ h))))) gw_X6_cannotStand
theorem wV_X6_statementHead_X6_cannotStand_70 : GoodIn wv_X6_statementHead (wsV RX6 70 RX6 yX6_cannotStand wv_X6_cannotStand) := goodIn_app (goodIn_sub (fun w h => by simp only [List.mem_cons, List.not_mem_nil, or_false] at h; rcases h with rfl | rfl | rfl | rfl <;> first | exact wm_X6_statementHead 5 rfl | exact wm_X6_statementHead 6 rfl | exact wm_X6_statementHead 7 rfl | exact wm_X6_statementHead 0 rfl) (by decide +kernel)) wg_X6_statementHead_X6_cannotStand
set_option maxHeartbeats 4000000 in
set_option maxRecDepth 100000 in
/-- statementHead() at the end of the text -/
theorem x_X6_statementHead (l : Launch) (hl0 : l.stackTraces = false) (dC : Nat → ClassId) (dI : Nat → Nat → Nat) (h6 : Nat) (b0 b1 b2 b4 b5 b6 b7 b8 : Value) (sz : Nat) : vx_Met l yX6_statementHead wv_X6_statementHead ({ frames := 8, cells := 1, slots := 6, locals := 122 }) (va_Pc [.ref h6] (fun U => U.heap.size = sz ∧ va_P (dC, dI) vwCl [(h6, .inr (6, [b0, b1, b2, .int 0, b4, b5, b6, b7, b8]))] U.heap ∧ va_K (dC, dI) vwCl [] U ∧ va_D (fun _ => True) [(h6, .inr (6, [b0, b1, b2, .int 0, b4, b5, b6, b7, b8]))] ∧ xz_F U ∧ xz_Z (va_A [(h6, .inr (6, [b0, b1, b2, .int 0, b4, b5, b6, b7, b8]))] sz) U U.heap)) (va_Qi (fun _ (_ : Unit) => False) (fun _ _ => True) (va_A [(h6, .inr (6, [b0, b1, b2, .int 0, b4, b5, b6, b7, b8]))] sz)) (vx_X (fun _ : Unit => True) (ax_X6_statementHead dC dI (va_A [(h6, .inr (6, [b0, b1, b2, .int 0, b4, b5, b6, b7, b8]))] sz) h6 b0 b1 b2 b4 b5 b6 b7 b8) (va_A [(h6, .inr (6, [b0, b1, b2, .int 0, b4, b5, b6, b7, b8]))] sz)) 1 6 (va_A [(h6, .inr (6, [b0, b1, b2, .int 0, b4, b5, b6, b7, b8]))] sz) := by
  refine vx_ofW (cc := cX6_statementHead) (maxL := 2) (ret := (some .boolean)) (by decide) rfl ?_
  intro p e s m args below meth c s₁ B hml hex hv
  obtain ⟨rfl, hsz, hP, hK, hD0, hF9, hZ9⟩ := hv
  have hx := B.exec
  have hb := B.bytes
  have hr := B.returns
  have hts := atoms_spec (ws := wv_X6_statementHead) B.pre
  have hown : s.vm.findClass RX6 = some m.cls := findClass_of_methodNamed B.named
  have hlocks := B.notSynchronized
  subst hsz
  have hD := hD0.self (sz := s.heap.size)
  generalize hAe : va_A [(h6, .inr (6, [b0, b1, b2, .int 0, b4, b5, b6, b7, b8]))] s.heap.size = A at hD hZ9 ⊢
  have hA : ∀ q : Nat, s.heap.size ≤ q → A q := fun q h => by rw [← hAe]; exact Or.inr h
  have hS : va_S A s.heap s.heap [] := va_S.rf
  have hP : va_P (dC, dI) vwCl [(h6, .inr (6, [b0, b1, b2, .int 0, b4, b5, b6, b7, b8]))] s.heap := hP
  have hl := lv_entry ([.ref h6]) (n := 2) (Nat.le_of_ble_eq_true rfl)
  rw [lg_entry_eq]
  generalize (lg_sl ([.ref h6]) ++ List.replicate (2 - (lg_sl ([.ref h6])).length) Slot.unset).toArray = ls at hl ⊢
  have hl : lv_has ls 2 [(0, .ref h6)] := hl
  have hout : ∀ {k : Nat}, ∀ x ∈ c.exceptionTable.toList, covers x k = false := fun x h => (hex x h).elim
  refine lv_aload_n hx hb dX6_statementHead_0 rfl (lv_at hl 0 rfl) ?_
  refine lv_bipush (v := 17) hx hb dX6_statementHead_1 (by decide) ?_
  have hPc := hP.sub (ws' := [(h6, .inr (6, [b0, b1, b2, .int 0, b4, b5, b6, b7, b8]))]) [0] rfl
  have hDc := hD.sub (ws' := [(h6, .inr (6, [b0, b1, b2, .int 0, b4, b5, b6, b7, b8]))]) [0] (by decide) rfl
  have hKc := hK.sub (tys' := []) [] rfl
  have hFc := va_free (wc := [(h6, .inr (6, [b0, b1, b2, .int 0, b4, b5, b6, b7, b8]))]) hD hS hA [0] rfl
  have h_1 : 0 ≤ 1 := by decide
  have h_2 : 0 ≤ 6 := by decide
  refine va_calli (va_runV (As := [.int 17]) (rest := []) ⟨hx, hb, hml, hown, hts⟩ (r_X6_isWord l dC dI h6 b0 b1 b2 b4 b5 b6 b7 b8 _) (cwV 1 hts wV_X6_statementHead_X6_isWord_66 rfl rfl rfl (by decide +kernel) ⟨Nat.le_of_ble_eq_true rfl, Nat.le_of_ble_eq_true rfl⟩) ⟨fun a U g mk q => by obtain ⟨q0, q1, qP, qK, qD⟩ := q; exact ⟨q0, q1, qP, va_K.moved (u := U) (U := U.calling g mk a) (Vm.Alike.refl U.vm) qK, qD⟩, va_recv hKc hPc (ci := 6) (q0 := 0) rfl rfl, fun U hU hW => ⟨rfl, by rw [hU], by rw [hU]; exact hPc, va_K.moved hW.alike hKc, hDc.weaken (fun _ _ _ _ => trivial)⟩⟩ rfl rfl hl.1 rfl (lv_room (Nat.le_of_ble_eq_true rfl)) dX6_statementHead_3 ⟨h_1, h_2⟩) hS (fun q _ h => hFc q h) hFc (fun y4 u3 t H1 locs ht hvm hw hB hz1 hk1 hS => ?_)
  obtain ⟨hP1, hK1, hD1⟩ := hB
  rw [ht] at hP1
  have hK1 := va_K.moved hvm.symm hK1
  obtain ⟨hP, hD⟩ := va_join (wr := []) (w1 := [(h6, .inr (6, [b0, b1, b2, .int 0, b4, b5, b6, b7, b8]))]) hP hD [0] [] rfl rfl (by decide) (by decide) hk1 hFc hP1 hD1
  have hK := (hK.sub (tys' := []) [] rfl).app hK1
  generalize H1 = H at hP hS ⊢
  have hP : va_P (dC, dI) vwCl [(h6, .inr (6, [b0, b1, b2, .int 0, b4, b5, b6, b7, b8]))] H := hP
  have hD : va_D A [(h6, .inr (6, [b0, b1, b2, .int 0, b4, b5, b6, b7, b8]))] := hD
  have hK : va_K (dC, dI) vwCl [] s := hK
  refine W.widen (k := 0) (n := 0) (by decide) (by decide) ?_
  have hw : y4 = 0 := hw
  subst hw
  refine lv_istore_n (lv' := [(1, .int 0), (0, .ref h6)]) hx hb dX6_statementHead_6 rfl hl (by decide) rfl (fun ls hl => ?_)
  refine lv_iload_n hx hb dX6_statementHead_7 rfl (lv_at hl 0 rfl) ?_
  refine lv_if_ne (tgt := 23) hx hb dX6_statementHead_8 (by decide) (fun h9 => absurd (by decide) h9) (fun _ => ?_)
  refine lv_aload_n hx hb dX6_statementHead_11 rfl (lv_at hl 1 rfl) ?_
  refine va_get (D := (dC, dI)) (ci := 6) (v := .int 0) (C := RX6) (T := TX6) (N := 9) hx hb hts wh_X6_statementHead_X6 hown hK hP 0 rfl rfl 3 (by decide) (hts (.fieldLink RX6 43 "StreamHouse$Parser" "token" "I") (wm_X6_statementHead 4 rfl)) (fun _ h9 => h9) rfl dX6_statementHead_12 ?_
  refine lv_iconst (v := 1) hx hb dX6_statementHead_15 (by decide) ?_
  refine lv_icmp_eq (tgt := 23) hx hb dX6_statementHead_16 (by decide) (fun h9 => absurd h9 (by decide)) (fun _ => ?_)
  refine lv_aload_n hx hb dX6_statementHead_19 rfl (lv_at hl 1 rfl) ?_
  have hPc := hP.sub (ws' := [(h6, .inr (6, [b0, b1, b2, .int 0, b4, b5, b6, b7, b8]))]) [0] rfl
  have hDc := hD.sub (ws' := [(h6, .inr (6, [b0, b1, b2, .int 0, b4, b5, b6, b7, b8]))]) [0] (by decide) rfl
  have hKc := hK.sub (tys' := []) [] rfl
  have hFc := va_free (wc := [(h6, .inr (6, [b0, b1, b2, .int 0, b4, b5, b6, b7, b8]))]) hD hS hA [0] rfl
  have h_5 : 1 ≤ 1 := by decide
  have h_6 : 6 ≤ 6 := by decide
  refine xz_callX (vx_runV (As := []) (rest := []) ⟨hx, hb, hml, hown, hts⟩ (x_X6_cannotStand l hl0 dC dI h6 b0 b1 b2 b4 b5 b6 b7 b8 _) (cwV 0 hts wV_X6_statementHead_X6_cannotStand_70 rfl rfl rfl (by decide +kernel) ⟨Nat.le_of_ble_eq_true rfl, Nat.le_of_ble_eq_true rfl⟩) ⟨fun a U g mk q => by obtain ⟨q0, q1, qP, qK, qD, qf0, qf1⟩ := q; exact ⟨q0, q1, qP, va_K.moved (u := U) (U := U.calling g mk a) (Vm.Alike.refl U.vm) qK, qD, xz_F.same rfl qf0, xz_Z.same (Vm.Alike.refl _) rfl qf1⟩, va_recv hKc hPc (ci := 6) (q0 := 0) rfl rfl, fun U hU hW => ⟨rfl, by rw [hU], by rw [hU]; exact hPc, va_K.moved hW.alike hKc, hDc.weaken (fun _ _ _ _ => trivial), xz_F.warm hW hF9, (hZ9.to hS hFc hW.alike hU)⟩⟩ rfl rfl hl.1 rfl (lv_room (Nat.le_of_ble_eq_true rfl)) dX6_statementHead_20 ⟨h_5, h_6⟩) (fun _ _ _ h9 => by obtain ⟨⟨_, h9⟩, _⟩ := h9; simp at h9) hS hFc (fun q _ h => hFc q h) (fun E ce x7 u t H1 locs ht hvm hw hB hz1 hk1 hS hce hcv hcl => ?_)
  obtain ⟨hE, hP1, hK1, hD1⟩ := hB
  subst hE
  rw [ht] at hP1
  have hK1 := va_K.moved hvm.symm hK1
  obtain ⟨hP, hD⟩ := va_join (wr := []) (w1 := [(h6, .inr (6, [b0, b1, b2, .int 0, b4, b5, .int 3, b7, b8]))]) hP hD [0] [] rfl rfl (by decide) (by decide) hk1 hFc hP1 hD1
  have hK := (hK.sub (tys' := []) [] rfl).app hK1
  generalize H1 = H at hP hS hce ⊢
  have hP : va_P (dC, dI) vwCl [(h6, .inr (6, [b0, b1, b2, .int 0, b4, b5, .int 3, b7, b8]))] H := hP
  have hD : va_D A [(h6, .inr (6, [b0, b1, b2, .int 0, b4, b5, .int 3, b7, b8]))] := hD
  have hK : va_K (dC, dI) vwCl [] s := hK
  refine vx_widen (k := 1) (n := 6) (by decide) (by decide) ?_
  have hP9 := hP.sub (ws' := [(h6, .inr (6, [b0, b1, b2, .int 0, b4, b5, .int 3, b7, b8]))]) [0] rfl
  have hD9 := hD.sub (ws' := [(h6, .inr (6, [b0, b1, b2, .int 0, b4, b5, .int 3, b7, b8]))]) [0] (by decide) rfl
  have hK9 := hK.sub (tys' := []) [] rfl
  exact vx_out hout hlocks hce hcv hcl (fun t9 e9 a9 => ⟨(), trivial, ⟨rfl, by rw [e9]; exact hP9, va_K.moved a9 hK9, hD9⟩, hS.F e9⟩) hS.2.2 (by decide) (by decide)

abbrev ar_X6_next (dC : Nat → ClassId) (dI : Nat → Nat → Nat) (A : Nat → Prop) (h6 : Nat) (b0 b3 b4 b5 b6 b7 b8 : Value) (_ : Unit) (t : State) : Prop := va_P (dC, dI) vwCl [(h6, .inr (6, [b0, .int 0, .int 0, .int 0, b4, .int 0, b6, b7, b8]))] t.heap ∧ va_K (dC, dI) vwCl [] t ∧ va_D A [(h6, .inr (6, [b0, .int 0, .int 0, .int 0, b4, .int 0, b6, b7, b8]))]
theorem dX6_next_0 : decode cX6_next 0 = .ok (.iconst 0, 1) := by decide +kernel
theorem dX6_next_1 : decode cX6_next 1 = .ok (.istore_n 1, 1) := by decide +kernel
theorem dX6_next_2 : decode cX6_next 2 = .ok (.iload_n 1, 1) := by decide +kernel
theorem dX6_next_3 : decode cX6_next 3 = .ok (.sipush 1500, 3) := by decide +kernel
theorem dX6_next_6 : decode cX6_next 6 = .ok (.if_icmp .ge 56, 3) := by decide +kernel
theorem dX6_next_9 : decode cX6_next 9 = .ok (.aload_n 0, 1) := by decide +kernel
theorem dX6_next_10 : decode cX6_next 10 = .ok (.getfield 25, 3) := by decide +kernel
theorem dX6_next_13 : decode cX6_next 13 = .ok (.aload_n 0, 1) := by decide +kernel
theorem dX6_next_14 : decode cX6_next 14 = .ok (.getfield 21, 3) := by decide +kernel
theorem dX6_next_17 : decode cX6_next 17 = .ok (.if_icmp .ge 45, 3) := by decide +kernel
theorem dX6_next_62 : decode cX6_next 62 = .ok (.aload_n 0, 1) := by decide +kernel
theorem dX6_next_63 : decode cX6_next 63 = .ok (.aload_n 0, 1) := by decide +kernel
theorem dX6_next_64 : decode cX6_next 64 = .ok (.getfield 25, 3) := by decide +kernel
theorem dX6_next_67 : decode cX6_next 67 = .ok (.putfield 266, 3) := by decide +kernel
theorem dX6_next_70 : decode cX6_next 70 = .ok (.aload_n 0, 1) := by decide +kernel
theorem dX6_next_71 : decode cX6_next 71 = .ok (.getfield 25, 3) := by decide +kernel
theorem dX6_next_74 : decode cX6_next 74 = .ok (.aload_n 0, 1) := by decide +kernel
theorem dX6_next_75 : decode cX6_next 75 = .ok (.getfield 21, 3) := by decide +kernel
theorem dX6_next_78 : decode cX6_next 78 = .ok (.if_icmp .lt 9, 3) := by decide +kernel
theorem dX6_next_81 : decode cX6_next 81 = .ok (.aload_n 0, 1) := by decide +kernel
theorem dX6_next_82 : decode cX6_next 82 = .ok (.iconst 0, 1) := by decide +kernel
theorem dX6_next_83 : decode cX6_next 83 = .ok (.putfield 43, 3) := by decide +kernel
theorem dX6_next_86 : decode cX6_next 86 = .ok (.return_, 1) := by decide +kernel
def ww_X6_next : List Cond := [.fieldLink RX6 25 "StreamHouse$Parser" "at" "I", .fieldLink RX6 21 "StreamHouse$Parser" "length" "I", .fieldLink RX6 266 "StreamHouse$Parser" "place" "I", .fieldLink RX6 43 "StreamHouse$Parser" "token" "I"]
def wv_X6_next : List Cond := .code yX6_next cX6_next 2 none :: (ww_X6_next ++ (u_ws RX6 TX6 9 ++ []))
theorem wm_X6_next {w : Cond} (i : Nat) (h : ww_X6_next[i]? = some w) : w ∈ wv_X6_next := List.mem_cons_of_mem _ (List.mem_append_left _ (List.mem_of_getElem? h))
set_option maxRecDepth 100000 in
theorem gw_X6_next : wv_X6_next.all goodWord = true := by decide +kernel
theorem wh_X6_next_X6 : ∀ w ∈ u_ws RX6 TX6 9, w ∈ wv_X6_next := fun w h => List.mem_cons_of_mem _ (List.mem_append_right _ (List.mem_append_left _ h))
set_option maxHeartbeats 4000000 in
set_option maxRecDepth 100000 in
/-- next() of an empty text -/
theorem r_X6_next (l : Launch) (dC : Nat → ClassId) (dI : Nat → Nat → Nat) (h6 : Nat) (b0 b3 b4 b5 b6 b7 b8 : Value) (sz : Nat) : Met l yX6_next wv_X6_next ({ frames := 0, cells := 0, slots := 0, locals := 0 }) (va_Pc [.ref h6] (fun U => U.heap.size = sz ∧ va_P (dC, dI) vwCl [(h6, .inr (6, [b0, .int 0, .int 0, b3, b4, b5, b6, b7, b8]))] U.heap ∧ va_K (dC, dI) vwCl [] U ∧ va_D (fun _ => True) [(h6, .inr (6, [b0, .int 0, .int 0, b3, b4, b5, b6, b7, b8]))])) (va_Qv (fun _ : Unit => True) (ar_X6_next dC dI (va_A [(h6, .inr (6, [b0, .int 0, .int 0, b3, b4, b5, b6, b7, b8]))] sz) h6 b0 b3 b4 b5 b6 b7 b8) (va_A [(h6, .inr (6, [b0, .int 0, .int 0, b3, b4, b5, b6, b7, b8]))] sz)) 0 0 (va_A [(h6, .inr (6, [b0, .int 0, .int 0, b3, b4, b5, b6, b7, b8]))] sz) := by
  refine Met.ofW (cc := cX6_next) (maxL := 2) (ret := none) (by decide) rfl ?_
  intro p e s m args below meth c s₁ B hml hv
  obtain ⟨rfl, hsz, hP, hK, hD0⟩ := hv
  have hx := B.exec
  have hb := B.bytes
  have hr := B.returns
  have hts := atoms_spec (ws := wv_X6_next) B.pre
  have hown : s.vm.findClass RX6 = some m.cls := findClass_of_methodNamed B.named
  have hlocks := B.notSynchronized
  subst hsz
  have hD := hD0.self (sz := s.heap.size)
  generalize hAe : va_A [(h6, .inr (6, [b0, .int 0, .int 0, b3, b4, b5, b6, b7, b8]))] s.heap.size = A at hD ⊢
  have hA : ∀ q : Nat, s.heap.size ≤ q → A q := fun q h => by rw [← hAe]; exact Or.inr h
  have hS : va_S A s.heap s.heap [] := va_S.rf
  have hP : va_P (dC, dI) vwCl [(h6, .inr (6, [b0, .int 0, .int 0, b3, b4, b5, b6, b7, b8]))] s.heap := hP
  have hl := lv_entry ([.ref h6]) (n := 2) (Nat.le_of_ble_eq_true rfl)
  rw [lg_entry_eq]
  generalize (lg_sl ([.ref h6]) ++ List.replicate (2 - (lg_sl ([.ref h6])).length) Slot.unset).toArray = ls at hl ⊢
  have hl : lv_has ls 2 [(0, .ref h6)] := hl
  refine lv_iconst (v := 0) hx hb dX6_next_0 (by decide) ?_
  refine lv_istore_n (lv' := [(1, .int 0), (0, .ref h6)]) hx hb dX6_next_1 rfl hl (by decide) rfl (fun ls hl => ?_)
  refine lv_iload_n hx hb dX6_next_2 rfl (lv_at hl 0 rfl) ?_
  refine lv_sipush (v := 1500) hx hb dX6_next_3 (by decide) ?_
  refine lv_icmp_ge (tgt := 62) hx hb dX6_next_6 (by decide) (fun h9 => absurd h9 (by decide)) (fun _ => ?_)
  refine lv_aload_n hx hb dX6_next_9 rfl (lv_at hl 1 rfl) ?_
  refine va_get (D := (dC, dI)) (ci := 6) (v := .int 0) (C := RX6) (T := TX6) (N := 9) hx hb hts wh_X6_next_X6 hown hK hP 0 rfl rfl 2 (by decide) (hts (.fieldLink RX6 25 "StreamHouse$Parser" "at" "I") (wm_X6_next 0 rfl)) (fun _ h9 => h9) rfl dX6_next_10 ?_
  refine lv_aload_n hx hb dX6_next_13 rfl (lv_at hl 1 rfl) ?_
  refine va_get (D := (dC, dI)) (ci := 6) (v := .int 0) (C := RX6) (T := TX6) (N := 9) hx hb hts wh_X6_next_X6 hown hK hP 0 rfl rfl 1 (by decide) (hts (.fieldLink RX6 21 "StreamHouse$Parser" "length" "I") (wm_X6_next 1 rfl)) (fun _ h9 => h9) rfl dX6_next_14 ?_
  refine lv_icmp_ge (tgt := 62) hx hb dX6_next_17 (by decide) (fun _ => ?_) (fun h9 => absurd (by decide) h9)
  refine lv_aload_n hx hb dX6_next_62 rfl (lv_at hl 1 rfl) ?_
  refine lv_aload_n hx hb dX6_next_63 rfl (lv_at hl 1 rfl) ?_
  refine va_get (D := (dC, dI)) (ci := 6) (v := .int 0) (C := RX6) (T := TX6) (N := 9) hx hb hts wh_X6_next_X6 hown hK hP 0 rfl rfl 2 (by decide) (hts (.fieldLink RX6 25 "StreamHouse$Parser" "at" "I") (wm_X6_next 0 rfl)) (fun _ h9 => h9) rfl dX6_next_64 ?_
  refine va_put (D := (dC, dI)) (ci := 6) (v := .int 0) (ty := .int) (C := RX6) (T := TX6) (N := 9) hx hb hts wh_X6_next_X6 tyX6 tyX6_ok nmX6 hown hK hP hD hS 0 rfl rfl 5 (by decide) (hts (.fieldLink RX6 266 "StreamHouse$Parser" "place" "I") (wm_X6_next 2 rfl)) (fun _ h9 => h9) rfl (by decide +kernel) rfl rfl (Nat.le_of_ble_eq_true rfl) dX6_next_67 (fun H locs hP hD hS => ?_)
  have hP : va_P (dC, dI) vwCl [(h6, .inr (6, [b0, .int 0, .int 0, b3, b4, .int 0, b6, b7, b8]))] H := hP
  have hD : va_D A [(h6, .inr (6, [b0, .int 0, .int 0, b3, b4, .int 0, b6, b7, b8]))] := hD
  refine lv_aload_n hx hb dX6_next_70 rfl (lv_at hl 1 rfl) ?_
  refine va_get (D := (dC, dI)) (ci := 6) (v := .int 0) (C := RX6) (T := TX6) (N := 9) hx hb hts wh_X6_next_X6 hown hK hP 0 rfl rfl 2 (by decide) (hts (.fieldLink RX6 25 "StreamHouse$Parser" "at" "I") (wm_X6_next 0 rfl)) (fun _ h9 => h9) rfl dX6_next_71 ?_
  refine lv_aload_n hx hb dX6_next_74 rfl (lv_at hl 1 rfl) ?_
  refine va_get (D := (dC, dI)) (ci := 6) (v := .int 0) (C := RX6) (T := TX6) (N := 9) hx hb hts wh_X6_next_X6 hown hK hP 0 rfl rfl 1 (by decide) (hts (.fieldLink RX6 21 "StreamHouse$Parser" "length" "I") (wm_X6_next 1 rfl)) (fun _ h9 => h9) rfl dX6_next_75 ?_
  refine lv_icmp_lt (tgt := 87) hx hb dX6_next_78 (by decide) (fun h9 => absurd h9 (by decide)) (fun _ => ?_)
  refine lv_aload_n hx hb dX6_next_81 rfl (lv_at hl 1 rfl) ?_
  refine lv_iconst (v := 0) hx hb dX6_next_82 (by decide) ?_
  refine va_put (D := (dC, dI)) (ci := 6) (v := .int 0) (ty := .int) (C := RX6) (T := TX6) (N := 9) hx hb hts wh_X6_next_X6 tyX6 tyX6_ok nmX6 hown hK hP hD hS 0 rfl rfl 3 (by decide) (hts (.fieldLink RX6 43 "StreamHouse$Parser" "token" "I") (wm_X6_next 3 rfl)) (fun _ h9 => h9) rfl (by decide +kernel) rfl rfl (Nat.le_of_ble_eq_true rfl) dX6_next_83 (fun H locs hP hD hS => ?_)
  have hP : va_P (dC, dI) vwCl [(h6, .inr (6, [b0, .int 0, .int 0, .int 0, b4, .int 0, b6, b7, b8]))] H := hP
  have hD : va_D A [(h6, .inr (6, [b0, .int 0, .int 0, .int 0, b4, .int 0, b6, b7, b8]))] := hD
  have hP9 := hP.sub (ws' := [(h6, .inr (6, [b0, .int 0, .int 0, .int 0, b4, .int 0, b6, b7, b8]))]) [0] rfl
  have hD9 := hD.sub (ws' := [(h6, .inr (6, [b0, .int 0, .int 0, .int 0, b4, .int 0, b6, b7, b8]))]) [0] (by decide) rfl
  have hK9 := hK.sub (tys' := []) [] rfl
  refine W.widen (k := 0) (n := 0) (by decide) (by decide) ?_
  exact W.vret hx hb hr (fun t ht hW => ⟨⟨(), rfl, trivial, by rw [ht]; exact hP9, va_K.moved hW.alike hK9, hD9⟩, hS.F ht⟩) hS.2.2 dX6_next_86

abbrev ar_X6_read (dC : Nat → ClassId) (dI : Nat → Nat → Nat) (A : Nat → Prop) (h6 h1 h5 j1 j2 j3 : Nat) (cT cB cC cD : ClassId) (f1 g1 g2 g3 : Nat → Int32) (b0 b1 b2 b3 b4 b5 b6 b7 b8 c0 c1 c2 c3 c5 c6 c7 c8 c9 c10 c11 : Value) (_ : Unit) (t : State) : Prop := va_P (dC, dI) vwCl [(h6, .inr (6, [.ref h1, .int 0, .int 0, .int 0, b4, .int 0, .int 3, .ref h5, b8])), (h1, .inl (cT, 1500, .inl f1)), (h5, .inr (4, [c0, .int 0, .int 0, c3, .ref j1, c5, c6, .int 0, c8, c9, c10, c11, .ref j2, .ref j3])), (j1, .inl (cB, 4, .inl (upd (upd (upd (upd g1 0 (-1)) 1 (-1)) 2 (-1)) 3 (-1)))), (j2, .inl (cC, 4, .inl (upd (upd (upd (upd g2 0 0) 1 0) 2 0) 3 0))), (j3, .inl (cD, 4, .inl (upd (upd (upd (upd g3 0 (vp_nar .boolean 0)) 1 (vp_nar .boolean 0)) 2 (vp_nar .boolean 0)) 3 (vp_nar .boolean 0))))] t.heap ∧ va_K (dC, dI) vwCl [(cT, .byte), (cD, .boolean), (cB, .int), (cC, .int)] t ∧ va_D A [(h6, .inr (6, [.ref h1, .int 0, .int 0, .int 0, b4, .int 0, .int 3, .ref h5, b8])), (h1, .inl (cT, 1500, .inl f1)), (h5, .inr (4, [c0, .int 0, .int 0, c3, .ref j1, c5, c6, .int 0, c8, c9, c10, c11, .ref j2, .ref j3])), (j1, .inl (cB, 4, .inl (upd (upd (upd (upd g1 0 (-1)) 1 (-1)) 2 (-1)) 3 (-1)))), (j2, .inl (cC, 4, .inl (upd (upd (upd (upd g2 0 0) 1 0) 2 0) 3 0))), (j3, .inl (cD, 4, .inl (upd (upd (upd (upd g3 0 (vp_nar .boolean 0)) 1 (vp_nar .boolean 0)) 2 (vp_nar .boolean 0)) 3 (vp_nar .boolean 0))))]
theorem dX6_read_0 : decode cX6_read 0 = .ok (.aload_n 0, 1) := by decide +kernel
theorem dX6_read_1 : decode cX6_read 1 = .ok (.aload_n 1, 1) := by decide +kernel
theorem dX6_read_2 : decode cX6_read 2 = .ok (.putfield 9, 3) := by decide +kernel
theorem dX6_read_5 : decode cX6_read 5 = .ok (.aload_n 0, 1) := by decide +kernel
theorem dX6_read_6 : decode cX6_read 6 = .ok (.iload_n 2, 1) := by decide +kernel
theorem dX6_read_7 : decode cX6_read 7 = .ok (.aload_n 1, 1) := by decide +kernel
theorem dX6_read_8 : decode cX6_read 8 = .ok (.arraylength, 1) := by decide +kernel
theorem dX6_read_9 : decode cX6_read 9 = .ok (.invokestatic 15, 3) := by decide +kernel
theorem dX6_read_12 : decode cX6_read 12 = .ok (.putfield 21, 3) := by decide +kernel
theorem dX6_read_15 : decode cX6_read 15 = .ok (.aload_n 0, 1) := by decide +kernel
theorem dX6_read_16 : decode cX6_read 16 = .ok (.iconst 0, 1) := by decide +kernel
theorem dX6_read_17 : decode cX6_read 17 = .ok (.putfield 25, 3) := by decide +kernel
theorem dX6_read_20 : decode cX6_read 20 = .ok (.aload_n 0, 1) := by decide +kernel
theorem dX6_read_21 : decode cX6_read 21 = .ok (.iconst 0, 1) := by decide +kernel
theorem dX6_read_22 : decode cX6_read 22 = .ok (.putfield 28, 3) := by decide +kernel
theorem dX6_read_25 : decode cX6_read 25 = .ok (.aload_n 0, 1) := by decide +kernel
theorem dX6_read_26 : decode cX6_read 26 = .ok (.aload_n 3, 1) := by decide +kernel
theorem dX6_read_27 : decode cX6_read 27 = .ok (.putfield 31, 3) := by decide +kernel
theorem dX6_read_30 : decode cX6_read 30 = .ok (.aload_n 0, 1) := by decide +kernel
theorem dX6_read_31 : decode cX6_read 31 = .ok (.getfield 31, 3) := by decide +kernel
theorem dX6_read_34 : decode cX6_read 34 = .ok (.invokevirtual 35, 3) := by decide +kernel
theorem dX6_read_37 : decode cX6_read 37 = .ok (.aload_n 0, 1) := by decide +kernel
theorem dX6_read_38 : decode cX6_read 38 = .ok (.invokevirtual 40, 3) := by decide +kernel
theorem dX6_read_41 : decode cX6_read 41 = .ok (.iconst 0, 1) := by decide +kernel
theorem dX6_read_42 : decode cX6_read 42 = .ok (.istore 4, 2) := by decide +kernel
theorem dX6_read_44 : decode cX6_read 44 = .ok (.iload 4, 2) := by decide +kernel
theorem dX6_read_46 : decode cX6_read 46 = .ok (.bipush 16, 2) := by decide +kernel
theorem dX6_read_48 : decode cX6_read 48 = .ok (.if_icmp .gt 53, 3) := by decide +kernel
theorem dX6_read_51 : decode cX6_read 51 = .ok (.aload_n 0, 1) := by decide +kernel
theorem dX6_read_52 : decode cX6_read 52 = .ok (.getfield 43, 3) := by decide +kernel
theorem dX6_read_55 : decode cX6_read 55 = .ok (.ifCond .ne 13, 3) := by decide +kernel
theorem dX6_read_58 : decode cX6_read 58 = .ok (.aload_n 0, 1) := by decide +kernel
theorem dX6_read_59 : decode cX6_read 59 = .ok (.getfield 31, 3) := by decide +kernel
theorem dX6_read_62 : decode cX6_read 62 = .ok (.getfield 46, 3) := by decide +kernel
theorem dX6_read_65 : decode cX6_read 65 = .ok (.ifCond .ne 36, 3) := by decide +kernel
theorem dX6_read_68 : decode cX6_read 68 = .ok (.aload_n 0, 1) := by decide +kernel
theorem dX6_read_69 : decode cX6_read 69 = .ok (.aload_n 0, 1) := by decide +kernel
theorem dX6_read_70 : decode cX6_read 70 = .ok (.invokevirtual 49, 3) := by decide +kernel
theorem dX6_read_104 : decode cX6_read 104 = .ok (.astore 4, 2) := by decide +kernel
theorem dX6_read_106 : decode cX6_read 106 = .ok (.aload_n 0, 1) := by decide +kernel
theorem dX6_read_107 : decode cX6_read 107 = .ok (.getfield 28, 3) := by decide +kernel
theorem dX6_read_110 : decode cX6_read 110 = .ok (.ireturn, 1) := by decide +kernel
def ww_X6_read : List Cond := [.fieldLink RX6 9 "StreamHouse$Parser" "text" "[B", .methodLink RX6 15 Lib.Math.min.name, .static Lib.Math.min.name, .initialized "java/lang/Math", .code Lib.Math.min.name Lib.Math.min.code 2 (some .int), .fieldLink RX6 21 "StreamHouse$Parser" "length" "I", .fieldLink RX6 25 "StreamHouse$Parser" "at" "I", .fieldLink RX6 28 "StreamHouse$Parser" "fault" "I", .fieldLink RX6 31 "StreamHouse$Parser" "job" "LStreamHouse$Job;", .initialized RX4, .methodLink RX6 35 yX4_forget, .instanceMethod yX4_forget, .selects RX4 yX4_forget yX4_forget, .initialized RX6, .methodLink RX6 40 yX6_next, .instanceMethod yX6_next, .selects RX6 yX6_next yX6_next, .fieldLink RX6 43 "StreamHouse$Parser" "token" "I", .fieldLink RX6 46 "StreamHouse$Job" "outputs" "I", .methodLink RX6 49 yX6_statementHead, .instanceMethod yX6_statementHead, .selects RX6 yX6_statementHead yX6_statementHead, .classLink RX6 64 "java/lang/IllegalArgumentException"]
def wv_X6_read : List Cond := .codeWith yX6_read cX6_read 5 (some .int) [(37, 101, 104, 64)] :: (ww_X6_read ++ (u_ws RX6 TX6 9 ++ (wv_X4_forget ++ (wv_X6_next ++ (u_ws RX4 TX4 14 ++ (wv_X6_statementHead ++ []))))))
theorem wm_X6_read {w : Cond} (i : Nat) (h : ww_X6_read[i]? = some w) : w ∈ wv_X6_read := List.mem_cons_of_mem _ (List.mem_append_left _ (List.mem_of_getElem? h))
set_option maxRecDepth 100000 in
theorem gw_X6_read : wv_X6_read.all goodWord = true := by decide +kernel
theorem wh_X6_read_X6 : ∀ w ∈ u_ws RX6 TX6 9, w ∈ wv_X6_read := fun w h => List.mem_cons_of_mem _ (List.mem_append_right _ (List.mem_append_left _ h))
theorem wg_X6_read_X4_forget : GoodIn wv_X6_read wv_X4_forget := goodIn_sub (fun w h => List.mem_cons_of_mem _ (List.mem_append_right _ (List.mem_append_right _ (List.mem_append_left _ h)))) gw_X4_forget
theorem wV_X6_read_X4_forget_35 : GoodIn wv_X6_read (wsV RX6 35 RX4 yX4_forget wv_X4_forget) := goodIn_app (goodIn_sub (fun w h => by simp only [List.mem_cons, List.not_mem_nil, or_false] at h; rcases h with rfl | rfl | rfl | rfl <;> first | exact wm_X6_read 10 rfl | exact wm_X6_read 11 rfl | exact wm_X6_read 12 rfl | exact wm_X6_read 9 rfl) (by decide +kernel)) wg_X6_read_X4_forget
theorem wg_X6_read_X6_next : GoodIn wv_X6_read wv_X6_next := goodIn_sub (fun w h => List.mem_cons_of_mem _ (List.mem_append_right _ (List.mem_append_right _ (List.mem_append_right _ (List.mem_append_left _ h))))) gw_X6_next
theorem wV_X6_read_X6_next_40 : GoodIn wv_X6_read (wsV RX6 40 RX6 yX6_next wv_X6_next) := goodIn_app (goodIn_sub (fun w h => by simp only [List.mem_cons, List.not_mem_nil, or_false] at h; rcases h with rfl | rfl | rfl | rfl <;> first | exact wm_X6_read 14 rfl | exact wm_X6_read 15 rfl | exact wm_X6_read 16 rfl | exact wm_X6_read 13 rfl) (by decide +kernel)) wg_X6_read_X6_next
theorem wh_X6_read_X4 : ∀ w ∈ u_ws RX4 TX4 14, w ∈ wv_X6_read := fun w h => List.mem_cons_of_mem _ (List.mem_append_right _ (List.mem_append_right _ (List.mem_append_right _ (List.mem_append_right _ (List.mem_append_left _ h)))))
theorem wg_X6_read_X6_statementHead : GoodIn wv_X6_read wv_X6_statementHead := goodIn_sub (fun w h => List.mem_cons_of_mem _ (List.mem_append_right _ (List.mem_append_right _ (List.mem_append_right _ (List.mem_append_right _ (List.mem_append_right _ (List.mem_append_left _ h))))))) gw_X6_statementHead
theorem wV_X6_read_X6_statementHead_49 : GoodIn wv_X6_read (wsV RX6 49 RX6 yX6_statementHead wv_X6_statementHead) := goodIn_app (goodIn_sub (fun w h => by simp only [List.mem_cons, List.not_mem_nil, or_false] at h; rcases h with rfl | rfl | rfl | rfl <;> first | exact wm_X6_read 19 rfl | exact wm_X6_read 20 rfl | exact wm_X6_read 21 rfl | exact wm_X6_read 13 rfl) (by decide +kernel)) wg_X6_read_X6_statementHead
set_option maxHeartbeats 4000000 in
set_option maxRecDepth 100000 in
/-- read of an empty text -/
theorem r_X6_read (l : Launch) (hl0 : l.stackTraces = false) (dC : Nat → ClassId) (dI : Nat → Nat → Nat) (h6 h1 h5 j1 j2 j3 : Nat) (cT cB cC cD : ClassId) (f1 g1 g2 g3 : Nat → Int32) (b0 b1 b2 b3 b4 b5 b6 b7 b8 c0 c1 c2 c3 c5 c6 c7 c8 c9 c10 c11 : Value) (sz : Nat) : Met l yX6_read wv_X6_read ({ frames := 9, cells := 1, slots := 6, locals := 143 }) (va_Pc [.ref h6, .ref h1, .int 0, .ref h5] (fun U => U.heap.size = sz ∧ va_P (dC, dI) vwCl [(h6, .inr (6, [b0, b1, b2, b3, b4, b5, b6, b7, b8])), (h1, .inl (cT, 1500, .inl f1)), (h5, .inr (4, [c0, c1, c2, c3, .ref j1, c5, c6, c7, c8, c9, c10, c11, .ref j2, .ref j3])), (j1, .inl (cB, 4, .inl g1)), (j2, .inl (cC, 4, .inl g2)), (j3, .inl (cD, 4, .inl g3))] U.heap ∧ va_K (dC, dI) vwCl [(cT, .byte), (cB, .int), (cC, .int), (cD, .boolean)] U ∧ va_D (fun _ => True) [(h6, .inr (6, [b0, b1, b2, b3, b4, b5, b6, b7, b8])), (h1, .inl (cT, 1500, .inl f1)), (h5, .inr (4, [c0, c1, c2, c3, .ref j1, c5, c6, c7, c8, c9, c10, c11, .ref j2, .ref j3])), (j1, .inl (cB, 4, .inl g1)), (j2, .inl (cC, 4, .inl g2)), (j3, .inl (cD, 4, .inl g3))] ∧ xz_F U ∧ xz_Z (va_A [(h6, .inr (6, [b0, b1, b2, b3, b4, b5, b6, b7, b8])), (h1, .inl (cT, 1500, .inl f1)), (h5, .inr (4, [c0, c1, c2, c3, .ref j1, c5, c6, c7, c8, c9, c10, c11, .ref j2, .ref j3])), (j1, .inl (cB, 4, .inl g1)), (j2, .inl (cC, 4, .inl g2)), (j3, .inl (cD, 4, .inl g3))] sz) U U.heap)) (va_Qi (fun r (_ : Unit) => r = 3) (ar_X6_read dC dI (va_A [(h6, .inr (6, [b0, b1, b2, b3, b4, b5, b6, b7, b8])), (h1, .inl (cT, 1500, .inl f1)), (h5, .inr (4, [c0, c1, c2, c3, .ref j1, c5, c6, c7, c8, c9, c10, c11, .ref j2, .ref j3])), (j1, .inl (cB, 4, .inl g1)), (j2, .inl (cC, 4, .inl g2)), (j3, .inl (cD, 4, .inl g3))] sz) h6 h1 h5 j1 j2 j3 cT cB cC cD f1 g1 g2 g3 b0 b1 b2 b3 b4 b5 b6 b7 b8 c0 c1 c2 c3 c5 c6 c7 c8 c9 c10 c11) (va_A [(h6, .inr (6, [b0, b1, b2, b3, b4, b5, b6, b7, b8])), (h1, .inl (cT, 1500, .inl f1)), (h5, .inr (4, [c0, c1, c2, c3, .ref j1, c5, c6, c7, c8, c9, c10, c11, .ref j2, .ref j3])), (j1, .inl (cB, 4, .inl g1)), (j2, .inl (cC, 4, .inl g2)), (j3, .inl (cD, 4, .inl g3))] sz)) 1 6 (va_A [(h6, .inr (6, [b0, b1, b2, b3, b4, b5, b6, b7, b8])), (h1, .inl (cT, 1500, .inl f1)), (h5, .inr (4, [c0, c1, c2, c3, .ref j1, c5, c6, c7, c8, c9, c10, c11, .ref j2, .ref j3])), (j1, .inl (cB, 4, .inl g1)), (j2, .inl (cC, 4, .inl g2)), (j3, .inl (cD, 4, .inl g3))] sz) := by
  refine va_MetW (cc := cX6_read) (maxL := 5) (ret := (some .int)) (hh := [(37, 101, 104, 64)]) (by decide) rfl ?_
  intro p e s m args below meth c s₁ B hml hv
  obtain ⟨rfl, hsz, hP, hK, hD0, hF9, hZ9⟩ := hv
  have hx := B.exec
  have hb := B.bytes
  have hr := B.returns
  have hts := atoms_spec (ws := wv_X6_read) B.pre
  have hown : s.vm.findClass RX6 = some m.cls := findClass_of_methodNamed B.named
  have hlocks := B.notSynchronized
  subst hsz
  have hD := hD0.self (sz := s.heap.size)
  generalize hAe : va_A [(h6, .inr (6, [b0, b1, b2, b3, b4, b5, b6, b7, b8])), (h1, .inl (cT, 1500, .inl f1)), (h5, .inr (4, [c0, c1, c2, c3, .ref j1, c5, c6, c7, c8, c9, c10, c11, .ref j2, .ref j3])), (j1, .inl (cB, 4, .inl g1)), (j2, .inl (cC, 4, .inl g2)), (j3, .inl (cD, 4, .inl g3))] s.heap.size = A at hD hZ9 ⊢
  have hA : ∀ q : Nat, s.heap.size ≤ q → A q := fun q h => by rw [← hAe]; exact Or.inr h
  have hS : va_S A s.heap s.heap [] := va_S.rf
  have hP : va_P (dC, dI) vwCl [(h6, .inr (6, [b0, b1, b2, b3, b4, b5, b6, b7, b8])), (h1, .inl (cT, 1500, .inl f1)), (h5, .inr (4, [c0, c1, c2, c3, .ref j1, c5, c6, c7, c8, c9, c10, c11, .ref j2, .ref j3])), (j1, .inl (cB, 4, .inl g1)), (j2, .inl (cC, 4, .inl g2)), (j3, .inl (cD, 4, .inl g3))] s.heap := hP
  have hl := lv_entry ([.ref h6, .ref h1, .int 0, .ref h5]) (n := 5) (Nat.le_of_ble_eq_true rfl)
  rw [lg_entry_eq]
  generalize (lg_sl ([.ref h6, .ref h1, .int 0, .ref h5]) ++ List.replicate (5 - (lg_sl ([.ref h6, .ref h1, .int 0, .ref h5])).length) Slot.unset).toArray = ls at hl ⊢
  have hl : lv_has ls 5 [(0, .ref h6), (1, .ref h1), (2, .int 0), (3, .ref h5)] := hl
  have htab : c.exceptionTable.toList = [⟨37, 101, 104, 64⟩] := vx_table (x := yX6_read) B (hts _ List.mem_cons_self)
  refine lv_aload_n hx hb dX6_read_0 rfl (lv_at hl 0 rfl) ?_
  refine lv_aload_n hx hb dX6_read_1 rfl (lv_at hl 1 rfl) ?_
  refine va_put (D := (dC, dI)) (ci := 6) (v := .ref h1) (ty := .array .byte) (C := RX6) (T := TX6) (N := 9) hx hb hts wh_X6_read_X6 tyX6 tyX6_ok nmX6 hown hK hP hD hS 0 rfl rfl 0 (by decide) (hts (.fieldLink RX6 9 "StreamHouse$Parser" "text" "[B") (wm_X6_read 0 rfl)) (fun _ h9 => h9) rfl (by decide +kernel) rfl rfl (Nat.le_of_ble_eq_true rfl) dX6_read_2 (fun H locs hP hD hS => ?_)
  have hP : va_P (dC, dI) vwCl [(h6, .inr (6, [.ref h1, b1, b2, b3, b4, b5, b6, b7, b8])), (h1, .inl (cT, 1500, .inl f1)), (h5, .inr (4, [c0, c1, c2, c3, .ref j1, c5, c6, c7, c8, c9, c10, c11, .ref j2, .ref j3])), (j1, .inl (cB, 4, .inl g1)), (j2, .inl (cC, 4, .inl g2)), (j3, .inl (cD, 4, .inl g3))] H := hP
  have hD : va_D A [(h6, .inr (6, [.ref h1, b1, b2, b3, b4, b5, b6, b7, b8])), (h1, .inl (cT, 1500, .inl f1)), (h5, .inr (4, [c0, c1, c2, c3, .ref j1, c5, c6, c7, c8, c9, c10, c11, .ref j2, .ref j3])), (j1, .inl (cB, 4, .inl g1)), (j2, .inl (cC, 4, .inl g2)), (j3, .inl (cD, 4, .inl g3))] := hD
  refine lv_aload_n hx hb dX6_read_5 rfl (lv_at hl 0 rfl) ?_
  refine lv_iload_n hx hb dX6_read_6 rfl (lv_at hl 2 rfl) ?_
  refine lv_aload_n hx hb dX6_read_7 rfl (lv_at hl 1 rfl) ?_
  refine va_alen (v := 1500) hx hb hK hP 1 0 rfl rfl (show Int32.ofNat 1500 = 1500 by decide) dX6_read_8 ?_
  have h_1 : 0 ≤ 1 := by decide
  have h_2 : 0 ≤ 6 := by decide
  refine va_mmin hx hb (hml.trans hl.1.symm) hown (hts (.methodLink RX6 15 Lib.Math.min.name) (wm_X6_read 1 rfl)) (hts (.static Lib.Math.min.name) (wm_X6_read 2 rfl)) (hts (.initialized "java/lang/Math") (wm_X6_read 3 rfl)) (hts (.code Lib.Math.min.name Lib.Math.min.code 2 (some .int)) (wm_X6_read 4 rfl)) (Nat.le_of_ble_eq_true rfl) (Nat.le_of_ble_eq_true rfl) h_1 h_2 dX6_read_9 ?_
  refine W.eq (g2 := F0 m 12 ls [.int 0, .ref h6]) rfl ?_
  refine va_put (D := (dC, dI)) (ci := 6) (v := .int 0) (ty := .int) (C := RX6) (T := TX6) (N := 9) hx hb hts wh_X6_read_X6 tyX6 tyX6_ok nmX6 hown hK hP hD hS 0 rfl rfl 1 (by decide) (hts (.fieldLink RX6 21 "StreamHouse$Parser" "length" "I") (wm_X6_read 5 rfl)) (fun _ h9 => h9) rfl (by decide +kernel) rfl rfl (Nat.le_of_ble_eq_true rfl) dX6_read_12 (fun H locs hP hD hS => ?_)
  have hP : va_P (dC, dI) vwCl [(h6, .inr (6, [.ref h1, .int 0, b2, b3, b4, b5, b6, b7, b8])), (h1, .inl (cT, 1500, .inl f1)), (h5, .inr (4, [c0, c1, c2, c3, .ref j1, c5, c6, c7, c8, c9, c10, c11, .ref j2, .ref j3])), (j1, .inl (cB, 4, .inl g1)), (j2, .inl (cC, 4, .inl g2)), (j3, .inl (cD, 4, .inl g3))] H := hP
  have hD : va_D A [(h6, .inr (6, [.ref h1, .int 0, b2, b3, b4, b5, b6, b7, b8])), (h1, .inl (cT, 1500, .inl f1)), (h5, .inr (4, [c0, c1, c2, c3, .ref j1, c5, c6, c7, c8, c9, c10, c11, .ref j2, .ref j3])), (j1, .inl (cB, 4, .inl g1)), (j2, .inl (cC, 4, .inl g2)), (j3, .inl (cD, 4, .inl g3))] := hD
  refine lv_aload_n hx hb dX6_read_15 rfl (lv_at hl 0 rfl) ?_
  refine lv_iconst (v := 0) hx hb dX6_read_16 (by decide) ?_
  refine va_put (D := (dC, dI)) (ci := 6) (v := .int 0) (ty := .int) (C := RX6) (T := TX6) (N := 9) hx hb hts wh_X6_read_X6 tyX6 tyX6_ok nmX6 hown hK hP hD hS 0 rfl rfl 2 (by decide) (hts (.fieldLink RX6 25 "StreamHouse$Parser" "at" "I") (wm_X6_read 6 rfl)) (fun _ h9 => h9) rfl (by decide +kernel) rfl rfl (Nat.le_of_ble_eq_true rfl) dX6_read_17 (fun H locs hP hD hS => ?_)
  have hP : va_P (dC, dI) vwCl [(h6, .inr (6, [.ref h1, .int 0, .int 0, b3, b4, b5, b6, b7, b8])), (h1, .inl (cT, 1500, .inl f1)), (h5, .inr (4, [c0, c1, c2, c3, .ref j1, c5, c6, c7, c8, c9, c10, c11, .ref j2, .ref j3])), (j1, .inl (cB, 4, .inl g1)), (j2, .inl (cC, 4, .inl g2)), (j3, .inl (cD, 4, .inl g3))] H := hP
  have hD : va_D A [(h6, .inr (6, [.ref h1, .int 0, .int 0, b3, b4, b5, b6, b7, b8])), (h1, .inl (cT, 1500, .inl f1)), (h5, .inr (4, [c0, c1, c2, c3, .ref j1, c5, c6, c7, c8, c9, c10, c11, .ref j2, .ref j3])), (j1, .inl (cB, 4, .inl g1)), (j2, .inl (cC, 4, .inl g2)), (j3, .inl (cD, 4, .inl g3))] := hD
  refine lv_aload_n hx hb dX6_read_20 rfl (lv_at hl 0 rfl) ?_
  refine lv_iconst (v := 0) hx hb dX6_read_21 (by decide) ?_
  refine va_put (D := (dC, dI)) (ci := 6) (v := .int 0) (ty := .int) (C := RX6) (T := TX6) (N := 9) hx hb hts wh_X6_read_X6 tyX6 tyX6_ok nmX6 hown hK hP hD hS 0 rfl rfl 6 (by decide) (hts (.fieldLink RX6 28 "StreamHouse$Parser" "fault" "I") (wm_X6_read 7 rfl)) (fun _ h9 => h9) rfl (by decide +kernel) rfl rfl (Nat.le_of_ble_eq_true rfl) dX6_read_22 (fun H locs hP hD hS => ?_)
  have hP : va_P (dC, dI) vwCl [(h6, .inr (6, [.ref h1, .int 0, .int 0, b3, b4, b5, .int 0, b7, b8])), (h1, .inl (cT, 1500, .inl f1)), (h5, .inr (4, [c0, c1, c2, c3, .ref j1, c5, c6, c7, c8, c9, c10, c11, .ref j2, .ref j3])), (j1, .inl (cB, 4, .inl g1)), (j2, .inl (cC, 4, .inl g2)), (j3, .inl (cD, 4, .inl g3))] H := hP
  have hD : va_D A [(h6, .inr (6, [.ref h1, .int 0, .int 0, b3, b4, b5, .int 0, b7, b8])), (h1, .inl (cT, 1500, .inl f1)), (h5, .inr (4, [c0, c1, c2, c3, .ref j1, c5, c6, c7, c8, c9, c10, c11, .ref j2, .ref j3])), (j1, .inl (cB, 4, .inl g1)), (j2, .inl (cC, 4, .inl g2)), (j3, .inl (cD, 4, .inl g3))] := hD
  refine lv_aload_n hx hb dX6_read_25 rfl (lv_at hl 0 rfl) ?_
  refine lv_aload_n hx hb dX6_read_26 rfl (lv_at hl 3 rfl) ?_
  refine va_put (D := (dC, dI)) (ci := 6) (v := .ref h5) (ty := .object "StreamHouse$Job") (C := RX6) (T := TX6) (N := 9) hx hb hts wh_X6_read_X6 tyX6 tyX6_ok nmX6 hown hK hP hD hS 0 rfl rfl 7 (by decide) (hts (.fieldLink RX6 31 "StreamHouse$Parser" "job" "LStreamHouse$Job;") (wm_X6_read 8 rfl)) (fun _ h9 => h9) rfl (by decide +kernel) rfl rfl (Nat.le_of_ble_eq_true rfl) dX6_read_27 (fun H locs hP hD hS => ?_)
  have hP : va_P (dC, dI) vwCl [(h6, .inr (6, [.ref h1, .int 0, .int 0, b3, b4, b5, .int 0, .ref h5, b8])), (h1, .inl (cT, 1500, .inl f1)), (h5, .inr (4, [c0, c1, c2, c3, .ref j1, c5, c6, c7, c8, c9, c10, c11, .ref j2, .ref j3])), (j1, .inl (cB, 4, .inl g1)), (j2, .inl (cC, 4, .inl g2)), (j3, .inl (cD, 4, .inl g3))] H := hP
  have hD : va_D A [(h6, .inr (6, [.ref h1, .int 0, .int 0, b3, b4, b5, .int 0, .ref h5, b8])), (h1, .inl (cT, 1500, .inl f1)), (h5, .inr (4, [c0, c1, c2, c3, .ref j1, c5, c6, c7, c8, c9, c10, c11, .ref j2, .ref j3])), (j1, .inl (cB, 4, .inl g1)), (j2, .inl (cC, 4, .inl g2)), (j3, .inl (cD, 4, .inl g3))] := hD
  refine lv_aload_n hx hb dX6_read_30 rfl (lv_at hl 0 rfl) ?_
  refine va_get (D := (dC, dI)) (ci := 6) (v := .ref h5) (C := RX6) (T := TX6) (N := 9) hx hb hts wh_X6_read_X6 hown hK hP 0 rfl rfl 7 (by decide) (hts (.fieldLink RX6 31 "StreamHouse$Parser" "job" "LStreamHouse$Job;") (wm_X6_read 8 rfl)) (fun _ h9 => h9) rfl dX6_read_31 ?_
  have hPc := hP.sub (ws' := [(h5, .inr (4, [c0, c1, c2, c3, .ref j1, c5, c6, c7, c8, c9, c10, c11, .ref j2, .ref j3])), (j1, .inl (cB, 4, .inl g1)), (j2, .inl (cC, 4, .inl g2)), (j3, .inl (cD, 4, .inl g3))]) [2, 3, 4, 5] rfl
  have hDc := hD.sub (ws' := [(h5, .inr (4, [c0, c1, c2, c3, .ref j1, c5, c6, c7, c8, c9, c10, c11, .ref j2, .ref j3])), (j1, .inl (cB, 4, .inl g1)), (j2, .inl (cC, 4, .inl g2)), (j3, .inl (cD, 4, .inl g3))]) [2, 3, 4, 5] (by decide) rfl
  have hKc := hK.sub (tys' := [(cB, .int), (cC, .int), (cD, .boolean)]) [1, 2, 3] rfl
  have hFc := va_free (wc := [(h5, .inr (4, [c0, c1, c2, c3, .ref j1, c5, c6, c7, c8, c9, c10, c11, .ref j2, .ref j3])), (j1, .inl (cB, 4, .inl g1)), (j2, .inl (cC, 4, .inl g2)), (j3, .inl (cD, 4, .inl g3))]) hD hS hA [2, 3, 4, 5] rfl
  have h_3 : 0 ≤ 1 := by decide
  have h_4 : 0 ≤ 6 := by decide
  refine va_callv (va_runV (As := []) (rest := []) ⟨hx, hb, hml, hown, hts⟩ (r_X4_forget l dC dI h5 j1 j2 j3 cB cC cD g1 g2 g3 c0 c1 c2 c3 c5 c6 c7 c8 c9 c10 c11 _) (cwV 0 hts wV_X6_read_X4_forget_35 rfl rfl rfl (by decide +kernel) ⟨Nat.le_of_ble_eq_true rfl, Nat.le_of_ble_eq_true rfl⟩) ⟨fun a U g mk q => by obtain ⟨q0, q1, qP, qK, qD⟩ := q; exact ⟨q0, q1, qP, va_K.moved (u := U) (U := U.calling g mk a) (Vm.Alike.refl U.vm) qK, qD⟩, va_recv hKc hPc (ci := 4) (q0 := 0) rfl rfl, fun U hU hW => ⟨rfl, by rw [hU], by rw [hU]; exact hPc, va_K.moved hW.alike hKc, hDc.weaken (fun _ _ _ _ => trivial)⟩⟩ rfl rfl hl.1 rfl (lv_room (Nat.le_of_ble_eq_true rfl)) dX6_read_34 ⟨h_3, h_4⟩) hS (fun q _ h => hFc q h) hFc (fun u5 t H1 locs ht hvm hw hB hz1 hk1 hS => ?_)
  obtain ⟨hP1, hK1, hD1⟩ := hB
  rw [ht] at hP1
  have hK1 := va_K.moved hvm.symm hK1
  obtain ⟨hP, hD⟩ := va_join (wr := [(h6, .inr (6, [.ref h1, .int 0, .int 0, b3, b4, b5, .int 0, .ref h5, b8])), (h1, .inl (cT, 1500, .inl f1))]) (w1 := [(h5, .inr (4, [c0, .int 0, .int 0, c3, .ref j1, c5, c6, .int 0, c8, c9, c10, c11, .ref j2, .ref j3])), (j1, .inl (cB, 4, .inl (upd (upd (upd (upd g1 0 (-1)) 1 (-1)) 2 (-1)) 3 (-1)))), (j2, .inl (cC, 4, .inl (upd (upd (upd (upd g2 0 0) 1 0) 2 0) 3 0))), (j3, .inl (cD, 4, .inl (upd (upd (upd (upd g3 0 (vp_nar .boolean 0)) 1 (vp_nar .boolean 0)) 2 (vp_nar .boolean 0)) 3 (vp_nar .boolean 0))))]) hP hD [2, 3, 4, 5] [0, 1] rfl rfl (by decide) (by decide) hk1 hFc hP1 hD1
  have hK := (hK.sub (tys' := [(cT, .byte)]) [0] rfl).app hK1
  generalize H1 = H at hP hS ⊢
  have hP : va_P (dC, dI) vwCl [(h6, .inr (6, [.ref h1, .int 0, .int 0, b3, b4, b5, .int 0, .ref h5, b8])), (h1, .inl (cT, 1500, .inl f1)), (h5, .inr (4, [c0, .int 0, .int 0, c3, .ref j1, c5, c6, .int 0, c8, c9, c10, c11, .ref j2, .ref j3])), (j1, .inl (cB, 4, .inl (upd (upd (upd (upd g1 0 (-1)) 1 (-1)) 2 (-1)) 3 (-1)))), (j2, .inl (cC, 4, .inl (upd (upd (upd (upd g2 0 0) 1 0) 2 0) 3 0))), (j3, .inl (cD, 4, .inl (upd (upd (upd (upd g3 0 (vp_nar .boolean 0)) 1 (vp_nar .boolean 0)) 2 (vp_nar .boolean 0)) 3 (vp_nar .boolean 0))))] H := hP
  have hD : va_D A [(h6, .inr (6, [.ref h1, .int 0, .int 0, b3, b4, b5, .int 0, .ref h5, b8])), (h1, .inl (cT, 1500, .inl f1)), (h5, .inr (4, [c0, .int 0, .int 0, c3, .ref j1, c5, c6, .int 0, c8, c9, c10, c11, .ref j2, .ref j3])), (j1, .inl (cB, 4, .inl (upd (upd (upd (upd g1 0 (-1)) 1 (-1)) 2 (-1)) 3 (-1)))), (j2, .inl (cC, 4, .inl (upd (upd (upd (upd g2 0 0) 1 0) 2 0) 3 0))), (j3, .inl (cD, 4, .inl (upd (upd (upd (upd g3 0 (vp_nar .boolean 0)) 1 (vp_nar .boolean 0)) 2 (vp_nar .boolean 0)) 3 (vp_nar .boolean 0))))] := hD
  have hK : va_K (dC, dI) vwCl [(cT, .byte), (cD, .boolean), (cB, .int), (cC, .int)] s := hK
  refine W.widen (k := 0) (n := 0) (by decide) (by decide) ?_
  refine lv_aload_n hx hb dX6_read_37 rfl (lv_at hl 0 rfl) ?_
  have hPc := hP.sub (ws' := [(h6, .inr (6, [.ref h1, .int 0, .int 0, b3, b4, b5, .int 0, .ref h5, b8]))]) [0] rfl
  have hDc := hD.sub (ws' := [(h6, .inr (6, [.ref h1, .int 0, .int 0, b3, b4, b5, .int 0, .ref h5, b8]))]) [0] (by decide) rfl
  have hKc := hK.sub (tys' := []) [] rfl
  have hFc := va_free (wc := [(h6, .inr (6, [.ref h1, .int 0, .int 0, b3, b4, b5, .int 0, .ref h5, b8]))]) hD hS hA [0] rfl
  have h_6 : 0 ≤ 1 := by decide
  have h_7 : 0 ≤ 6 := by decide
  refine va_callv (va_runV (As := []) (rest := []) ⟨hx, hb, hml, hown, hts⟩ (r_X6_next l dC dI h6 (.ref h1) b3 b4 b5 (.int 0) (.ref h5) b8 _) (cwV 0 hts wV_X6_read_X6_next_40 rfl rfl rfl (by decide +kernel) ⟨Nat.le_of_ble_eq_true rfl, Nat.le_of_ble_eq_true rfl⟩) ⟨fun a U g mk q => by obtain ⟨q0, q1, qP, qK, qD⟩ := q; exact ⟨q0, q1, qP, va_K.moved (u := U) (U := U.calling g mk a) (Vm.Alike.refl U.vm) qK, qD⟩, va_recv hKc hPc (ci := 6) (q0 := 0) rfl rfl, fun U hU hW => ⟨rfl, by rw [hU], by rw [hU]; exact hPc, va_K.moved hW.alike hKc, hDc.weaken (fun _ _ _ _ => trivial)⟩⟩ rfl rfl hl.1 rfl (lv_room (Nat.le_of_ble_eq_true rfl)) dX6_read_38 ⟨h_6, h_7⟩) hS (fun q _ h => hFc q h) hFc (fun u8 t H1 locs ht hvm hw hB hz1 hk1 hS => ?_)
  obtain ⟨hP1, hK1, hD1⟩ := hB
  rw [ht] at hP1
  have hK1 := va_K.moved hvm.symm hK1
  obtain ⟨hP, hD⟩ := va_join (wr := [(h1, .inl (cT, 1500, .inl f1)), (h5, .inr (4, [c0, .int 0, .int 0, c3, .ref j1, c5, c6, .int 0, c8, c9, c10, c11, .ref j2, .ref j3])), (j1, .inl (cB, 4, .inl (upd (upd (upd (upd g1 0 (-1)) 1 (-1)) 2 (-1)) 3 (-1)))), (j2, .inl (cC, 4, .inl (upd (upd (upd (upd g2 0 0) 1 0) 2 0) 3 0))), (j3, .inl (cD, 4, .inl (upd (upd (upd (upd g3 0 (vp_nar .boolean 0)) 1 (vp_nar .boolean 0)) 2 (vp_nar .boolean 0)) 3 (vp_nar .boolean 0))))]) (w1 := [(h6, .inr (6, [.ref h1, .int 0, .int 0, .int 0, b4, .int 0, .int 0, .ref h5, b8]))]) hP hD [0] [1, 2, 3, 4, 5] rfl rfl (by decide) (by decide) hk1 hFc hP1 hD1
  have hK := (hK.sub (tys' := [(cT, .byte), (cD, .boolean), (cB, .int), (cC, .int)]) [0, 1, 2, 3] rfl).app hK1
  generalize H1 = H at hP hS ⊢
  have hP : va_P (dC, dI) vwCl [(h1, .inl (cT, 1500, .inl f1)), (h5, .inr (4, [c0, .int 0, .int 0, c3, .ref j1, c5, c6, .int 0, c8, c9, c10, c11, .ref j2, .ref j3])), (j1, .inl (cB, 4, .inl (upd (upd (upd (upd g1 0 (-1)) 1 (-1)) 2 (-1)) 3 (-1)))), (j2, .inl (cC, 4, .inl (upd (upd (upd (upd g2 0 0) 1 0) 2 0) 3 0))), (j3, .inl (cD, 4, .inl (upd (upd (upd (upd g3 0 (vp_nar .boolean 0)) 1 (vp_nar .boolean 0)) 2 (vp_nar .boolean 0)) 3 (vp_nar .boolean 0)))), (h6, .inr (6, [.ref h1, .int 0, .int 0, .int 0, b4, .int 0, .int 0, .ref h5, b8]))] H := hP
  have hD : va_D A [(h1, .inl (cT, 1500, .inl f1)), (h5, .inr (4, [c0, .int 0, .int 0, c3, .ref j1, c5, c6, .int 0, c8, c9, c10, c11, .ref j2, .ref j3])), (j1, .inl (cB, 4, .inl (upd (upd (upd (upd g1 0 (-1)) 1 (-1)) 2 (-1)) 3 (-1)))), (j2, .inl (cC, 4, .inl (upd (upd (upd (upd g2 0 0) 1 0) 2 0) 3 0))), (j3, .inl (cD, 4, .inl (upd (upd (upd (upd g3 0 (vp_nar .boolean 0)) 1 (vp_nar .boolean 0)) 2 (vp_nar .boolean 0)) 3 (vp_nar .boolean 0)))), (h6, .inr (6, [.ref h1, .int 0, .int 0, .int 0, b4, .int 0, .int 0, .ref h5, b8]))] := hD
  have hK : va_K (dC, dI) vwCl [(cT, .byte), (cD, .boolean), (cB, .int), (cC, .int)] s := hK
  refine W.widen (k := 0) (n := 0) (by decide) (by decide) ?_
  refine lv_iconst (v := 0) hx hb dX6_read_41 (by decide) ?_
  refine lv_istore (lv' := [(4, .int 0), (0, .ref h6), (1, .ref h1), (2, .int 0), (3, .ref h5)]) hx hb dX6_read_42 hl (by decide) rfl (fun ls hl => ?_)
  refine lv_iload hx hb dX6_read_44 (lv_at hl 0 rfl) ?_
  refine lv_bipush (v := 16) hx hb dX6_read_46 (by decide) ?_
  refine lv_icmp_gt (tgt := 101) hx hb dX6_read_48 (by decide) (fun h9 => absurd h9 (by decide)) (fun _ => ?_)
  refine lv_aload_n hx hb dX6_read_51 rfl (lv_at hl 1 rfl) ?_
  refine va_get (D := (dC, dI)) (ci := 6) (v := .int 0) (C := RX6) (T := TX6) (N := 9) hx hb hts wh_X6_read_X6 hown hK hP 5 rfl rfl 3 (by decide) (hts (.fieldLink RX6 43 "StreamHouse$Parser" "token" "I") (wm_X6_read 17 rfl)) (fun _ h9 => h9) rfl dX6_read_52 ?_
  refine lv_if_ne (tgt := 68) hx hb dX6_read_55 (by decide) (fun h9 => absurd (by decide) h9) (fun _ => ?_)
  refine lv_aload_n hx hb dX6_read_58 rfl (lv_at hl 1 rfl) ?_
  refine va_get (D := (dC, dI)) (ci := 6) (v := .ref h5) (C := RX6) (T := TX6) (N := 9) hx hb hts wh_X6_read_X6 hown hK hP 5 rfl rfl 7 (by decide) (hts (.fieldLink RX6 31 "StreamHouse$Parser" "job" "LStreamHouse$Job;") (wm_X6_read 8 rfl)) (fun _ h9 => h9) rfl dX6_read_59 ?_
  refine va_get (D := (dC, dI)) (ci := 4) (v := .int 0) (C := RX4) (T := TX4) (N := 14) hx hb hts wh_X6_read_X4 hown hK hP 1 rfl rfl 2 (by decide) (hts (.fieldLink RX6 46 "StreamHouse$Job" "outputs" "I") (wm_X6_read 18 rfl)) (fun _ h9 => h9) rfl dX6_read_62 ?_
  refine lv_if_ne (tgt := 101) hx hb dX6_read_65 (by decide) (fun h9 => absurd (by decide) h9) (fun _ => ?_)
  refine lv_aload_n hx hb dX6_read_68 rfl (lv_at hl 1 rfl) ?_
  refine lv_aload_n hx hb dX6_read_69 rfl (lv_at hl 1 rfl) ?_
  have hPc := hP.sub (ws' := [(h6, .inr (6, [.ref h1, .int 0, .int 0, .int 0, b4, .int 0, .int 0, .ref h5, b8]))]) [5] rfl
  have hDc := hD.sub (ws' := [(h6, .inr (6, [.ref h1, .int 0, .int 0, .int 0, b4, .int 0, .int 0, .ref h5, b8]))]) [5] (by decide) rfl
  have hKc := hK.sub (tys' := []) [] rfl
  have hFc := va_free (wc := [(h6, .inr (6, [.ref h1, .int 0, .int 0, .int 0, b4, .int 0, .int 0, .ref h5, b8]))]) hD hS hA [5] rfl
  have h_9 : 1 ≤ 1 := by decide
  have h_10 : 6 ≤ 6 := by decide
  refine xz_callX (vx_runV (As := []) (rest := [.ref h6]) ⟨hx, hb, hml, hown, hts⟩ (x_X6_statementHead l hl0 dC dI h6 (.ref h1) (.int 0) (.int 0) b4 (.int 0) (.int 0) (.ref h5) b8 _) (cwV 0 hts wV_X6_read_X6_statementHead_49 rfl rfl rfl (by decide +kernel) ⟨Nat.le_of_ble_eq_true rfl, Nat.le_of_ble_eq_true rfl⟩) ⟨fun a U g mk q => by obtain ⟨q0, q1, qP, qK, qD, qf0, qf1⟩ := q; exact ⟨q0, q1, qP, va_K.moved (u := U) (U := U.calling g mk a) (Vm.Alike.refl U.vm) qK, qD, xz_F.same rfl qf0, xz_Z.same (Vm.Alike.refl _) rfl qf1⟩, va_recv hKc hPc (ci := 6) (q0 := 0) rfl rfl, fun U hU hW => ⟨rfl, by rw [hU], by rw [hU]; exact hPc, va_K.moved hW.alike hKc, hDc.weaken (fun _ _ _ _ => trivial), xz_F.warm hW hF9, (hZ9.to hS hFc hW.alike hU)⟩⟩ rfl rfl hl.1 rfl (lv_room (Nat.le_of_ble_eq_true rfl)) dX6_read_70 ⟨h_9, h_10⟩) (fun _ _ _ h9 => by obtain ⟨⟨_, h9⟩, _⟩ := h9; simp at h9) hS hFc (fun q _ h => hFc q h) (fun E ce x11 u t H1 locs ht hvm hw hB hz1 hk1 hS hce hcv hcl => ?_)
  obtain ⟨hE, hP1, hK1, hD1⟩ := hB
  subst hE
  rw [ht] at hP1
  have hK1 := va_K.moved hvm.symm hK1
  obtain ⟨hP, hD⟩ := va_join (wr := [(h1, .inl (cT, 1500, .inl f1)), (h5, .inr (4, [c0, .int 0, .int 0, c3, .ref j1, c5, c6, .int 0, c8, c9, c10, c11, .ref j2, .ref j3])), (j1, .inl (cB, 4, .inl (upd (upd (upd (upd g1 0 (-1)) 1 (-1)) 2 (-1)) 3 (-1)))), (j2, .inl (cC, 4, .inl (upd (upd (upd (upd g2 0 0) 1 0) 2 0) 3 0))), (j3, .inl (cD, 4, .inl (upd (upd (upd (upd g3 0 (vp_nar .boolean 0)) 1 (vp_nar .boolean 0)) 2 (vp_nar .boolean 0)) 3 (vp_nar .boolean 0))))]) (w1 := [(h6, .inr (6, [.ref h1, .int 0, .int 0, .int 0, b4, .int 0, .int 3, .ref h5, b8]))]) hP hD [5] [0, 1, 2, 3, 4] rfl rfl (by decide) (by decide) hk1 hFc hP1 hD1
  have hK := (hK.sub (tys' := [(cT, .byte), (cD, .boolean), (cB, .int), (cC, .int)]) [0, 1, 2, 3] rfl).app hK1
  generalize H1 = H at hP hS hce ⊢
  have hP : va_P (dC, dI) vwCl [(h1, .inl (cT, 1500, .inl f1)), (h5, .inr (4, [c0, .int 0, .int 0, c3, .ref j1, c5, c6, .int 0, c8, c9, c10, c11, .ref j2, .ref j3])), (j1, .inl (cB, 4, .inl (upd (upd (upd (upd g1 0 (-1)) 1 (-1)) 2 (-1)) 3 (-1)))), (j2, .inl (cC, 4, .inl (upd (upd (upd (upd g2 0 0) 1 0) 2 0) 3 0))), (j3, .inl (cD, 4, .inl (upd (upd (upd (upd g3 0 (vp_nar .boolean 0)) 1 (vp_nar .boolean 0)) 2 (vp_nar .boolean 0)) 3 (vp_nar .boolean 0)))), (h6, .inr (6, [.ref h1, .int 0, .int 0, .int 0, b4, .int 0, .int 3, .ref h5, b8]))] H := hP
  have hD : va_D A [(h1, .inl (cT, 1500, .inl f1)), (h5, .inr (4, [c0, .int 0, .int 0, c3, .ref j1, c5, c6, .int 0, c8, c9, c10, c11, .ref j2, .ref j3])), (j1, .inl (cB, 4, .inl (upd (upd (upd (upd g1 0 (-1)) 1 (-1)) 2 (-1)) 3 (-1)))), (j2, .inl (cC, 4, .inl (upd (upd (upd (upd g2 0 0) 1 0) 2 0) 3 0))), (j3, .inl (cD, 4, .inl (upd (upd (upd (upd g3 0 (vp_nar .boolean 0)) 1 (vp_nar .boolean 0)) 2 (vp_nar .boolean 0)) 3 (vp_nar .boolean 0)))), (h6, .inr (6, [.ref h1, .int 0, .int 0, .int 0, b4, .int 0, .int 3, .ref h5, b8]))] := hD
  have hK : va_K (dC, dI) vwCl [(cT, .byte), (cD, .boolean), (cB, .int), (cC, .int)] s := hK
  refine vx_widen (k := 1) (n := 6) (by decide) (by decide) ?_
  refine vx_catch (own := RX6) (name := "java/lang/IllegalArgumentException") (E := "java/lang/IllegalArgumentException") hown [] ⟨37, 101, 104, 64⟩ [] htab (fun z9 hz9 => nomatch hz9) (by decide) (by decide) (hts (.classLink RX6 64 "java/lang/IllegalArgumentException") (wm_X6_read 22 rfl)) (va_Nw.use rfl hF9.2.2.2.2.1) hce hcv hcl ?_
  refine lv_astore (lv' := [(4, .ref x11), (0, .ref h6), (1, .ref h1), (2, .int 0), (3, .ref h5)]) hx hb dX6_read_104 hl (by decide) rfl (fun ls hl => ?_)
  refine lv_aload_n hx hb dX6_read_106 rfl (lv_at hl 1 rfl) ?_
  refine va_get (D := (dC, dI)) (ci := 6) (v := .int 3) (C := RX6) (T := TX6) (N := 9) hx hb hts wh_X6_read_X6 hown hK hP 5 rfl rfl 6 (by decide) (hts (.fieldLink RX6 28 "StreamHouse$Parser" "fault" "I") (wm_X6_read 7 rfl)) (fun _ h9 => h9) rfl dX6_read_107 ?_
  have hP9 := hP.sub (ws' := [(h6, .inr (6, [.ref h1, .int 0, .int 0, .int 0, b4, .int 0, .int 3, .ref h5, b8])), (h1, .inl (cT, 1500, .inl f1)), (h5, .inr (4, [c0, .int 0, .int 0, c3, .ref j1, c5, c6, .int 0, c8, c9, c10, c11, .ref j2, .ref j3])), (j1, .inl (cB, 4, .inl (upd (upd (upd (upd g1 0 (-1)) 1 (-1)) 2 (-1)) 3 (-1)))), (j2, .inl (cC, 4, .inl (upd (upd (upd (upd g2 0 0) 1 0) 2 0) 3 0))), (j3, .inl (cD, 4, .inl (upd (upd (upd (upd g3 0 (vp_nar .boolean 0)) 1 (vp_nar .boolean 0)) 2 (vp_nar .boolean 0)) 3 (vp_nar .boolean 0))))]) [5, 0, 1, 2, 3, 4] rfl
  have hD9 := hD.sub (ws' := [(h6, .inr (6, [.ref h1, .int 0, .int 0, .int 0, b4, .int 0, .int 3, .ref h5, b8])), (h1, .inl (cT, 1500, .inl f1)), (h5, .inr (4, [c0, .int 0, .int 0, c3, .ref j1, c5, c6, .int 0, c8, c9, c10, c11, .ref j2, .ref j3])), (j1, .inl (cB, 4, .inl (upd (upd (upd (upd g1 0 (-1)) 1 (-1)) 2 (-1)) 3 (-1)))), (j2, .inl (cC, 4, .inl (upd (upd (upd (upd g2 0 0) 1 0) 2 0) 3 0))), (j3, .inl (cD, 4, .inl (upd (upd (upd (upd g3 0 (vp_nar .boolean 0)) 1 (vp_nar .boolean 0)) 2 (vp_nar .boolean 0)) 3 (vp_nar .boolean 0))))]) [5, 0, 1, 2, 3, 4] (by decide) rfl
  have hK9 := hK.sub (tys' := [(cT, .byte), (cD, .boolean), (cB, .int), (cC, .int)]) [0, 1, 2, 3] rfl
  refine W.widen (k := 1) (n := 6) (by decide) (by decide) ?_
  exact W.iret (v := 3) hx hb hr (fun t ht hW => ⟨⟨3, (), rfl, rfl, by rw [ht]; exact hP9, va_K.moved hW.alike hK9, hD9⟩, hS.F ht⟩) hS.2.2 dX6_read_110

abbrev ar_X12_job (dC : Nat → ClassId) (dI : Nat → Nat → Nat) (A : Nat → Prop) (h0 h1 h6 h5 j1 j2 j3 h7 h8 : Nat) (cT cB cC cD : ClassId) (f1 g1 g2 g3 : Nat → Int32) (a2 a4 a6 a8 b0 b1 b2 b3 b4 b5 b6 b7 b8 c0 c1 c2 c3 c5 c6 c7 c8 c9 c10 c11 e0 e1 e3 e4 e5 e6 e7 e8 e9 e10 e11 e12 e13 e14 e15 e16 e17 e18 e19 d0 d1 d2 d3 d4 d5 d6 d7 d8 : Value) (_ : Unit) (t : State) : Prop := va_P (dC, dI) vwCl [(h0, .inr (12, [.ref h1, .int 0, .int 3, .ref h6, a4, .ref h5, a6, .ref h7, a8])), (h1, .inl (cT, 1500, .inl f1)), (h6, .inr (6, [.ref h1, .int 0, .int 0, .int 0, b4, .int 0, .int 3, .ref h5, b8])), (h5, .inr (4, [c0, .int 0, .int 0, c3, .ref j1, c5, c6, .int 0, c8, c9, c10, c11, .ref j2, .ref j3])), (j1, .inl (cB, 4, .inl (upd (upd (upd (upd g1 0 (-1)) 1 (-1)) 2 (-1)) 3 (-1)))), (j2, .inl (cC, 4, .inl (upd (upd (upd (upd g2 0 0) 1 0) 2 0) 3 0))), (j3, .inl (cD, 4, .inl (upd (upd (upd (upd g3 0 (vp_nar .boolean 0)) 1 (vp_nar .boolean 0)) 2 (vp_nar .boolean 0)) 3 (vp_nar .boolean 0)))), (h7, .inr (9, [e0, e1, .ref h8, e3, e4, e5, e6, e7, e8, e9, e10, e11, e12, e13, e14, e15, e16, e17, e18, e19])), (h8, .inr (3, [d0, d1, d2, d3, d4, d5, d6, d7, d8, .int 0]))] t.heap ∧ va_K (dC, dI) vwCl [(cT, .byte), (cD, .boolean), (cB, .int), (cC, .int)] t ∧ va_D A [(h0, .inr (12, [.ref h1, .int 0, .int 3, .ref h6, a4, .ref h5, a6, .ref h7, a8])), (h1, .inl (cT, 1500, .inl f1)), (h6, .inr (6, [.ref h1, .int 0, .int 0, .int 0, b4, .int 0, .int 3, .ref h5, b8])), (h5, .inr (4, [c0, .int 0, .int 0, c3, .ref j1, c5, c6, .int 0, c8, c9, c10, c11, .ref j2, .ref j3])), (j1, .inl (cB, 4, .inl (upd (upd (upd (upd g1 0 (-1)) 1 (-1)) 2 (-1)) 3 (-1)))), (j2, .inl (cC, 4, .inl (upd (upd (upd (upd g2 0 0) 1 0) 2 0) 3 0))), (j3, .inl (cD, 4, .inl (upd (upd (upd (upd g3 0 (vp_nar .boolean 0)) 1 (vp_nar .boolean 0)) 2 (vp_nar .boolean 0)) 3 (vp_nar .boolean 0)))), (h7, .inr (9, [e0, e1, .ref h8, e3, e4, e5, e6, e7, e8, e9, e10, e11, e12, e13, e14, e15, e16, e17, e18, e19])), (h8, .inr (3, [d0, d1, d2, d3, d4, d5, d6, d7, d8, .int 0]))]
theorem dX12_job_0 : decode cX12_job 0 = .ok (.aload_n 0, 1) := by decide +kernel
theorem dX12_job_1 : decode cX12_job 1 = .ok (.getfield 13, 3) := by decide +kernel
theorem dX12_job_4 : decode cX12_job 4 = .ok (.istore_n 1, 1) := by decide +kernel
theorem dX12_job_5 : decode cX12_job 5 = .ok (.aload_n 0, 1) := by decide +kernel
theorem dX12_job_6 : decode cX12_job 6 = .ok (.iconst 0, 1) := by decide +kernel
theorem dX12_job_7 : decode cX12_job 7 = .ok (.putfield 13, 3) := by decide +kernel
theorem dX12_job_10 : decode cX12_job 10 = .ok (.aload_n 0, 1) := by decide +kernel
theorem dX12_job_11 : decode cX12_job 11 = .ok (.getfield 49, 3) := by decide +kernel
theorem dX12_job_14 : decode cX12_job 14 = .ok (.getfield 66, 3) := by decide +kernel
theorem dX12_job_17 : decode cX12_job 17 = .ok (.getfield 70, 3) := by decide +kernel
theorem dX12_job_20 : decode cX12_job 20 = .ok (.ifCond .eq 11, 3) := by decide +kernel
theorem dX12_job_31 : decode cX12_job 31 = .ok (.aload_n 0, 1) := by decide +kernel
theorem dX12_job_32 : decode cX12_job 32 = .ok (.aload_n 0, 1) := by decide +kernel
theorem dX12_job_33 : decode cX12_job 33 = .ok (.getfield 23, 3) := by decide +kernel
theorem dX12_job_36 : decode cX12_job 36 = .ok (.aload_n 0, 1) := by decide +kernel
theorem dX12_job_37 : decode cX12_job 37 = .ok (.getfield 9, 3) := by decide +kernel
theorem dX12_job_40 : decode cX12_job 40 = .ok (.iload_n 1, 1) := by decide +kernel
theorem dX12_job_41 : decode cX12_job 41 = .ok (.aload_n 0, 1) := by decide +kernel
theorem dX12_job_42 : decode cX12_job 42 = .ok (.getfield 34, 3) := by decide +kernel
theorem dX12_job_45 : decode cX12_job 45 = .ok (.invokevirtual 79, 3) := by decide +kernel
theorem dX12_job_48 : decode cX12_job 48 = .ok (.putfield 17, 3) := by decide +kernel
theorem dX12_job_51 : decode cX12_job 51 = .ok (.aload_n 0, 1) := by decide +kernel
theorem dX12_job_52 : decode cX12_job 52 = .ok (.getfield 17, 3) := by decide +kernel
theorem dX12_job_55 : decode cX12_job 55 = .ok (.ifCond .eq 13, 3) := by decide +kernel
theorem dX12_job_58 : decode cX12_job 58 = .ok (.iconst (-1), 1) := by decide +kernel
theorem dX12_job_59 : decode cX12_job 59 = .ok (.aload_n 0, 1) := by decide +kernel
theorem dX12_job_60 : decode cX12_job 60 = .ok (.getfield 23, 3) := by decide +kernel
theorem dX12_job_63 : decode cX12_job 63 = .ok (.getfield 83, 3) := by decide +kernel
theorem dX12_job_66 : decode cX12_job 66 = .ok (.isub, 1) := by decide +kernel
theorem dX12_job_67 : decode cX12_job 67 = .ok (.ireturn, 1) := by decide +kernel
def ww_X12_job : List Cond := [.fieldLink RX12 13 "StreamHouse" "tapeLength" "I", .fieldLink RX12 49 "StreamHouse" "run" "LStreamHouse$Run;", .fieldLink RX12 66 "StreamHouse$Run" "disk" "LStreamHouse$Disk;", .fieldLink RX12 70 "StreamHouse$Disk" "down" "Z", .fieldLink RX12 23 "StreamHouse" "parser" "LStreamHouse$Parser;", .fieldLink RX12 9 "StreamHouse" "tape" "[B", .fieldLink RX12 34 "StreamHouse" "spare" "LStreamHouse$Job;", .initialized RX6, .methodLink RX12 79 yX6_read, .instanceMethod yX6_read, .selects RX6 yX6_read yX6_read, .fieldLink RX12 17 "StreamHouse" "faultOfText" "I", .fieldLink RX12 83 "StreamHouse$Parser" "place" "I"]
def wv_X12_job : List Cond := .code yX12_job cX12_job 3 (some .int) :: (ww_X12_job ++ (u_ws RX12 TX12 9 ++ (u_ws RX9 TX9 20 ++ (u_ws RX3 TX3 10 ++ (wv_X6_read ++ (u_ws RX6 TX6 9 ++ []))))))
theorem wm_X12_job {w : Cond} (i : Nat) (h : ww_X12_job[i]? = some w) : w ∈ wv_X12_job := List.mem_cons_of_mem _ (List.mem_append_left _ (List.mem_of_getElem? h))
set_option maxRecDepth 100000 in
theorem gw_X12_job : wv_X12_job.all goodWord = true := by decide +kernel
theorem wh_X12_job_X12 : ∀ w ∈ u_ws RX12 TX12 9, w ∈ wv_X12_job := fun w h => List.mem_cons_of_mem _ (List.mem_append_right _ (List.mem_append_left _ h))
theorem wh_X12_job_X9 : ∀ w ∈ u_ws RX9 TX9 20, w ∈ wv_X12_job := fun w h => List.mem_cons_of_mem _ (List.mem_append_right _ (List.mem_append_right _ (List.mem_append_left _ h)))
theorem wh_X12_job_X3 : ∀ w ∈ u_ws RX3 TX3 10, w ∈ wv_X12_job := fun w h => List.mem_cons_of_mem _ (List.mem_append_right _ (List.mem_append_right _ (List.mem_append_right _ (List.mem_append_left _ h))))
theorem wg_X12_job_X6_read : GoodIn wv_X12_job wv_X6_read := goodIn_sub (fun w h => List.mem_cons_of_mem _ (List.mem_append_right _ (List.mem_append_right _ (List.mem_append_right _ (List.mem_append_right _ (List.mem_append_left _ h)))))) gw_X6_read
theorem wV_X12_job_X6_read_79 : GoodIn wv_X12_job (wsV RX12 79 RX6 yX6_read wv_X6_read) := goodIn_app (goodIn_sub (fun w h => by simp only [List.mem_cons, List.not_mem_nil, or_false] at h; rcases h with rfl | rfl | rfl | rfl <;> first | exact wm_X12_job 8 rfl | exact wm_X12_job 9 rfl | exact wm_X12_job 10 rfl | exact wm_X12_job 7 rfl) (by decide +kernel)) wg_X12_job_X6_read
theorem wh_X12_job_X6 : ∀ w ∈ u_ws RX6 TX6 9, w ∈ wv_X12_job := fun w h => List.mem_cons_of_mem _ (List.mem_append_right _ (List.mem_append_right _ (List.mem_append_right _ (List.mem_append_right _ (List.mem_append_right _ (List.mem_append_left _ h))))))
set_option maxHeartbeats 4000000 in
set_option maxRecDepth 100000 in
/-- job() of an empty tape -/
theorem r_X12_job (l : Launch) (hl0 : l.stackTraces = false) (dC : Nat → ClassId) (dI : Nat → Nat → Nat) (h0 h1 h6 h5 j1 j2 j3 h7 h8 : Nat) (cT cB cC cD : ClassId) (f1 g1 g2 g3 : Nat → Int32) (a2 a4 a6 a8 b0 b1 b2 b3 b4 b5 b6 b7 b8 c0 c1 c2 c3 c5 c6 c7 c8 c9 c10 c11 e0 e1 e3 e4 e5 e6 e7 e8 e9 e10 e11 e12 e13 e14 e15 e16 e17 e18 e19 d0 d1 d2 d3 d4 d5 d6 d7 d8 : Value) (sz : Nat) : Met l yX12_job wv_X12_job ({ frames := 10, cells := 1, slots := 6, locals := 167 }) (va_Pc [.ref h0] (fun U => U.heap.size = sz ∧ va_P (dC, dI) vwCl [(h0, .inr (12, [.ref h1, .int 0, a2, .ref h6, a4, .ref h5, a6, .ref h7, a8])), (h1, .inl (cT, 1500, .inl f1)), (h6, .inr (6, [b0, b1, b2, b3, b4, b5, b6, b7, b8])), (h5, .inr (4, [c0, c1, c2, c3, .ref j1, c5, c6, c7, c8, c9, c10, c11, .ref j2, .ref j3])), (j1, .inl (cB, 4, .inl g1)), (j2, .inl (cC, 4, .inl g2)), (j3, .inl (cD, 4, .inl g3)), (h7, .inr (9, [e0, e1, .ref h8, e3, e4, e5, e6, e7, e8, e9, e10, e11, e12, e13, e14, e15, e16, e17, e18, e19])), (h8, .inr (3, [d0, d1, d2, d3, d4, d5, d6, d7, d8, .int 0]))] U.heap ∧ va_K (dC, dI) vwCl [(cT, .byte), (cB, .int), (cC, .int), (cD, .boolean)] U ∧ va_D (fun _ => True) [(h0, .inr (12, [.ref h1, .int 0, a2, .ref h6, a4, .ref h5, a6, .ref h7, a8])), (h1, .inl (cT, 1500, .inl f1)), (h6, .inr (6, [b0, b1, b2, b3, b4, b5, b6, b7, b8])), (h5, .inr (4, [c0, c1, c2, c3, .ref j1, c5, c6, c7, c8, c9, c10, c11, .ref j2, .ref j3])), (j1, .inl (cB, 4, .inl g1)), (j2, .inl (cC, 4, .inl g2)), (j3, .inl (cD, 4, .inl g3)), (h7, .inr (9, [e0, e1, .ref h8, e3, e4, e5, e6, e7, e8, e9, e10, e11, e12, e13, e14, e15, e16, e17, e18, e19])), (h8, .inr (3, [d0, d1, d2, d3, d4, d5, d6, d7, d8, .int 0]))] ∧ xz_F U ∧ xz_Z (va_A [(h0, .inr (12, [.ref h1, .int 0, a2, .ref h6, a4, .ref h5, a6, .ref h7, a8])), (h1, .inl (cT, 1500, .inl f1)), (h6, .inr (6, [b0, b1, b2, b3, b4, b5, b6, b7, b8])), (h5, .inr (4, [c0, c1, c2, c3, .ref j1, c5, c6, c7, c8, c9, c10, c11, .ref j2, .ref j3])), (j1, .inl (cB, 4, .inl g1)), (j2, .inl (cC, 4, .inl g2)), (j3, .inl (cD, 4, .inl g3)), (h7, .inr (9, [e0, e1, .ref h8, e3, e4, e5, e6, e7, e8, e9, e10, e11, e12, e13, e14, e15, e16, e17, e18, e19])), (h8, .inr (3, [d0, d1, d2, d3, d4, d5, d6, d7, d8, .int 0]))] sz) U U.heap)) (va_Qi (fun r (_ : Unit) => r = (-1)) (ar_X12_job dC dI (va_A [(h0, .inr (12, [.ref h1, .int 0, a2, .ref h6, a4, .ref h5, a6, .ref h7, a8])), (h1, .inl (cT, 1500, .inl f1)), (h6, .inr (6, [b0, b1, b2, b3, b4, b5, b6, b7, b8])), (h5, .inr (4, [c0, c1, c2, c3, .ref j1, c5, c6, c7, c8, c9, c10, c11, .ref j2, .ref j3])), (j1, .inl (cB, 4, .inl g1)), (j2, .inl (cC, 4, .inl g2)), (j3, .inl (cD, 4, .inl g3)), (h7, .inr (9, [e0, e1, .ref h8, e3, e4, e5, e6, e7, e8, e9, e10, e11, e12, e13, e14, e15, e16, e17, e18, e19])), (h8, .inr (3, [d0, d1, d2, d3, d4, d5, d6, d7, d8, .int 0]))] sz) h0 h1 h6 h5 j1 j2 j3 h7 h8 cT cB cC cD f1 g1 g2 g3 a2 a4 a6 a8 b0 b1 b2 b3 b4 b5 b6 b7 b8 c0 c1 c2 c3 c5 c6 c7 c8 c9 c10 c11 e0 e1 e3 e4 e5 e6 e7 e8 e9 e10 e11 e12 e13 e14 e15 e16 e17 e18 e19 d0 d1 d2 d3 d4 d5 d6 d7 d8) (va_A [(h0, .inr (12, [.ref h1, .int 0, a2, .ref h6, a4, .ref h5, a6, .ref h7, a8])), (h1, .inl (cT, 1500, .inl f1)), (h6, .inr (6, [b0, b1, b2, b3, b4, b5, b6, b7, b8])), (h5, .inr (4, [c0, c1, c2, c3, .ref j1, c5, c6, c7, c8, c9, c10, c11, .ref j2, .ref j3])), (j1, .inl (cB, 4, .inl g1)), (j2, .inl (cC, 4, .inl g2)), (j3, .inl (cD, 4, .inl g3)), (h7, .inr (9, [e0, e1, .ref h8, e3, e4, e5, e6, e7, e8, e9, e10, e11, e12, e13, e14, e15, e16, e17, e18, e19])), (h8, .inr (3, [d0, d1, d2, d3, d4, d5, d6, d7, d8, .int 0]))] sz)) 1 6 (va_A [(h0, .inr (12, [.ref h1, .int 0, a2, .ref h6, a4, .ref h5, a6, .ref h7, a8])), (h1, .inl (cT, 1500, .inl f1)), (h6, .inr (6, [b0, b1, b2, b3, b4, b5, b6, b7, b8])), (h5, .inr (4, [c0, c1, c2, c3, .ref j1, c5, c6, c7, c8, c9, c10, c11, .ref j2, .ref j3])), (j1, .inl (cB, 4, .inl g1)), (j2, .inl (cC, 4, .inl g2)), (j3, .inl (cD, 4, .inl g3)), (h7, .inr (9, [e0, e1, .ref h8, e3, e4, e5, e6, e7, e8, e9, e10, e11, e12, e13, e14, e15, e16, e17, e18, e19])), (h8, .inr (3, [d0, d1, d2, d3, d4, d5, d6, d7, d8, .int 0]))] sz) := by
  refine Met.ofW (cc := cX12_job) (maxL := 3) (ret := (some .int)) (by decide) rfl ?_
  intro p e s m args below meth c s₁ B hml hv
  obtain ⟨rfl, hsz, hP, hK, hD0, hF9, hZ9⟩ := hv
  have hx := B.exec
  have hb := B.bytes
  have hr := B.returns
  have hts := atoms_spec (ws := wv_X12_job) B.pre
  have hown : s.vm.findClass RX12 = some m.cls := findClass_of_methodNamed B.named
  have hlocks := B.notSynchronized
  subst hsz
  have hD := hD0.self (sz := s.heap.size)
  generalize hAe : va_A [(h0, .inr (12, [.ref h1, .int 0, a2, .ref h6, a4, .ref h5, a6, .ref h7, a8])), (h1, .inl (cT, 1500, .inl f1)), (h6, .inr (6, [b0, b1, b2, b3, b4, b5, b6, b7, b8])), (h5, .inr (4, [c0, c1, c2, c3, .ref j1, c5, c6, c7, c8, c9, c10, c11, .ref j2, .ref j3])), (j1, .inl (cB, 4, .inl g1)), (j2, .inl (cC, 4, .inl g2)), (j3, .inl (cD, 4, .inl g3)), (h7, .inr (9, [e0, e1, .ref h8, e3, e4, e5, e6, e7, e8, e9, e10, e11, e12, e13, e14, e15, e16, e17, e18, e19])), (h8, .inr (3, [d0, d1, d2, d3, d4, d5, d6, d7, d8, .int 0]))] s.heap.size = A at hD hZ9 ⊢
  have hA : ∀ q : Nat, s.heap.size ≤ q → A q := fun q h => by rw [← hAe]; exact Or.inr h
  have hS : va_S A s.heap s.heap [] := va_S.rf
  have hP : va_P (dC, dI) vwCl [(h0, .inr (12, [.ref h1, .int 0, a2, .ref h6, a4, .ref h5, a6, .ref h7, a8])), (h1, .inl (cT, 1500, .inl f1)), (h6, .inr (6, [b0, b1, b2, b3, b4, b5, b6, b7, b8])), (h5, .inr (4, [c0, c1, c2, c3, .ref j1, c5, c6, c7, c8, c9, c10, c11, .ref j2, .ref j3])), (j1, .inl (cB, 4, .inl g1)), (j2, .inl (cC, 4, .inl g2)), (j3, .inl (cD, 4, .inl g3)), (h7, .inr (9, [e0, e1, .ref h8, e3, e4, e5, e6, e7, e8, e9, e10, e11, e12, e13, e14, e15, e16, e17, e18, e19])), (h8, .inr (3, [d0, d1, d2, d3, d4, d5, d6, d7, d8, .int 0]))] s.heap := hP
  have hl := lv_entry ([.ref h0]) (n := 3) (Nat.le_of_ble_eq_true rfl)
  rw [lg_entry_eq]
  generalize (lg_sl ([.ref h0]) ++ List.replicate (3 - (lg_sl ([.ref h0])).length) Slot.unset).toArray = ls at hl ⊢
  have hl : lv_has ls 3 [(0, .ref h0)] := hl
  refine lv_aload_n hx hb dX12_job_0 rfl (lv_at hl 0 rfl) ?_
  refine va_get (D := (dC, dI)) (ci := 12) (v := .int 0) (C := RX12) (T := TX12) (N := 9) hx hb hts wh_X12_job_X12 hown hK hP 0 rfl rfl 1 (by decide) (hts (.fieldLink RX12 13 "StreamHouse" "tapeLength" "I") (wm_X12_job 0 rfl)) (fun _ h9 => h9) rfl dX12_job_1 ?_
  refine lv_istore_n (lv' := [(1, .int 0), (0, .ref h0)]) hx hb dX12_job_4 rfl hl (by decide) rfl (fun ls hl => ?_)
  refine lv_aload_n hx hb dX12_job_5 rfl (lv_at hl 1 rfl) ?_
  refine lv_iconst (v := 0) hx hb dX12_job_6 (by decide) ?_
  refine va_put (D := (dC, dI)) (ci := 12) (v := .int 0) (ty := .int) (C := RX12) (T := TX12) (N := 9) hx hb hts wh_X12_job_X12 tyX12 tyX12_ok nmX12 hown hK hP hD hS 0 rfl rfl 1 (by decide) (hts (.fieldLink RX12 13 "StreamHouse" "tapeLength" "I") (wm_X12_job 0 rfl)) (fun _ h9 => h9) rfl (by decide +kernel) rfl rfl (Nat.le_of_ble_eq_true rfl) dX12_job_7 (fun H locs hP hD hS => ?_)
  have hP : va_P (dC, dI) vwCl [(h0, .inr (12, [.ref h1, .int 0, a2, .ref h6, a4, .ref h5, a6, .ref h7, a8])), (h1, .inl (cT, 1500, .inl f1)), (h6, .inr (6, [b0, b1, b2, b3, b4, b5, b6, b7, b8])), (h5, .inr (4, [c0, c1, c2, c3, .ref j1, c5, c6, c7, c8, c9, c10, c11, .ref j2, .ref j3])), (j1, .inl (cB, 4, .inl g1)), (j2, .inl (cC, 4, .inl g2)), (j3, .inl (cD, 4, .inl g3)), (h7, .inr (9, [e0, e1, .ref h8, e3, e4, e5, e6, e7, e8, e9, e10, e11, e12, e13, e14, e15, e16, e17, e18, e19])), (h8, .inr (3, [d0, d1, d2, d3, d4, d5, d6, d7, d8, .int 0]))] H := hP
  have hD : va_D A [(h0, .inr (12, [.ref h1, .int 0, a2, .ref h6, a4, .ref h5, a6, .ref h7, a8])), (h1, .inl (cT, 1500, .inl f1)), (h6, .inr (6, [b0, b1, b2, b3, b4, b5, b6, b7, b8])), (h5, .inr (4, [c0, c1, c2, c3, .ref j1, c5, c6, c7, c8, c9, c10, c11, .ref j2, .ref j3])), (j1, .inl (cB, 4, .inl g1)), (j2, .inl (cC, 4, .inl g2)), (j3, .inl (cD, 4, .inl g3)), (h7, .inr (9, [e0, e1, .ref h8, e3, e4, e5, e6, e7, e8, e9, e10, e11, e12, e13, e14, e15, e16, e17, e18, e19])), (h8, .inr (3, [d0, d1, d2, d3, d4, d5, d6, d7, d8, .int 0]))] := hD
  refine lv_aload_n hx hb dX12_job_10 rfl (lv_at hl 1 rfl) ?_
  refine va_get (D := (dC, dI)) (ci := 12) (v := .ref h7) (C := RX12) (T := TX12) (N := 9) hx hb hts wh_X12_job_X12 hown hK hP 0 rfl rfl 7 (by decide) (hts (.fieldLink RX12 49 "StreamHouse" "run" "LStreamHouse$Run;") (wm_X12_job 1 rfl)) (fun _ h9 => h9) rfl dX12_job_11 ?_
  refine va_get (D := (dC, dI)) (ci := 9) (v := .ref h8) (C := RX9) (T := TX9) (N := 20) hx hb hts wh_X12_job_X9 hown hK hP 7 rfl rfl 2 (by decide) (hts (.fieldLink RX12 66 "StreamHouse$Run" "disk" "LStreamHouse$Disk;") (wm_X12_job 2 rfl)) (fun _ h9 => h9) rfl dX12_job_14 ?_
  refine va_get (D := (dC, dI)) (ci := 3) (v := .int 0) (C := RX3) (T := TX3) (N := 10) hx hb hts wh_X12_job_X3 hown hK hP 8 rfl rfl 9 (by decide) (hts (.fieldLink RX12 70 "StreamHouse$Disk" "down" "Z") (wm_X12_job 3 rfl)) (fun _ h9 => h9) rfl dX12_job_17 ?_
  refine lv_if_eq (tgt := 31) hx hb dX12_job_20 (by decide) (fun _ => ?_) (fun h9 => absurd (by decide) h9)
  refine lv_aload_n hx hb dX12_job_31 rfl (lv_at hl 1 rfl) ?_
  refine lv_aload_n hx hb dX12_job_32 rfl (lv_at hl 1 rfl) ?_
  refine va_get (D := (dC, dI)) (ci := 12) (v := .ref h6) (C := RX12) (T := TX12) (N := 9) hx hb hts wh_X12_job_X12 hown hK hP 0 rfl rfl 3 (by decide) (hts (.fieldLink RX12 23 "StreamHouse" "parser" "LStreamHouse$Parser;") (wm_X12_job 4 rfl)) (fun _ h9 => h9) rfl dX12_job_33 ?_
  refine lv_aload_n hx hb dX12_job_36 rfl (lv_at hl 1 rfl) ?_
  refine va_get (D := (dC, dI)) (ci := 12) (v := .ref h1) (C := RX12) (T := TX12) (N := 9) hx hb hts wh_X12_job_X12 hown hK hP 0 rfl rfl 0 (by decide) (hts (.fieldLink RX12 9 "StreamHouse" "tape" "[B") (wm_X12_job 5 rfl)) (fun _ h9 => h9) rfl dX12_job_37 ?_
  refine lv_iload_n hx hb dX12_job_40 rfl (lv_at hl 0 rfl) ?_
  refine lv_aload_n hx hb dX12_job_41 rfl (lv_at hl 1 rfl) ?_
  refine va_get (D := (dC, dI)) (ci := 12) (v := .ref h5) (C := RX12) (T := TX12) (N := 9) hx hb hts wh_X12_job_X12 hown hK hP 0 rfl rfl 5 (by decide) (hts (.fieldLink RX12 34 "StreamHouse" "spare" "LStreamHouse$Job;") (wm_X12_job 6 rfl)) (fun _ h9 => h9) rfl dX12_job_42 ?_
  have hPc := hP.sub (ws' := [(h6, .inr (6, [b0, b1, b2, b3, b4, b5, b6, b7, b8])), (h1, .inl (cT, 1500, .inl f1)), (h5, .inr (4, [c0, c1, c2, c3, .ref j1, c5, c6, c7, c8, c9, c10, c11, .ref j2, .ref j3])), (j1, .inl (cB, 4, .inl g1)), (j2, .inl (cC, 4, .inl g2)), (j3, .inl (cD, 4, .inl g3))]) [2, 1, 3, 4, 5, 6] rfl
  have hDc := hD.sub (ws' := [(h6, .inr (6, [b0, b1, b2, b3, b4, b5, b6, b7, b8])), (h1, .inl (cT, 1500, .inl f1)), (h5, .inr (4, [c0, c1, c2, c3, .ref j1, c5, c6, c7, c8, c9, c10, c11, .ref j2, .ref j3])), (j1, .inl (cB, 4, .inl g1)), (j2, .inl (cC, 4, .inl g2)), (j3, .inl (cD, 4, .inl g3))]) [2, 1, 3, 4, 5, 6] (by decide) rfl
  have hKc := hK.sub (tys' := [(cT, .byte), (cB, .int), (cC, .int), (cD, .boolean)]) [0, 1, 2, 3] rfl
  have hFc := va_free (wc := [(h6, .inr (6, [b0, b1, b2, b3, b4, b5, b6, b7, b8])), (h1, .inl (cT, 1500, .inl f1)), (h5, .inr (4, [c0, c1, c2, c3, .ref j1, c5, c6, c7, c8, c9, c10, c11, .ref j2, .ref j3])), (j1, .inl (cB, 4, .inl g1)), (j2, .inl (cC, 4, .inl g2)), (j3, .inl (cD, 4, .inl g3))]) hD hS hA [2, 1, 3, 4, 5, 6] rfl
  have h_1 : 1 ≤ 1 := by decide
  have h_2 : 6 ≤ 6 := by decide
  refine va_calli (vx_runVW (As := [.ref h1, .int 0, .ref h5]) (rest := [.ref h0]) ⟨hx, hb, hml, hown, hts⟩ (r_X6_read l hl0 dC dI h6 h1 h5 j1 j2 j3 cT cB cC cD f1 g1 g2 g3 b0 b1 b2 b3 b4 b5 b6 b7 b8 c0 c1 c2 c3 c5 c6 c7 c8 c9 c10 c11 _) (vx_cwVW 3 hts wV_X12_job_X6_read_79 rfl rfl rfl (by decide +kernel) ⟨Nat.le_of_ble_eq_true rfl, Nat.le_of_ble_eq_true rfl⟩) ⟨fun a U g mk q => by obtain ⟨q0, q1, qP, qK, qD, qf0, qf1⟩ := q; exact ⟨q0, q1, qP, va_K.moved (u := U) (U := U.calling g mk a) (Vm.Alike.refl U.vm) qK, qD, xz_F.same rfl qf0, xz_Z.same (Vm.Alike.refl _) rfl qf1⟩, va_recv hKc hPc (ci := 6) (q0 := 0) rfl rfl, fun U hU hW => ⟨rfl, by rw [hU], by rw [hU]; exact hPc, va_K.moved hW.alike hKc, hDc.weaken (fun _ _ _ _ => trivial), xz_F.warm hW hF9, (hZ9.to hS hFc hW.alike hU)⟩⟩ rfl rfl hl.1 rfl (lv_room (Nat.le_of_ble_eq_true rfl)) dX12_job_45 ⟨h_1, h_2⟩) hS (fun q _ h => hFc q h) hFc (fun y4 u3 t H1 locs ht hvm hw hB hz1 hk1 hS => ?_)
  obtain ⟨hP1, hK1, hD1⟩ := hB
  rw [ht] at hP1
  have hK1 := va_K.moved hvm.symm hK1
  obtain ⟨hP, hD⟩ := va_join (wr := [(h0, .inr (12, [.ref h1, .int 0, a2, .ref h6, a4, .ref h5, a6, .ref h7, a8])), (h7, .inr (9, [e0, e1, .ref h8, e3, e4, e5, e6, e7, e8, e9, e10, e11, e12, e13, e14, e15, e16, e17, e18, e19])), (h8, .inr (3, [d0, d1, d2, d3, d4, d5, d6, d7, d8, .int 0]))]) (w1 := [(h6, .inr (6, [.ref h1, .int 0, .int 0, .int 0, b4, .int 0, .int 3, .ref h5, b8])), (h1, .inl (cT, 1500, .inl f1)), (h5, .inr (4, [c0, .int 0, .int 0, c3, .ref j1, c5, c6, .int 0, c8, c9, c10, c11, .ref j2, .ref j3])), (j1, .inl (cB, 4, .inl (upd (upd (upd (upd g1 0 (-1)) 1 (-1)) 2 (-1)) 3 (-1)))), (j2, .inl (cC, 4, .inl (upd (upd (upd (upd g2 0 0) 1 0) 2 0) 3 0))), (j3, .inl (cD, 4, .inl (upd (upd (upd (upd g3 0 (vp_nar .boolean 0)) 1 (vp_nar .boolean 0)) 2 (vp_nar .boolean 0)) 3 (vp_nar .boolean 0))))]) hP hD [2, 1, 3, 4, 5, 6] [0, 7, 8] rfl rfl (by decide) (by decide) hk1 hFc hP1 hD1
  have hK := (hK.sub (tys' := []) [] rfl).app hK1
  generalize H1 = H at hP hS ⊢
  have hP : va_P (dC, dI) vwCl [(h0, .inr (12, [.ref h1, .int 0, a2, .ref h6, a4, .ref h5, a6, .ref h7, a8])), (h7, .inr (9, [e0, e1, .ref h8, e3, e4, e5, e6, e7, e8, e9, e10, e11, e12, e13, e14, e15, e16, e17, e18, e19])), (h8, .inr (3, [d0, d1, d2, d3, d4, d5, d6, d7, d8, .int 0])), (h6, .inr (6, [.ref h1, .int 0, .int 0, .int 0, b4, .int 0, .int 3, .ref h5, b8])), (h1, .inl (cT, 1500, .inl f1)), (h5, .inr (4, [c0, .int 0, .int 0, c3, .ref j1, c5, c6, .int 0, c8, c9, c10, c11, .ref j2, .ref j3])), (j1, .inl (cB, 4, .inl (upd (upd (upd (upd g1 0 (-1)) 1 (-1)) 2 (-1)) 3 (-1)))), (j2, .inl (cC, 4, .inl (upd (upd (upd (upd g2 0 0) 1 0) 2 0) 3 0))), (j3, .inl (cD, 4, .inl (upd (upd (upd (upd g3 0 (vp_nar .boolean 0)) 1 (vp_nar .boolean 0)) 2 (vp_nar .boolean 0)) 3 (vp_nar .boolean 0))))] H := hP
  have hD : va_D A [(h0, .inr (12, [.ref h1, .int 0, a2, .ref h6, a4, .ref h5, a6, .ref h7, a8])), (h7, .inr (9, [e0, e1, .ref h8, e3, e4, e5, e6, e7, e8, e9, e10, e11, e12, e13, e14, e15, e16, e17, e18, e19])), (h8, .inr (3, [d0, d1, d2, d3, d4, d5, d6, d7, d8, .int 0])), (h6, .inr (6, [.ref h1, .int 0, .int 0, .int 0, b4, .int 0, .int 3, .ref h5, b8])), (h1, .inl (cT, 1500, .inl f1)), (h5, .inr (4, [c0, .int 0, .int 0, c3, .ref j1, c5, c6, .int 0, c8, c9, c10, c11, .ref j2, .ref j3])), (j1, .inl (cB, 4, .inl (upd (upd (upd (upd g1 0 (-1)) 1 (-1)) 2 (-1)) 3 (-1)))), (j2, .inl (cC, 4, .inl (upd (upd (upd (upd g2 0 0) 1 0) 2 0) 3 0))), (j3, .inl (cD, 4, .inl (upd (upd (upd (upd g3 0 (vp_nar .boolean 0)) 1 (vp_nar .boolean 0)) 2 (vp_nar .boolean 0)) 3 (vp_nar .boolean 0))))] := hD
  have hK : va_K (dC, dI) vwCl [(cT, .byte), (cD, .boolean), (cB, .int), (cC, .int)] s := hK
  refine W.widen (k := 1) (n := 6) (by decide) (by decide) ?_
  have hw : y4 = 3 := hw
  subst hw
  refine va_put (D := (dC, dI)) (ci := 12) (v := .int 3) (ty := .int) (C := RX12) (T := TX12) (N := 9) hx hb hts wh_X12_job_X12 tyX12 tyX12_ok nmX12 hown hK hP hD hS 0 rfl rfl 2 (by decide) (hts (.fieldLink RX12 17 "StreamHouse" "faultOfText" "I") (wm_X12_job 11 rfl)) (fun _ h9 => h9) rfl (by decide +kernel) rfl rfl (Nat.le_of_ble_eq_true rfl) dX12_job_48 (fun H locs hP hD hS => ?_)
  have hP : va_P (dC, dI) vwCl [(h0, .inr (12, [.ref h1, .int 0, .int 3, .ref h6, a4, .ref h5, a6, .ref h7, a8])), (h7, .inr (9, [e0, e1, .ref h8, e3, e4, e5, e6, e7, e8, e9, e10, e11, e12, e13, e14, e15, e16, e17, e18, e19])), (h8, .inr (3, [d0, d1, d2, d3, d4, d5, d6, d7, d8, .int 0])), (h6, .inr (6, [.ref h1, .int 0, .int 0, .int 0, b4, .int 0, .int 3, .ref h5, b8])), (h1, .inl (cT, 1500, .inl f1)), (h5, .inr (4, [c0, .int 0, .int 0, c3, .ref j1, c5, c6, .int 0, c8, c9, c10, c11, .ref j2, .ref j3])), (j1, .inl (cB, 4, .inl (upd (upd (upd (upd g1 0 (-1)) 1 (-1)) 2 (-1)) 3 (-1)))), (j2, .inl (cC, 4, .inl (upd (upd (upd (upd g2 0 0) 1 0) 2 0) 3 0))), (j3, .inl (cD, 4, .inl (upd (upd (upd (upd g3 0 (vp_nar .boolean 0)) 1 (vp_nar .boolean 0)) 2 (vp_nar .boolean 0)) 3 (vp_nar .boolean 0))))] H := hP
  have hD : va_D A [(h0, .inr (12, [.ref h1, .int 0, .int 3, .ref h6, a4, .ref h5, a6, .ref h7, a8])), (h7, .inr (9, [e0, e1, .ref h8, e3, e4, e5, e6, e7, e8, e9, e10, e11, e12, e13, e14, e15, e16, e17, e18, e19])), (h8, .inr (3, [d0, d1, d2, d3, d4, d5, d6, d7, d8, .int 0])), (h6, .inr (6, [.ref h1, .int 0, .int 0, .int 0, b4, .int 0, .int 3, .ref h5, b8])), (h1, .inl (cT, 1500, .inl f1)), (h5, .inr (4, [c0, .int 0, .int 0, c3, .ref j1, c5, c6, .int 0, c8, c9, c10, c11, .ref j2, .ref j3])), (j1, .inl (cB, 4, .inl (upd (upd (upd (upd g1 0 (-1)) 1 (-1)) 2 (-1)) 3 (-1)))), (j2, .inl (cC, 4, .inl (upd (upd (upd (upd g2 0 0) 1 0) 2 0) 3 0))), (j3, .inl (cD, 4, .inl (upd (upd (upd (upd g3 0 (vp_nar .boolean 0)) 1 (vp_nar .boolean 0)) 2 (vp_nar .boolean 0)) 3 (vp_nar .boolean 0))))] := hD
  refine lv_aload_n hx hb dX12_job_51 rfl (lv_at hl 1 rfl) ?_
  refine va_get (D := (dC, dI)) (ci := 12) (v := .int 3) (C := RX12) (T := TX12) (N := 9) hx hb hts wh_X12_job_X12 hown hK hP 0 rfl rfl 2 (by decide) (hts (.fieldLink RX12 17 "StreamHouse" "faultOfText" "I") (wm_X12_job 11 rfl)) (fun _ h9 => h9) rfl dX12_job_52 ?_
  refine lv_if_eq (tgt := 68) hx hb dX12_job_55 (by decide) (fun h9 => absurd h9 (by decide)) (fun _ => ?_)
  refine lv_iconst (v := (-1)) hx hb dX12_job_58 (by decide) ?_
  refine lv_aload_n hx hb dX12_job_59 rfl (lv_at hl 1 rfl) ?_
  refine va_get (D := (dC, dI)) (ci := 12) (v := .ref h6) (C := RX12) (T := TX12) (N := 9) hx hb hts wh_X12_job_X12 hown hK hP 0 rfl rfl 3 (by decide) (hts (.fieldLink RX12 23 "StreamHouse" "parser" "LStreamHouse$Parser;") (wm_X12_job 4 rfl)) (fun _ h9 => h9) rfl dX12_job_60 ?_
  refine va_get (D := (dC, dI)) (ci := 6) (v := .int 0) (C := RX6) (T := TX6) (N := 9) hx hb hts wh_X12_job_X6 hown hK hP 3 rfl rfl 5 (by decide) (hts (.fieldLink RX12 83 "StreamHouse$Parser" "place" "I") (wm_X12_job 12 rfl)) (fun _ h9 => h9) rfl dX12_job_63 ?_
  refine lv_isub hx hb dX12_job_66 ?_
  refine W.eq (g2 := F0 m 67 ls [.int ((-1))]) rfl ?_
  have hP9 := hP.sub (ws' := [(h0, .inr (12, [.ref h1, .int 0, .int 3, .ref h6, a4, .ref h5, a6, .ref h7, a8])), (h1, .inl (cT, 1500, .inl f1)), (h6, .inr (6, [.ref h1, .int 0, .int 0, .int 0, b4, .int 0, .int 3, .ref h5, b8])), (h5, .inr (4, [c0, .int 0, .int 0, c3, .ref j1, c5, c6, .int 0, c8, c9, c10, c11, .ref j2, .ref j3])), (j1, .inl (cB, 4, .inl (upd (upd (upd (upd g1 0 (-1)) 1 (-1)) 2 (-1)) 3 (-1)))), (j2, .inl (cC, 4, .inl (upd (upd (upd (upd g2 0 0) 1 0) 2 0) 3 0))), (j3, .inl (cD, 4, .inl (upd (upd (upd (upd g3 0 (vp_nar .boolean 0)) 1 (vp_nar .boolean 0)) 2 (vp_nar .boolean 0)) 3 (vp_nar .boolean 0)))), (h7, .inr (9, [e0, e1, .ref h8, e3, e4, e5, e6, e7, e8, e9, e10, e11, e12, e13, e14, e15, e16, e17, e18, e19])), (h8, .inr (3, [d0, d1, d2, d3, d4, d5, d6, d7, d8, .int 0]))]) [0, 4, 3, 5, 6, 7, 8, 1, 2] rfl
  have hD9 := hD.sub (ws' := [(h0, .inr (12, [.ref h1, .int 0, .int 3, .ref h6, a4, .ref h5, a6, .ref h7, a8])), (h1, .inl (cT, 1500, .inl f1)), (h6, .inr (6, [.ref h1, .int 0, .int 0, .int 0, b4, .int 0, .int 3, .ref h5, b8])), (h5, .inr (4, [c0, .int 0, .int 0, c3, .ref j1, c5, c6, .int 0, c8, c9, c10, c11, .ref j2, .ref j3])), (j1, .inl (cB, 4, .inl (upd (upd (upd (upd g1 0 (-1)) 1 (-1)) 2 (-1)) 3 (-1)))), (j2, .inl (cC, 4, .inl (upd (upd (upd (upd g2 0 0) 1 0) 2 0) 3 0))), (j3, .inl (cD, 4, .inl (upd (upd (upd (upd g3 0 (vp_nar .boolean 0)) 1 (vp_nar .boolean 0)) 2 (vp_nar .boolean 0)) 3 (vp_nar .boolean 0)))), (h7, .inr (9, [e0, e1, .ref h8, e3, e4, e5, e6, e7, e8, e9, e10, e11, e12, e13, e14, e15, e16, e17, e18, e19])), (h8, .inr (3, [d0, d1, d2, d3, d4, d5, d6, d7, d8, .int 0]))]) [0, 4, 3, 5, 6, 7, 8, 1, 2] (by decide) rfl
  have hK9 := hK.sub (tys' := [(cT, .byte), (cD, .boolean), (cB, .int), (cC, .int)]) [0, 1, 2, 3] rfl
  refine W.widen (k := 1) (n := 6) (by decide) (by decide) ?_
  exact W.iret (v := (-1)) hx hb hr (fun t ht hW => ⟨⟨(-1), (), rfl, rfl, by rw [ht]; exact hP9, va_K.moved hW.alike hK9, hD9⟩, hS.F ht⟩) hS.2.2 dX12_job_67


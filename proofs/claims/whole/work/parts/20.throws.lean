/-- the words of a throw that no list of words keeps, for the four exceptions that the class throws -/
def xz_F (U : State) : Prop := va_Nw (.declares (Bundle.init0 "java/lang/RuntimeException")) U ∧ va_Nw (.declares (Bundle.init0 "java/lang/Exception")) U ∧ va_Nw (.declares (Bundle.init0 Bundle.tN)) U ∧ va_Nw (.castable "java/lang/IllegalStateException" "java/lang/IllegalStateException") U ∧ va_Nw (.castable "java/lang/IllegalArgumentException" "java/lang/IllegalArgumentException") U ∧ va_Nw (.castable "java/lang/IndexOutOfBoundsException" "java/lang/IndexOutOfBoundsException") U ∧ va_Nw (.castable "java/lang/UnsupportedOperationException" "java/lang/UnsupportedOperationException") U
theorem xz_F.warm {s U : State} (hW : s.WarmedH U.vm) (h : xz_F s) : xz_F U := ⟨va_Nw.warmD hW h.1, va_Nw.warmD hW h.2.1, va_Nw.warmD hW h.2.2.1, va_Nw.warmC hW h.2.2.2.1, va_Nw.warmC hW h.2.2.2.2.1, va_Nw.warmC hW h.2.2.2.2.2.1, va_Nw.warmC hW h.2.2.2.2.2.2⟩
theorem xz_F.same {u U : State} (e : u.vm = U.vm) (h : xz_F u) : xz_F U := ⟨va_Nw.same rfl e h.1, va_Nw.same rfl e h.2.1, va_Nw.same rfl e h.2.2.1, va_Nw.same rfl e h.2.2.2.1, va_Nw.same rfl e h.2.2.2.2.1, va_Nw.same rfl e h.2.2.2.2.2.1, va_Nw.same rfl e h.2.2.2.2.2.2⟩
/-- Throwable's two statics, outside of A -/
def xz_Z (A : Nat → Prop) (U : State) (H : Heap) : Prop := vx_Zq Bundle.tN "UNASSIGNED_STACK" Bundle.steD A U H ∧ vx_Zq Bundle.tN "SUPPRESSED_SENTINEL" Bundle.listD A U H
theorem xz_Z.to {A B : Nat → Prop} {s U : State} {H : Heap} {locs : List Loc} (h : xz_Z A s s.heap) (hS : va_S A s.heap H locs) (hAB : ∀ q, B q → A q) (hvm : s.vm.Alike U.vm) (hU : U.heap = H) : xz_Z B U U.heap := by
  rw [hU]
  exact ⟨vx_Zq.moved hvm ((h.1.kept hS.2.1).narrow hAB), vx_Zq.moved hvm ((h.2.kept hS.2.1).narrow hAB)⟩
theorem xz_Z.same {A : Nat → Prop} {u U : State} (e : u.vm.Alike U.vm) (eh : u.heap = U.heap) (h : xz_Z A u u.heap) : xz_Z A U U.heap := by
  rw [← eh]
  exact ⟨vx_Zq.moved e h.1, vx_Zq.moved e h.2⟩
/-- what was there when a throw began is there behind it -/
theorem xz_keep {A : Nat → Prop} {D : va_G} {cl : List vw_C} {ws : va_W} {s t : State} {H : Heap} {locs : List Loc} (hS : va_S A s.heap H locs) (hP : va_P D cl ws H) (h1 : H.size ≤ t.heap.size) (h2 : ∀ q : Nat, q < H.size → t.heap[q]? = H[q]?) : va_P D cl ws t.heap ∧ va_F A s t :=
  ⟨hP.kept (fun k q hq => h2 q.1 ((hP k q hq).lt)), Nat.le_trans hS.1 h1, fun q h3 h4 => (h2 q (Nat.lt_of_lt_of_le h3 hS.1)).trans (hS.2.1 q h3 h4)⟩
abbrev ax_X12_needRun (dC : Nat → ClassId) (dI : Nat → Nat → Nat) (A : Nat → Prop) (h0 h7 : Nat) (a0 a1 a2 a3 a4 a5 a6 a8 b0 b1 b2 b3 b4 b5 b6 b7 b8 b9 b11 b12 b13 b14 b15 b16 b17 b18 b19 : Value) (E : String) (_ : Unit) (t : State) : Prop := E = "java/lang/IllegalStateException" ∧ va_P (dC, dI) vwCl [(h0, .inr (12, [a0, a1, a2, a3, a4, a5, a6, .ref h7, a8])), (h7, .inr (9, [b0, b1, b2, b3, b4, b5, b6, b7, b8, b9, .int 0, b11, b12, b13, b14, b15, b16, b17, b18, b19]))] t.heap ∧ va_K (dC, dI) vwCl [] t ∧ va_D A [(h0, .inr (12, [a0, a1, a2, a3, a4, a5, a6, .ref h7, a8])), (h7, .inr (9, [b0, b1, b2, b3, b4, b5, b6, b7, b8, b9, .int 0, b11, b12, b13, b14, b15, b16, b17, b18, b19]))]
theorem dX12_needRun_0 : decode cX12_needRun 0 = .ok (.aload_n 0, 1) := by decide +kernel
theorem dX12_needRun_1 : decode cX12_needRun 1 = .ok (.getfield 49, 3) := by decide +kernel
theorem dX12_needRun_4 : decode cX12_needRun 4 = .ok (.getfield 137, 3) := by decide +kernel
theorem dX12_needRun_7 : decode cX12_needRun 7 = .ok (.ifCond .eq 16, 3) := by decide +kernel
theorem dX12_needRun_23 : decode cX12_needRun 23 = .ok (.new 76, 3) := by decide +kernel
theorem dX12_needRun_26 : decode cX12_needRun 26 = .ok (.dup, 1) := by decide +kernel
theorem dX12_needRun_27 : decode cX12_needRun 27 = .ok (.invokespecial 78, 3) := by decide +kernel
theorem dX12_needRun_30 : decode cX12_needRun 30 = .ok (.athrow, 1) := by decide +kernel
def ww_X12_needRun : List Cond := [.fieldLink RX12 49 "StreamHouse" "run" "LStreamHouse$Run;", .fieldLink RX12 137 "StreamHouse$Run" "taskCount" "I", .classLink RX12 76 "java/lang/IllegalStateException", .initialized "java/lang/IllegalStateException"]
def wv_X12_needRun : List Cond := .code yX12_needRun cX12_needRun 1 none :: (ww_X12_needRun ++ (u_ws RX12 TX12 9 ++ (u_ws RX9 TX9 20 ++ ((vx_at0 RX12 78 "java/lang/IllegalStateException" ["java/lang/RuntimeException", "java/lang/Exception"]).filter goodWord ++ []))))
theorem wm_X12_needRun {w : Cond} (i : Nat) (h : ww_X12_needRun[i]? = some w) : w ∈ wv_X12_needRun := List.mem_cons_of_mem _ (List.mem_append_left _ (List.mem_of_getElem? h))
set_option maxRecDepth 100000 in
theorem gw_X12_needRun : wv_X12_needRun.all goodWord = true := by decide +kernel
theorem wh_X12_needRun_X12 : ∀ w ∈ u_ws RX12 TX12 9, w ∈ wv_X12_needRun := fun w h => List.mem_cons_of_mem _ (List.mem_append_right _ (List.mem_append_left _ h))
theorem wh_X12_needRun_X9 : ∀ w ∈ u_ws RX9 TX9 20, w ∈ wv_X12_needRun := fun w h => List.mem_cons_of_mem _ (List.mem_append_right _ (List.mem_append_right _ (List.mem_append_left _ h)))
theorem wx_X12_needRun_78 : ∀ w ∈ (vx_at0 RX12 78 "java/lang/IllegalStateException" ["java/lang/RuntimeException", "java/lang/Exception"]).filter goodWord, w ∈ wv_X12_needRun := fun w h => List.mem_cons_of_mem _ (List.mem_append_right _ (List.mem_append_right _ (List.mem_append_right _ (List.mem_append_left _ h))))
set_option maxHeartbeats 4000000 in
set_option maxRecDepth 100000 in
/-- needRun() where there is no run: IllegalStateException -/
theorem x_X12_needRun (l : Launch) (hl0 : l.stackTraces = false) (dC : Nat → ClassId) (dI : Nat → Nat → Nat) (h0 h7 : Nat) (a0 a1 a2 a3 a4 a5 a6 a8 b0 b1 b2 b3 b4 b5 b6 b7 b8 b9 b11 b12 b13 b14 b15 b16 b17 b18 b19 : Value) (sz : Nat) : vx_Met l yX12_needRun wv_X12_needRun ({ frames := 6, cells := 1, slots := 6, locals := 81 }) (va_Pc [.ref h0] (fun U => U.heap.size = sz ∧ va_P (dC, dI) vwCl [(h0, .inr (12, [a0, a1, a2, a3, a4, a5, a6, .ref h7, a8])), (h7, .inr (9, [b0, b1, b2, b3, b4, b5, b6, b7, b8, b9, .int 0, b11, b12, b13, b14, b15, b16, b17, b18, b19]))] U.heap ∧ va_K (dC, dI) vwCl [] U ∧ va_D (fun _ => True) [(h0, .inr (12, [a0, a1, a2, a3, a4, a5, a6, .ref h7, a8])), (h7, .inr (9, [b0, b1, b2, b3, b4, b5, b6, b7, b8, b9, .int 0, b11, b12, b13, b14, b15, b16, b17, b18, b19]))] ∧ xz_F U ∧ xz_Z (va_A [(h0, .inr (12, [a0, a1, a2, a3, a4, a5, a6, .ref h7, a8])), (h7, .inr (9, [b0, b1, b2, b3, b4, b5, b6, b7, b8, b9, .int 0, b11, b12, b13, b14, b15, b16, b17, b18, b19]))] sz) U U.heap)) (fun _ _ _ _ => False) (vx_X (fun _ : Unit => True) (ax_X12_needRun dC dI (va_A [(h0, .inr (12, [a0, a1, a2, a3, a4, a5, a6, .ref h7, a8])), (h7, .inr (9, [b0, b1, b2, b3, b4, b5, b6, b7, b8, b9, .int 0, b11, b12, b13, b14, b15, b16, b17, b18, b19]))] sz) h0 h7 a0 a1 a2 a3 a4 a5 a6 a8 b0 b1 b2 b3 b4 b5 b6 b7 b8 b9 b11 b12 b13 b14 b15 b16 b17 b18 b19) (va_A [(h0, .inr (12, [a0, a1, a2, a3, a4, a5, a6, .ref h7, a8])), (h7, .inr (9, [b0, b1, b2, b3, b4, b5, b6, b7, b8, b9, .int 0, b11, b12, b13, b14, b15, b16, b17, b18, b19]))] sz)) 1 6 (va_A [(h0, .inr (12, [a0, a1, a2, a3, a4, a5, a6, .ref h7, a8])), (h7, .inr (9, [b0, b1, b2, b3, b4, b5, b6, b7, b8, b9, .int 0, b11, b12, b13, b14, b15, b16, b17, b18, b19]))] sz) := by
  refine vx_ofW (cc := cX12_needRun) (maxL := 1) (ret := none) (by decide) rfl ?_
  intro p e s m args below meth c s₁ B hml hex hv
  obtain ⟨rfl, hsz, hP, hK, hD0, hF9, hZ9⟩ := hv
  have hx := B.exec
  have hb := B.bytes
  have hr := B.returns
  have hts := atoms_spec (ws := wv_X12_needRun) B.pre
  have hown : s.vm.findClass RX12 = some m.cls := findClass_of_methodNamed B.named
  have hlocks := B.notSynchronized
  subst hsz
  have hD := hD0.self (sz := s.heap.size)
  generalize hAe : va_A [(h0, .inr (12, [a0, a1, a2, a3, a4, a5, a6, .ref h7, a8])), (h7, .inr (9, [b0, b1, b2, b3, b4, b5, b6, b7, b8, b9, .int 0, b11, b12, b13, b14, b15, b16, b17, b18, b19]))] s.heap.size = A at hD hZ9 ⊢
  have hA : ∀ q : Nat, s.heap.size ≤ q → A q := fun q h => by rw [← hAe]; exact Or.inr h
  have hS : va_S A s.heap s.heap [] := va_S.rf
  have hP : va_P (dC, dI) vwCl [(h0, .inr (12, [a0, a1, a2, a3, a4, a5, a6, .ref h7, a8])), (h7, .inr (9, [b0, b1, b2, b3, b4, b5, b6, b7, b8, b9, .int 0, b11, b12, b13, b14, b15, b16, b17, b18, b19]))] s.heap := hP
  have hl := lv_entry ([.ref h0]) (n := 1) (Nat.le_of_ble_eq_true rfl)
  rw [lg_entry_eq]
  generalize (lg_sl ([.ref h0]) ++ List.replicate (1 - (lg_sl ([.ref h0])).length) Slot.unset).toArray = ls at hl ⊢
  have hl : lv_has ls 1 [(0, .ref h0)] := hl
  have hout : ∀ {k : Nat}, ∀ x ∈ c.exceptionTable.toList, covers x k = false := fun x h => (hex x h).elim
  refine lv_aload_n hx hb dX12_needRun_0 rfl (lv_at hl 0 rfl) ?_
  refine va_get (D := (dC, dI)) (ci := 12) (v := .ref h7) (C := RX12) (T := TX12) (N := 9) hx hb hts wh_X12_needRun_X12 hown hK hP 0 rfl rfl 7 (by decide) (hts (.fieldLink RX12 49 "StreamHouse" "run" "LStreamHouse$Run;") (wm_X12_needRun 0 rfl)) (fun _ h9 => h9) rfl dX12_needRun_1 ?_
  refine va_get (D := (dC, dI)) (ci := 9) (v := .int 0) (C := RX9) (T := TX9) (N := 20) hx hb hts wh_X12_needRun_X9 hown hK hP 1 rfl rfl 10 (by decide) (hts (.fieldLink RX12 137 "StreamHouse$Run" "taskCount" "I") (wm_X12_needRun 1 rfl)) (fun _ h9 => h9) rfl dX12_needRun_4 ?_
  refine lv_if_eq (tgt := 23) hx hb dX12_needRun_7 (by decide) (fun _ => ?_) (fun h9 => absurd (by decide) h9)
  have h_1 : 1 ≤ 1 := by decide
  have h_2 : 6 ≤ 6 := by decide
  have hat9 : ∀ w ∈ vx_at0 RX12 78 "java/lang/IllegalStateException" ["java/lang/RuntimeException", "java/lang/Exception"], w.before _ s = true := vx_hat (B := [.declares (Bundle.init0 "java/lang/RuntimeException"), .declares (Bundle.init0 "java/lang/Exception"), .declares (Bundle.init0 Bundle.tN), .castable "java/lang/IllegalStateException" "java/lang/IllegalStateException"]) (fun w hw => hts w (wx_X12_needRun_78 w hw)) (by decide +kernel) (vx_c (va_Nw.use rfl hF9.1) (vx_c (va_Nw.use rfl hF9.2.1) (vx_c (va_Nw.use rfl hF9.2.2.1) (vx_c (va_Nw.use rfl hF9.2.2.2.1) vx_n))))
  have hP9 := hP.sub (ws' := [(h0, .inr (12, [a0, a1, a2, a3, a4, a5, a6, .ref h7, a8])), (h7, .inr (9, [b0, b1, b2, b3, b4, b5, b6, b7, b8, b9, .int 0, b11, b12, b13, b14, b15, b16, b17, b18, b19]))]) [0, 1] rfl
  have hD9 := hD.sub (ws' := [(h0, .inr (12, [a0, a1, a2, a3, a4, a5, a6, .ref h7, a8])), (h7, .inr (9, [b0, b1, b2, b3, b4, b5, b6, b7, b8, b9, .int 0, b11, b12, b13, b14, b15, b16, b17, b18, b19]))]) [0, 1] (by decide) rfl
  have hK9 := hK.sub (tys' := []) [] rfl
  exact vx_throw0 (A := A) hx hb hl0 hown (by decide +kernel) (by decide +kernel) (hts (.classLink RX12 76 "java/lang/IllegalStateException") (wm_X12_needRun 2 rfl)) (hts (.initialized "java/lang/IllegalStateException") (wm_X12_needRun 3 rfl)) hat9 (by decide +kernel) hZ9.1 hZ9.2 hS (hl.1.trans hml.symm) dX12_needRun_23 dX12_needRun_26 dX12_needRun_27 dX12_needRun_30 hout (by decide) (by decide) h_1 h_2 hlocks (fun t9 ha9 hz9 hk9 => ⟨(), trivial, ⟨rfl, (xz_keep hS hP9 hz9 hk9).1, va_K.moved ha9 hK9, hD9⟩, (xz_keep hS hP9 hz9 hk9).2⟩) hS.2.2 (by decide) (by decide)

abbrev ax_X12_needOutput (dC : Nat → ClassId) (dI : Nat → Nat → Nat) (A : Nat → Prop) (h0 h4 : Nat) (k1 : Int32) (a0 a1 a2 a3 a5 a6 a7 a8 b0 b1 b3 b4 b5 b6 b7 b8 b9 b10 b11 b12 b13 : Value) (E : String) (_ : Unit) (t : State) : Prop := E = "java/lang/IndexOutOfBoundsException" ∧ va_P (dC, dI) vwCl [(h0, .inr (12, [a0, a1, a2, a3, .ref h4, a5, a6, a7, a8])), (h4, .inr (4, [b0, b1, .int 0, b3, b4, b5, b6, b7, b8, b9, b10, b11, b12, b13]))] t.heap ∧ va_K (dC, dI) vwCl [] t ∧ va_D A [(h0, .inr (12, [a0, a1, a2, a3, .ref h4, a5, a6, a7, a8])), (h4, .inr (4, [b0, b1, .int 0, b3, b4, b5, b6, b7, b8, b9, b10, b11, b12, b13]))]
theorem dX12_needOutput_0 : decode cX12_needOutput 0 = .ok (.iload_n 1, 1) := by decide +kernel
theorem dX12_needOutput_1 : decode cX12_needOutput 1 = .ok (.ifCond .lt 14, 3) := by decide +kernel
theorem dX12_needOutput_4 : decode cX12_needOutput 4 = .ok (.iload_n 1, 1) := by decide +kernel
theorem dX12_needOutput_5 : decode cX12_needOutput 5 = .ok (.aload_n 0, 1) := by decide +kernel
theorem dX12_needOutput_6 : decode cX12_needOutput 6 = .ok (.getfield 30, 3) := by decide +kernel
theorem dX12_needOutput_9 : decode cX12_needOutput 9 = .ok (.getfield 254, 3) := by decide +kernel
theorem dX12_needOutput_12 : decode cX12_needOutput 12 = .ok (.if_icmp .lt 11, 3) := by decide +kernel
theorem dX12_needOutput_15 : decode cX12_needOutput 15 = .ok (.new 92, 3) := by decide +kernel
theorem dX12_needOutput_18 : decode cX12_needOutput 18 = .ok (.dup, 1) := by decide +kernel
theorem dX12_needOutput_19 : decode cX12_needOutput 19 = .ok (.invokespecial 94, 3) := by decide +kernel
theorem dX12_needOutput_22 : decode cX12_needOutput 22 = .ok (.athrow, 1) := by decide +kernel
def ww_X12_needOutput : List Cond := [.classLink RX12 92 "java/lang/IndexOutOfBoundsException", .initialized "java/lang/IndexOutOfBoundsException", .fieldLink RX12 30 "StreamHouse" "current" "LStreamHouse$Job;", .fieldLink RX12 254 "StreamHouse$Job" "outputs" "I"]
def wv_X12_needOutput : List Cond := .code yX12_needOutput cX12_needOutput 2 none :: (ww_X12_needOutput ++ ((vx_at0 RX12 94 "java/lang/IndexOutOfBoundsException" ["java/lang/RuntimeException", "java/lang/Exception"]).filter goodWord ++ (u_ws RX12 TX12 9 ++ (u_ws RX4 TX4 14 ++ []))))
theorem wm_X12_needOutput {w : Cond} (i : Nat) (h : ww_X12_needOutput[i]? = some w) : w ∈ wv_X12_needOutput := List.mem_cons_of_mem _ (List.mem_append_left _ (List.mem_of_getElem? h))
set_option maxRecDepth 100000 in
theorem gw_X12_needOutput : wv_X12_needOutput.all goodWord = true := by decide +kernel
theorem wx_X12_needOutput_94 : ∀ w ∈ (vx_at0 RX12 94 "java/lang/IndexOutOfBoundsException" ["java/lang/RuntimeException", "java/lang/Exception"]).filter goodWord, w ∈ wv_X12_needOutput := fun w h => List.mem_cons_of_mem _ (List.mem_append_right _ (List.mem_append_left _ h))
theorem wh_X12_needOutput_X12 : ∀ w ∈ u_ws RX12 TX12 9, w ∈ wv_X12_needOutput := fun w h => List.mem_cons_of_mem _ (List.mem_append_right _ (List.mem_append_right _ (List.mem_append_left _ h)))
theorem wh_X12_needOutput_X4 : ∀ w ∈ u_ws RX4 TX4 14, w ∈ wv_X12_needOutput := fun w h => List.mem_cons_of_mem _ (List.mem_append_right _ (List.mem_append_right _ (List.mem_append_right _ (List.mem_append_left _ h))))
set_option maxHeartbeats 4000000 in
set_option maxRecDepth 100000 in
/-- needOutput(k) where there is no job: IndexOutOfBoundsException -/
theorem x_X12_needOutput (l : Launch) (hl0 : l.stackTraces = false) (dC : Nat → ClassId) (dI : Nat → Nat → Nat) (h0 h4 : Nat) (k1 : Int32) (a0 a1 a2 a3 a5 a6 a7 a8 b0 b1 b3 b4 b5 b6 b7 b8 b9 b10 b11 b12 b13 : Value) (sz : Nat) : vx_Met l yX12_needOutput wv_X12_needOutput ({ frames := 6, cells := 1, slots := 6, locals := 81 }) (va_Pc [.ref h0, .int k1] (fun U => U.heap.size = sz ∧ va_P (dC, dI) vwCl [(h0, .inr (12, [a0, a1, a2, a3, .ref h4, a5, a6, a7, a8])), (h4, .inr (4, [b0, b1, .int 0, b3, b4, b5, b6, b7, b8, b9, b10, b11, b12, b13]))] U.heap ∧ va_K (dC, dI) vwCl [] U ∧ va_D (fun _ => True) [(h0, .inr (12, [a0, a1, a2, a3, .ref h4, a5, a6, a7, a8])), (h4, .inr (4, [b0, b1, .int 0, b3, b4, b5, b6, b7, b8, b9, b10, b11, b12, b13]))] ∧ xz_F U ∧ xz_Z (va_A [(h0, .inr (12, [a0, a1, a2, a3, .ref h4, a5, a6, a7, a8])), (h4, .inr (4, [b0, b1, .int 0, b3, b4, b5, b6, b7, b8, b9, b10, b11, b12, b13]))] sz) U U.heap)) (fun _ _ _ _ => False) (vx_X (fun _ : Unit => True) (ax_X12_needOutput dC dI (va_A [(h0, .inr (12, [a0, a1, a2, a3, .ref h4, a5, a6, a7, a8])), (h4, .inr (4, [b0, b1, .int 0, b3, b4, b5, b6, b7, b8, b9, b10, b11, b12, b13]))] sz) h0 h4 k1 a0 a1 a2 a3 a5 a6 a7 a8 b0 b1 b3 b4 b5 b6 b7 b8 b9 b10 b11 b12 b13) (va_A [(h0, .inr (12, [a0, a1, a2, a3, .ref h4, a5, a6, a7, a8])), (h4, .inr (4, [b0, b1, .int 0, b3, b4, b5, b6, b7, b8, b9, b10, b11, b12, b13]))] sz)) 1 6 (va_A [(h0, .inr (12, [a0, a1, a2, a3, .ref h4, a5, a6, a7, a8])), (h4, .inr (4, [b0, b1, .int 0, b3, b4, b5, b6, b7, b8, b9, b10, b11, b12, b13]))] sz) := by
  refine vx_ofW (cc := cX12_needOutput) (maxL := 2) (ret := none) (by decide) rfl ?_
  intro p e s m args below meth c s₁ B hml hex hv
  obtain ⟨rfl, hsz, hP, hK, hD0, hF9, hZ9⟩ := hv
  have hx := B.exec
  have hb := B.bytes
  have hr := B.returns
  have hts := atoms_spec (ws := wv_X12_needOutput) B.pre
  have hown : s.vm.findClass RX12 = some m.cls := findClass_of_methodNamed B.named
  have hlocks := B.notSynchronized
  subst hsz
  have hD := hD0.self (sz := s.heap.size)
  generalize hAe : va_A [(h0, .inr (12, [a0, a1, a2, a3, .ref h4, a5, a6, a7, a8])), (h4, .inr (4, [b0, b1, .int 0, b3, b4, b5, b6, b7, b8, b9, b10, b11, b12, b13]))] s.heap.size = A at hD hZ9 ⊢
  have hA : ∀ q : Nat, s.heap.size ≤ q → A q := fun q h => by rw [← hAe]; exact Or.inr h
  have hS : va_S A s.heap s.heap [] := va_S.rf
  have hP : va_P (dC, dI) vwCl [(h0, .inr (12, [a0, a1, a2, a3, .ref h4, a5, a6, a7, a8])), (h4, .inr (4, [b0, b1, .int 0, b3, b4, b5, b6, b7, b8, b9, b10, b11, b12, b13]))] s.heap := hP
  have hl := lv_entry ([.ref h0, .int k1]) (n := 2) (Nat.le_of_ble_eq_true rfl)
  rw [lg_entry_eq]
  generalize (lg_sl ([.ref h0, .int k1]) ++ List.replicate (2 - (lg_sl ([.ref h0, .int k1])).length) Slot.unset).toArray = ls at hl ⊢
  have hl : lv_has ls 2 [(0, .ref h0), (1, .int k1)] := hl
  have hout : ∀ {k : Nat}, ∀ x ∈ c.exceptionTable.toList, covers x k = false := fun x h => (hex x h).elim
  refine lv_iload_n hx hb dX12_needOutput_0 rfl (lv_at hl 1 rfl) ?_
  refine lv_if_lt (tgt := 15) hx hb dX12_needOutput_1 (by decide) (fun hc => ?_) (fun hc => ?_)
  · have h_1 : 1 ≤ 1 := by decide
    have h_2 : 6 ≤ 6 := by decide
    have hat9 : ∀ w ∈ vx_at0 RX12 94 "java/lang/IndexOutOfBoundsException" ["java/lang/RuntimeException", "java/lang/Exception"], w.before _ s = true := vx_hat (B := [.declares (Bundle.init0 "java/lang/RuntimeException"), .declares (Bundle.init0 "java/lang/Exception"), .declares (Bundle.init0 Bundle.tN), .castable "java/lang/IndexOutOfBoundsException" "java/lang/IndexOutOfBoundsException"]) (fun w hw => hts w (wx_X12_needOutput_94 w hw)) (by decide +kernel) (vx_c (va_Nw.use rfl hF9.1) (vx_c (va_Nw.use rfl hF9.2.1) (vx_c (va_Nw.use rfl hF9.2.2.1) (vx_c (va_Nw.use rfl hF9.2.2.2.2.2.1) vx_n))))
    have hP9 := hP.sub (ws' := [(h0, .inr (12, [a0, a1, a2, a3, .ref h4, a5, a6, a7, a8])), (h4, .inr (4, [b0, b1, .int 0, b3, b4, b5, b6, b7, b8, b9, b10, b11, b12, b13]))]) [0, 1] rfl
    have hD9 := hD.sub (ws' := [(h0, .inr (12, [a0, a1, a2, a3, .ref h4, a5, a6, a7, a8])), (h4, .inr (4, [b0, b1, .int 0, b3, b4, b5, b6, b7, b8, b9, b10, b11, b12, b13]))]) [0, 1] (by decide) rfl
    have hK9 := hK.sub (tys' := []) [] rfl
    exact vx_throw0 (A := A) hx hb hl0 hown (by decide +kernel) (by decide +kernel) (hts (.classLink RX12 92 "java/lang/IndexOutOfBoundsException") (wm_X12_needOutput 0 rfl)) (hts (.initialized "java/lang/IndexOutOfBoundsException") (wm_X12_needOutput 1 rfl)) hat9 (by decide +kernel) hZ9.1 hZ9.2 hS (hl.1.trans hml.symm) dX12_needOutput_15 dX12_needOutput_18 dX12_needOutput_19 dX12_needOutput_22 hout (by decide) (by decide) h_1 h_2 hlocks (fun t9 ha9 hz9 hk9 => ⟨(), trivial, ⟨rfl, (xz_keep hS hP9 hz9 hk9).1, va_K.moved ha9 hK9, hD9⟩, (xz_keep hS hP9 hz9 hk9).2⟩) hS.2.2 (by decide) (by decide)
  · refine lv_iload_n hx hb dX12_needOutput_4 rfl (lv_at hl 1 rfl) ?_
    refine lv_aload_n hx hb dX12_needOutput_5 rfl (lv_at hl 0 rfl) ?_
    refine va_get (D := (dC, dI)) (ci := 12) (v := .ref h4) (C := RX12) (T := TX12) (N := 9) hx hb hts wh_X12_needOutput_X12 hown hK hP 0 rfl rfl 4 (by decide) (hts (.fieldLink RX12 30 "StreamHouse" "current" "LStreamHouse$Job;") (wm_X12_needOutput 2 rfl)) (fun _ h9 => h9) rfl dX12_needOutput_6 ?_
    refine va_get (D := (dC, dI)) (ci := 4) (v := .int 0) (C := RX4) (T := TX4) (N := 14) hx hb hts wh_X12_needOutput_X4 hown hK hP 1 rfl rfl 2 (by decide) (hts (.fieldLink RX12 254 "StreamHouse$Job" "outputs" "I") (wm_X12_needOutput 3 rfl)) (fun _ h9 => h9) rfl dX12_needOutput_9 ?_
    refine lv_icmp_lt (tgt := 23) hx hb dX12_needOutput_12 (by decide) (fun h9 => absurd h9 hc) (fun _ => ?_)
    have h_3 : 1 ≤ 1 := by decide
    have h_4 : 6 ≤ 6 := by decide
    have hat9 : ∀ w ∈ vx_at0 RX12 94 "java/lang/IndexOutOfBoundsException" ["java/lang/RuntimeException", "java/lang/Exception"], w.before _ s = true := vx_hat (B := [.declares (Bundle.init0 "java/lang/RuntimeException"), .declares (Bundle.init0 "java/lang/Exception"), .declares (Bundle.init0 Bundle.tN), .castable "java/lang/IndexOutOfBoundsException" "java/lang/IndexOutOfBoundsException"]) (fun w hw => hts w (wx_X12_needOutput_94 w hw)) (by decide +kernel) (vx_c (va_Nw.use rfl hF9.1) (vx_c (va_Nw.use rfl hF9.2.1) (vx_c (va_Nw.use rfl hF9.2.2.1) (vx_c (va_Nw.use rfl hF9.2.2.2.2.2.1) vx_n))))
    have hP9 := hP.sub (ws' := [(h0, .inr (12, [a0, a1, a2, a3, .ref h4, a5, a6, a7, a8])), (h4, .inr (4, [b0, b1, .int 0, b3, b4, b5, b6, b7, b8, b9, b10, b11, b12, b13]))]) [0, 1] rfl
    have hD9 := hD.sub (ws' := [(h0, .inr (12, [a0, a1, a2, a3, .ref h4, a5, a6, a7, a8])), (h4, .inr (4, [b0, b1, .int 0, b3, b4, b5, b6, b7, b8, b9, b10, b11, b12, b13]))]) [0, 1] (by decide) rfl
    have hK9 := hK.sub (tys' := []) [] rfl
    exact vx_throw0 (A := A) hx hb hl0 hown (by decide +kernel) (by decide +kernel) (hts (.classLink RX12 92 "java/lang/IndexOutOfBoundsException") (wm_X12_needOutput 0 rfl)) (hts (.initialized "java/lang/IndexOutOfBoundsException") (wm_X12_needOutput 1 rfl)) hat9 (by decide +kernel) hZ9.1 hZ9.2 hS (hl.1.trans hml.symm) dX12_needOutput_15 dX12_needOutput_18 dX12_needOutput_19 dX12_needOutput_22 hout (by decide) (by decide) h_3 h_4 hlocks (fun t9 ha9 hz9 hk9 => ⟨(), trivial, ⟨rfl, (xz_keep hS hP9 hz9 hk9).1, va_K.moved ha9 hK9, hD9⟩, (xz_keep hS hP9 hz9 hk9).2⟩) hS.2.2 (by decide) (by decide)

abbrev ax_X12_operator (dC : Nat → ClassId) (dI : Nat → Nat → Nat) (A : Nat → Prop) (h0 h4 : Nat) (k1 k2 : Int32) (a0 a1 a2 a3 a5 a6 a7 a8 b0 b2 b3 b4 b5 b6 b7 b8 b9 b10 b11 b12 b13 : Value) (E : String) (_ : Unit) (t : State) : Prop := E = "java/lang/IndexOutOfBoundsException" ∧ va_P (dC, dI) vwCl [(h0, .inr (12, [a0, a1, a2, a3, .ref h4, a5, a6, a7, a8])), (h4, .inr (4, [b0, .int 0, b2, b3, b4, b5, b6, b7, b8, b9, b10, b11, b12, b13]))] t.heap ∧ va_K (dC, dI) vwCl [] t ∧ va_D A [(h0, .inr (12, [a0, a1, a2, a3, .ref h4, a5, a6, a7, a8])), (h4, .inr (4, [b0, .int 0, b2, b3, b4, b5, b6, b7, b8, b9, b10, b11, b12, b13]))]
theorem dX12_operator_0 : decode cX12_operator 0 = .ok (.iload_n 1, 1) := by decide +kernel
theorem dX12_operator_1 : decode cX12_operator 1 = .ok (.ifCond .lt 14, 3) := by decide +kernel
theorem dX12_operator_4 : decode cX12_operator 4 = .ok (.iload_n 1, 1) := by decide +kernel
theorem dX12_operator_5 : decode cX12_operator 5 = .ok (.aload_n 0, 1) := by decide +kernel
theorem dX12_operator_6 : decode cX12_operator 6 = .ok (.getfield 30, 3) := by decide +kernel
theorem dX12_operator_9 : decode cX12_operator 9 = .ok (.getfield 89, 3) := by decide +kernel
theorem dX12_operator_12 : decode cX12_operator 12 = .ok (.if_icmp .lt 11, 3) := by decide +kernel
theorem dX12_operator_15 : decode cX12_operator 15 = .ok (.new 92, 3) := by decide +kernel
theorem dX12_operator_18 : decode cX12_operator 18 = .ok (.dup, 1) := by decide +kernel
theorem dX12_operator_19 : decode cX12_operator 19 = .ok (.invokespecial 94, 3) := by decide +kernel
theorem dX12_operator_22 : decode cX12_operator 22 = .ok (.athrow, 1) := by decide +kernel
def ww_X12_operator : List Cond := [.classLink RX12 92 "java/lang/IndexOutOfBoundsException", .initialized "java/lang/IndexOutOfBoundsException", .fieldLink RX12 30 "StreamHouse" "current" "LStreamHouse$Job;", .fieldLink RX12 89 "StreamHouse$Job" "count" "I"]
def wv_X12_operator : List Cond := .code yX12_operator cX12_operator 4 (some .long) :: (ww_X12_operator ++ ((vx_at0 RX12 94 "java/lang/IndexOutOfBoundsException" ["java/lang/RuntimeException", "java/lang/Exception"]).filter goodWord ++ (u_ws RX12 TX12 9 ++ (u_ws RX4 TX4 14 ++ []))))
theorem wm_X12_operator {w : Cond} (i : Nat) (h : ww_X12_operator[i]? = some w) : w ∈ wv_X12_operator := List.mem_cons_of_mem _ (List.mem_append_left _ (List.mem_of_getElem? h))
set_option maxRecDepth 100000 in
theorem gw_X12_operator : wv_X12_operator.all goodWord = true := by decide +kernel
theorem wx_X12_operator_94 : ∀ w ∈ (vx_at0 RX12 94 "java/lang/IndexOutOfBoundsException" ["java/lang/RuntimeException", "java/lang/Exception"]).filter goodWord, w ∈ wv_X12_operator := fun w h => List.mem_cons_of_mem _ (List.mem_append_right _ (List.mem_append_left _ h))
theorem wh_X12_operator_X12 : ∀ w ∈ u_ws RX12 TX12 9, w ∈ wv_X12_operator := fun w h => List.mem_cons_of_mem _ (List.mem_append_right _ (List.mem_append_right _ (List.mem_append_left _ h)))
theorem wh_X12_operator_X4 : ∀ w ∈ u_ws RX4 TX4 14, w ∈ wv_X12_operator := fun w h => List.mem_cons_of_mem _ (List.mem_append_right _ (List.mem_append_right _ (List.mem_append_right _ (List.mem_append_left _ h))))
set_option maxHeartbeats 4000000 in
set_option maxRecDepth 100000 in
/-- operator(k, what) where there is no job: IndexOutOfBoundsException -/
theorem x_X12_operator (l : Launch) (hl0 : l.stackTraces = false) (dC : Nat → ClassId) (dI : Nat → Nat → Nat) (h0 h4 : Nat) (k1 k2 : Int32) (a0 a1 a2 a3 a5 a6 a7 a8 b0 b2 b3 b4 b5 b6 b7 b8 b9 b10 b11 b12 b13 : Value) (sz : Nat) : vx_Met l yX12_operator wv_X12_operator ({ frames := 6, cells := 1, slots := 6, locals := 81 }) (va_Pc [.ref h0, .int k1, .int k2] (fun U => U.heap.size = sz ∧ va_P (dC, dI) vwCl [(h0, .inr (12, [a0, a1, a2, a3, .ref h4, a5, a6, a7, a8])), (h4, .inr (4, [b0, .int 0, b2, b3, b4, b5, b6, b7, b8, b9, b10, b11, b12, b13]))] U.heap ∧ va_K (dC, dI) vwCl [] U ∧ va_D (fun _ => True) [(h0, .inr (12, [a0, a1, a2, a3, .ref h4, a5, a6, a7, a8])), (h4, .inr (4, [b0, .int 0, b2, b3, b4, b5, b6, b7, b8, b9, b10, b11, b12, b13]))] ∧ xz_F U ∧ xz_Z (va_A [(h0, .inr (12, [a0, a1, a2, a3, .ref h4, a5, a6, a7, a8])), (h4, .inr (4, [b0, .int 0, b2, b3, b4, b5, b6, b7, b8, b9, b10, b11, b12, b13]))] sz) U U.heap)) (fun _ _ _ _ => False) (vx_X (fun _ : Unit => True) (ax_X12_operator dC dI (va_A [(h0, .inr (12, [a0, a1, a2, a3, .ref h4, a5, a6, a7, a8])), (h4, .inr (4, [b0, .int 0, b2, b3, b4, b5, b6, b7, b8, b9, b10, b11, b12, b13]))] sz) h0 h4 k1 k2 a0 a1 a2 a3 a5 a6 a7 a8 b0 b2 b3 b4 b5 b6 b7 b8 b9 b10 b11 b12 b13) (va_A [(h0, .inr (12, [a0, a1, a2, a3, .ref h4, a5, a6, a7, a8])), (h4, .inr (4, [b0, .int 0, b2, b3, b4, b5, b6, b7, b8, b9, b10, b11, b12, b13]))] sz)) 1 6 (va_A [(h0, .inr (12, [a0, a1, a2, a3, .ref h4, a5, a6, a7, a8])), (h4, .inr (4, [b0, .int 0, b2, b3, b4, b5, b6, b7, b8, b9, b10, b11, b12, b13]))] sz) := by
  refine vx_ofW (cc := cX12_operator) (maxL := 4) (ret := (some .long)) (by decide) rfl ?_
  intro p e s m args below meth c s₁ B hml hex hv
  obtain ⟨rfl, hsz, hP, hK, hD0, hF9, hZ9⟩ := hv
  have hx := B.exec
  have hb := B.bytes
  have hr := B.returns
  have hts := atoms_spec (ws := wv_X12_operator) B.pre
  have hown : s.vm.findClass RX12 = some m.cls := findClass_of_methodNamed B.named
  have hlocks := B.notSynchronized
  subst hsz
  have hD := hD0.self (sz := s.heap.size)
  generalize hAe : va_A [(h0, .inr (12, [a0, a1, a2, a3, .ref h4, a5, a6, a7, a8])), (h4, .inr (4, [b0, .int 0, b2, b3, b4, b5, b6, b7, b8, b9, b10, b11, b12, b13]))] s.heap.size = A at hD hZ9 ⊢
  have hA : ∀ q : Nat, s.heap.size ≤ q → A q := fun q h => by rw [← hAe]; exact Or.inr h
  have hS : va_S A s.heap s.heap [] := va_S.rf
  have hP : va_P (dC, dI) vwCl [(h0, .inr (12, [a0, a1, a2, a3, .ref h4, a5, a6, a7, a8])), (h4, .inr (4, [b0, .int 0, b2, b3, b4, b5, b6, b7, b8, b9, b10, b11, b12, b13]))] s.heap := hP
  have hl := lv_entry ([.ref h0, .int k1, .int k2]) (n := 4) (Nat.le_of_ble_eq_true rfl)
  rw [lg_entry_eq]
  generalize (lg_sl ([.ref h0, .int k1, .int k2]) ++ List.replicate (4 - (lg_sl ([.ref h0, .int k1, .int k2])).length) Slot.unset).toArray = ls at hl ⊢
  have hl : lv_has ls 4 [(0, .ref h0), (1, .int k1), (2, .int k2)] := hl
  have hout : ∀ {k : Nat}, ∀ x ∈ c.exceptionTable.toList, covers x k = false := fun x h => (hex x h).elim
  refine lv_iload_n hx hb dX12_operator_0 rfl (lv_at hl 1 rfl) ?_
  refine lv_if_lt (tgt := 15) hx hb dX12_operator_1 (by decide) (fun hc => ?_) (fun hc => ?_)
  · have h_1 : 1 ≤ 1 := by decide
    have h_2 : 6 ≤ 6 := by decide
    have hat9 : ∀ w ∈ vx_at0 RX12 94 "java/lang/IndexOutOfBoundsException" ["java/lang/RuntimeException", "java/lang/Exception"], w.before _ s = true := vx_hat (B := [.declares (Bundle.init0 "java/lang/RuntimeException"), .declares (Bundle.init0 "java/lang/Exception"), .declares (Bundle.init0 Bundle.tN), .castable "java/lang/IndexOutOfBoundsException" "java/lang/IndexOutOfBoundsException"]) (fun w hw => hts w (wx_X12_operator_94 w hw)) (by decide +kernel) (vx_c (va_Nw.use rfl hF9.1) (vx_c (va_Nw.use rfl hF9.2.1) (vx_c (va_Nw.use rfl hF9.2.2.1) (vx_c (va_Nw.use rfl hF9.2.2.2.2.2.1) vx_n))))
    have hP9 := hP.sub (ws' := [(h0, .inr (12, [a0, a1, a2, a3, .ref h4, a5, a6, a7, a8])), (h4, .inr (4, [b0, .int 0, b2, b3, b4, b5, b6, b7, b8, b9, b10, b11, b12, b13]))]) [0, 1] rfl
    have hD9 := hD.sub (ws' := [(h0, .inr (12, [a0, a1, a2, a3, .ref h4, a5, a6, a7, a8])), (h4, .inr (4, [b0, .int 0, b2, b3, b4, b5, b6, b7, b8, b9, b10, b11, b12, b13]))]) [0, 1] (by decide) rfl
    have hK9 := hK.sub (tys' := []) [] rfl
    exact vx_throw0 (A := A) hx hb hl0 hown (by decide +kernel) (by decide +kernel) (hts (.classLink RX12 92 "java/lang/IndexOutOfBoundsException") (wm_X12_operator 0 rfl)) (hts (.initialized "java/lang/IndexOutOfBoundsException") (wm_X12_operator 1 rfl)) hat9 (by decide +kernel) hZ9.1 hZ9.2 hS (hl.1.trans hml.symm) dX12_operator_15 dX12_operator_18 dX12_operator_19 dX12_operator_22 hout (by decide) (by decide) h_1 h_2 hlocks (fun t9 ha9 hz9 hk9 => ⟨(), trivial, ⟨rfl, (xz_keep hS hP9 hz9 hk9).1, va_K.moved ha9 hK9, hD9⟩, (xz_keep hS hP9 hz9 hk9).2⟩) hS.2.2 (by decide) (by decide)
  · refine lv_iload_n hx hb dX12_operator_4 rfl (lv_at hl 1 rfl) ?_
    refine lv_aload_n hx hb dX12_operator_5 rfl (lv_at hl 0 rfl) ?_
    refine va_get (D := (dC, dI)) (ci := 12) (v := .ref h4) (C := RX12) (T := TX12) (N := 9) hx hb hts wh_X12_operator_X12 hown hK hP 0 rfl rfl 4 (by decide) (hts (.fieldLink RX12 30 "StreamHouse" "current" "LStreamHouse$Job;") (wm_X12_operator 2 rfl)) (fun _ h9 => h9) rfl dX12_operator_6 ?_
    refine va_get (D := (dC, dI)) (ci := 4) (v := .int 0) (C := RX4) (T := TX4) (N := 14) hx hb hts wh_X12_operator_X4 hown hK hP 1 rfl rfl 1 (by decide) (hts (.fieldLink RX12 89 "StreamHouse$Job" "count" "I") (wm_X12_operator 3 rfl)) (fun _ h9 => h9) rfl dX12_operator_9 ?_
    refine lv_icmp_lt (tgt := 23) hx hb dX12_operator_12 (by decide) (fun h9 => absurd h9 hc) (fun _ => ?_)
    have h_3 : 1 ≤ 1 := by decide
    have h_4 : 6 ≤ 6 := by decide
    have hat9 : ∀ w ∈ vx_at0 RX12 94 "java/lang/IndexOutOfBoundsException" ["java/lang/RuntimeException", "java/lang/Exception"], w.before _ s = true := vx_hat (B := [.declares (Bundle.init0 "java/lang/RuntimeException"), .declares (Bundle.init0 "java/lang/Exception"), .declares (Bundle.init0 Bundle.tN), .castable "java/lang/IndexOutOfBoundsException" "java/lang/IndexOutOfBoundsException"]) (fun w hw => hts w (wx_X12_operator_94 w hw)) (by decide +kernel) (vx_c (va_Nw.use rfl hF9.1) (vx_c (va_Nw.use rfl hF9.2.1) (vx_c (va_Nw.use rfl hF9.2.2.1) (vx_c (va_Nw.use rfl hF9.2.2.2.2.2.1) vx_n))))
    have hP9 := hP.sub (ws' := [(h0, .inr (12, [a0, a1, a2, a3, .ref h4, a5, a6, a7, a8])), (h4, .inr (4, [b0, .int 0, b2, b3, b4, b5, b6, b7, b8, b9, b10, b11, b12, b13]))]) [0, 1] rfl
    have hD9 := hD.sub (ws' := [(h0, .inr (12, [a0, a1, a2, a3, .ref h4, a5, a6, a7, a8])), (h4, .inr (4, [b0, .int 0, b2, b3, b4, b5, b6, b7, b8, b9, b10, b11, b12, b13]))]) [0, 1] (by decide) rfl
    have hK9 := hK.sub (tys' := []) [] rfl
    exact vx_throw0 (A := A) hx hb hl0 hown (by decide +kernel) (by decide +kernel) (hts (.classLink RX12 92 "java/lang/IndexOutOfBoundsException") (wm_X12_operator 0 rfl)) (hts (.initialized "java/lang/IndexOutOfBoundsException") (wm_X12_operator 1 rfl)) hat9 (by decide +kernel) hZ9.1 hZ9.2 hS (hl.1.trans hml.symm) dX12_operator_15 dX12_operator_18 dX12_operator_19 dX12_operator_22 hout (by decide) (by decide) h_3 h_4 hlocks (fun t9 ha9 hz9 hk9 => ⟨(), trivial, ⟨rfl, (xz_keep hS hP9 hz9 hk9).1, va_K.moved ha9 hK9, hD9⟩, (xz_keep hS hP9 hz9 hk9).2⟩) hS.2.2 (by decide) (by decide)


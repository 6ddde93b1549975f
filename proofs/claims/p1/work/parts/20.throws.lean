/-- the words of a throw that no list of words keeps, for the four exceptions that the class throws -/
def xz_F (U : State) : Prop := va_Nw (.declares (Bundle.init0 "java/lang/RuntimeException")) U ∧ va_Nw (.declares (Bundle.init0 "java/lang/Exception")) U ∧ va_Nw (.declares (Bundle.init0 Bundle.tN)) U ∧ va_Nw (.castable "java/lang/IllegalStateException" "java/lang/IllegalStateException") U ∧ va_Nw (.castable "java/lang/IllegalArgumentException" "java/lang/IllegalArgumentException") U ∧ va_Nw (.castable "java/lang/IndexOutOfBoundsException" "java/lang/IndexOutOfBoundsException") U ∧ va_Nw (.castable "java/lang/UnsupportedOperationException" "java/lang/UnsupportedOperationException") U
theorem xz_F.warm {s U : State} (hW : s.WarmedH U.vm) (h : xz_F s) : xz_F U := ⟨va_Nw.warmD hW h.1, va_Nw.warmD hW h.2.1, va_Nw.warmD hW h.2.2.1, va_Nw.warmC hW h.2.2.2.1, va_Nw.warmC hW h.2.2.2.2.1, va_Nw.warmC hW h.2.2.2.2.2.1, va_Nw.warmC hW h.2.2.2.2.2.2⟩
theorem xz_F.same {u U : State} (e : u.vm = U.vm) (h : xz_F u) : xz_F U := ⟨va_Nw.same rfl e h.1, va_Nw.same rfl e h.2.1, va_Nw.same rfl e h.2.2.1, va_Nw.same rfl e h.2.2.2.1, va_Nw.same rfl e h.2.2.2.2.1, va_Nw.same rfl e h.2.2.2.2.2.1, va_Nw.same rfl e h.2.2.2.2.2.2⟩
/-- Throwable's two statics, outside of A -/
def xz_Z (A : Nat → Prop) (U : State) (H : Heap) : Prop := vx_Zq Bundle.tN "UNASSIGNED_STACK" Bundle.steD A U H ∧ vx_Zq Bundle.tN "SUPPRESSED_SENTINEL" Bundle.listD A U H
theorem xz_Z.to {A B : Nat → Prop} {s U : State} {H : Heap} {locs : List Loc} (h : xz_Z A s s.heap) (hS : va_S A s.heap H locs) (hAB : ∀ q, B q → A q) (hvm : s.vm.Alike U.vm) (hU : U.heap = H) : xz_Z B U U.heap := by
  rw [hU]
  exact ⟨vx_Zq.moved hvm ((h.1.kept hS.2.1).narrow hAB), vx_Zq.moved hvm ((h.2.kept hS.2.1).narrow hAB)⟩
theorem xz_Z.same {A : Nat → Prop} {u U : State} (e : u.vm.Alike U.vm) (eh : u.heap = U.heap) (h : xz_Z A u u.heap) : xz_Z A U U.heap := by
  rw [← eh]
  exact ⟨vx_Zq.moved e h.1, vx_Zq.moved e h.2⟩
/-- a call of a method that can only throw -/
theorem xz_callX {p : Program} {l : Launch} {e : Env} {R : Room} {s : State} {m : MethodId} {args : Array Value} {below : List Frame} {meth : Method} {c : Code} {H : Heap} {locs : List Loc} {cells slots mc ms : Nat} {Q : State → Prop} {pc : Nat} {ls : Array Slot} {rest st0 : List Value} {A0 : Nat → Prop} {H0 : Heap} {free : Addr → Prop} {Qa : State → Outcome → State → Prop}
    {SX : Type} {px : SX → Prop} {BX : String → SX → State → Prop} {AX : Nat → Prop} (hr : vx_Run p l e R s m args below meth c H locs cells slots mc ms (F0 m pc ls st0) rest Qa (vx_X px BX AX) free) (hno : ∀ (st : State) (v : Option Value) (t : State), Qa st (.returned v) t → False) (hS : va_S A0 H0 H locs) (hf : ∀ q, free q → A0 q) (hAX : ∀ q, q < H.size → AX q → A0 q)
    (kx : ∀ (E : String) (ce : Cell) (q9 : Addr) (u : SX) (t : State) (H1 : Heap) (locs1 : List Loc), t.heap = H1 → s.vm.Alike t.vm → px u → BX E u t → H.size ≤ H1.size → (∀ q : Nat, q < H.size → ¬ AX q → H1[q]? = H[q]?) → va_S A0 H0 H1 locs1 → H1[q9]? = some ce → ce.vm = .none → s.vm.findClass E = some ce.cls → vx_W p l e R s m args below meth c H1 locs1 (cells + mc) (slots + ms) Q (F0 m pc ls rest) q9) :
    W p l e R s m args below meth c H locs cells slots Q (F0 m pc ls st0) := by
  intro T hT X
  rcases hr T hT X with ⟨v, st₀, t, T', L, h0, X', hL, e1, e2, hq, st⟩ | ⟨q, st₀, t, T', L, E, ce, h0, X', hL, e1, e2, ⟨u, hp, hb, hF⟩, hce, hcv, hcl, st⟩
  · exact (hno _ _ _ hq).elim
  · obtain ⟨k1, k2, k3⟩ := vx_keep h0 e1 hS hAX hf hL hF
    obtain ⟨t2, a1, b1⟩ := kx E ce q u t T'.heap (locs ++ L) e1.symm (by rw [← e2]; exact X'.warmed.alike) hp hb k1 k2 k3 (by rw [e1]; exact hce) hcv hcl T' rfl X'
    exact ⟨t2, st.trans a1, b1⟩
/-- what was there when a throw began is there behind it -/
theorem xz_keep {A : Nat → Prop} {D : va_G} {cl : List vw_C} {ws : va_W} {s t : State} {H : Heap} {locs : List Loc} (hS : va_S A s.heap H locs) (hP : va_P D cl ws H) (h1 : H.size ≤ t.heap.size) (h2 : ∀ q : Nat, q < H.size → t.heap[q]? = H[q]?) : va_P D cl ws t.heap ∧ va_F A s t :=
  ⟨hP.kept (fun k q hq => h2 q.1 ((hP k q hq).lt)), Nat.le_trans hS.1 h1, fun q h3 h4 => (h2 q (Nat.lt_of_lt_of_le h3 hS.1)).trans (hS.2.1 q h3 h4)⟩
abbrev ax_X12_needRun (dC : Nat → ClassId) (dI : Nat → Nat → Nat) (A : Nat → Prop) (h0 h7 : Nat) (a0 a1 a2 a3 a4 a5 a6 a8 b0 b1 b2 b3 b4 b5 b6 b7 b8 b9 b11 b12 b13 b14 b15 b16 b17 b18 b19 : Value) (E : String) (_ : Unit) (t : State) : Prop := E = "java/lang/IllegalStateException" ∧ va_P (dC, dI) vwCl [(h0, .inr (12, [a0, a1, a2, a3, a4, a5, a6, .ref h7, a8])), (h7, .inr (9, [b0, b1, b2, b3, b4, b5, b6, b7, b8, b9, .int 0, b11, b12, b13, b14, b15, b16, b17, b18, b19]))] t.heap ∧ va_K (dC, dI) vwCl [] t ∧ va_D A [(h0, .inr (12, [a0, a1, a2, a3, a4, a5, a6, .ref h7, a8])), (h7, .inr (9, [b0, b1, b2, b3, b4, b5, b6, b7, b8, b9, .int 0, b11, b12, b13, b14, b15, b16, b17, b18, b19]))]
theorem dX12_needRun_0 : decode cX12_needRun 0 = .ok (.aload_n 0, 1) := by decide +kernel
theorem dX12_needRun_1 : decode cX12_needRun 1 = .ok (.getfield 49, 3) := by decide +kernel
theorem dX12_needRun_4 : decode cX12_needRun 4 = .ok (.getfield 137, 3) := by decide +kernel
theorem dX12_needRun_7 : decode cX12_needRun 7 = .ok (.ifCond .eq 16, 3) := by decide +kernel
theorem dX12_needRun_23 : decode cX12_needRun 23 = .ok (.new 76, 3) := by decide +kernel
theorem dX12_needRun_26 : decode cX12_needRun 26 = .ok (.dup, 1) := by decide +kernel
theorem dX12_needRun_27 : decode cX12_needRun 27 = .ok (.invokespecial 78, 3) := by decide +kernel
theorem dX12_needRun_30 : decode cX12_needRun 30 = .ok (.athrow, 1) := by decide +kernel
def ww_X12_needRun : List Cond := [.fieldLink RX12 49 "StreamHouse" "run" "LStreamHouse$Run;", .fieldLink RX12 137 "StreamHouse$Run" "taskCount" "I", .classLink RX12 76 "java/lang/IllegalStateException", .initialized "java/lang/IllegalStateException"]
def wv_X12_needRun : List Cond := .code yX12_needRun cX12_needRun 1 none :: (ww_X12_needRun ++ (u_ws RX12 TX12 9 ++ (u_ws RX9 TX9 20 ++ ((vx_at0 RX12 78 "java/lang/IllegalStateException" ["java/lang/RuntimeException", "java/lang/Exception"]).filter goodWord ++ []))))
theorem wm_X12_needRun {w : Cond} (i : Nat) (h : ww_X12_needRun[i]? = some w) : w ∈ wv_X12_needRun := List.mem_cons_of_mem _ (List.mem_append_left _ (List.mem_of_getElem? h))
set_option maxRecDepth 100000 in
theorem gw_X12_needRun : wv_X12_needRun.all goodWord = true := by decide +kernel
theorem wh_X12_needRun_X12 : ∀ w ∈ u_ws RX12 TX12 9, w ∈ wv_X12_needRun := fun w h => List.mem_cons_of_mem _ (List.mem_append_right _ (List.mem_append_left _ h))
theorem wh_X12_needRun_X9 : ∀ w ∈ u_ws RX9 TX9 20, w ∈ wv_X12_needRun := fun w h => List.mem_cons_of_mem _ (List.mem_append_right _ (List.mem_append_right _ (List.mem_append_left _ h)))
theorem wx_X12_needRun_78 : ∀ w ∈ (vx_at0 RX12 78 "java/lang/IllegalStateException" ["java/lang/RuntimeException", "java/lang/Exception"]).filter goodWord, w ∈ wv_X12_needRun := fun w h => List.mem_cons_of_mem _ (List.mem_append_right _ (List.mem_append_right _ (List.mem_append_right _ (List.mem_append_left _ h))))
set_option maxHeartbeats 4000000 in
set_option maxRecDepth 100000 in
/-- needRun() where there is no run: IllegalStateException -/
theorem x_X12_needRun (l : Launch) (hl0 : l.stackTraces = false) (dC : Nat → ClassId) (dI : Nat → Nat → Nat) (h0 h7 : Nat) (a0 a1 a2 a3 a4 a5 a6 a8 b0 b1 b2 b3 b4 b5 b6 b7 b8 b9 b11 b12 b13 b14 b15 b16 b17 b18 b19 : Value) (sz : Nat) : vx_Met l yX12_needRun wv_X12_needRun ({ frames := 6, cells := 1, slots := 6, locals := 81 }) (va_Pc [.ref h0] (fun U => U.heap.size = sz ∧ va_P (dC, dI) vwCl [(h0, .inr (12, [a0, a1, a2, a3, a4, a5, a6, .ref h7, a8])), (h7, .inr (9, [b0, b1, b2, b3, b4, b5, b6, b7, b8, b9, .int 0, b11, b12, b13, b14, b15, b16, b17, b18, b19]))] U.heap ∧ va_K (dC, dI) vwCl [] U ∧ va_D (fun _ => True) [(h0, .inr (12, [a0, a1, a2, a3, a4, a5, a6, .ref h7, a8])), (h7, .inr (9, [b0, b1, b2, b3, b4, b5, b6, b7, b8, b9, .int 0, b11, b12, b13, b14, b15, b16, b17, b18, b19]))] ∧ xz_F U ∧ xz_Z (va_A [(h0, .inr (12, [a0, a1, a2, a3, a4, a5, a6, .ref h7, a8])), (h7, .inr (9, [b0, b1, b2, b3, b4, b5, b6, b7, b8, b9, .int 0, b11, b12, b13, b14, b15, b16, b17, b18, b19]))] sz) U U.heap)) (va_Qv (fun _ : Unit => False) (fun _ _ => True) (va_A [(h0, .inr (12, [a0, a1, a2, a3, a4, a5, a6, .ref h7, a8])), (h7, .inr (9, [b0, b1, b2, b3, b4, b5, b6, b7, b8, b9, .int 0, b11, b12, b13, b14, b15, b16, b17, b18, b19]))] sz)) (vx_X (fun _ : Unit => True) (ax_X12_needRun dC dI (va_A [(h0, .inr (12, [a0, a1, a2, a3, a4, a5, a6, .ref h7, a8])), (h7, .inr (9, [b0, b1, b2, b3, b4, b5, b6, b7, b8, b9, .int 0, b11, b12, b13, b14, b15, b16, b17, b18, b19]))] sz) h0 h7 a0 a1 a2 a3 a4 a5 a6 a8 b0 b1 b2 b3 b4 b5 b6 b7 b8 b9 b11 b12 b13 b14 b15 b16 b17 b18 b19) (va_A [(h0, .inr (12, [a0, a1, a2, a3, a4, a5, a6, .ref h7, a8])), (h7, .inr (9, [b0, b1, b2, b3, b4, b5, b6, b7, b8, b9, .int 0, b11, b12, b13, b14, b15, b16, b17, b18, b19]))] sz)) 1 6 (va_A [(h0, .inr (12, [a0, a1, a2, a3, a4, a5, a6, .ref h7, a8])), (h7, .inr (9, [b0, b1, b2, b3, b4, b5, b6, b7, b8, b9, .int 0, b11, b12, b13, b14, b15, b16, b17, b18, b19]))] sz) := by
  refine vx_ofW (cc := cX12_needRun) (maxL := 1) (ret := none) (by decide) rfl ?_
  intro p e s m args below meth c s₁ B hml hex hv
  obtain ⟨rfl, hsz, hP, hK, hD0, hF9, hZ9⟩ := hv
  have hx := B.exec
  have hb := B.bytes
  have hr := B.returns
  have hts := atoms_spec (ws := wv_X12_needRun) B.pre
  have hown : s.vm.findClass RX12 = some m.cls := findClass_of_methodNamed B.named
  have hlocks := B.notSynchronized
  subst hsz
  have hD := hD0.self (sz := s.heap.size)
  generalize hAe : va_A [(h0, .inr (12, [a0, a1, a2, a3, a4, a5, a6, .ref h7, a8])), (h7, .inr (9, [b0, b1, b2, b3, b4, b5, b6, b7, b8, b9, .int 0, b11, b12, b13, b14, b15, b16, b17, b18, b19]))] s.heap.size = A at hD hZ9 ⊢
  have hA : ∀ q : Nat, s.heap.size ≤ q → A q := fun q h => by rw [← hAe]; exact Or.inr h
  have hS : va_S A s.heap s.heap [] := va_S.rf
  have hP : va_P (dC, dI) vwCl [(h0, .inr (12, [a0, a1, a2, a3, a4, a5, a6, .ref h7, a8])), (h7, .inr (9, [b0, b1, b2, b3, b4, b5, b6, b7, b8, b9, .int 0, b11, b12, b13, b14, b15, b16, b17, b18, b19]))] s.heap := hP
  have hl := lv_entry ([.ref h0]) (n := 1) (Nat.le_of_ble_eq_true rfl)
  rw [lg_entry_eq]
  generalize (lg_sl ([.ref h0]) ++ List.replicate (1 - (lg_sl ([.ref h0])).length) Slot.unset).toArray = ls at hl ⊢
  have hl : lv_has ls 1 [(0, .ref h0)] := hl
  have hout : ∀ {k : Nat}, ∀ x ∈ c.exceptionTable.toList, covers x k = false := fun x h => (hex x h).elim
  refine lv_aload_n hx hb dX12_needRun_0 rfl (lv_at hl 0 rfl) ?_
  refine va_get (D := (dC, dI)) (ci := 12) (v := .ref h7) (C := RX12) (T := TX12) (N := 9) hx hb hts wh_X12_needRun_X12 hown hK hP 0 rfl rfl 7 (by decide) (hts (.fieldLink RX12 49 "StreamHouse" "run" "LStreamHouse$Run;") (wm_X12_needRun 0 rfl)) (fun _ h9 => h9) rfl dX12_needRun_1 ?_
  refine va_get (D := (dC, dI)) (ci := 9) (v := .int 0) (C := RX9) (T := TX9) (N := 20) hx hb hts wh_X12_needRun_X9 hown hK hP 1 rfl rfl 10 (by decide) (hts (.fieldLink RX12 137 "StreamHouse$Run" "taskCount" "I") (wm_X12_needRun 1 rfl)) (fun _ h9 => h9) rfl dX12_needRun_4 ?_
  refine lv_if_eq (tgt := 23) hx hb dX12_needRun_7 (by decide) (fun _ => ?_) (fun h9 => absurd (by decide) h9)
  have h_1 : 1 ≤ 1 := by decide
  have h_2 : 6 ≤ 6 := by decide
  have hat9 : ∀ w ∈ vx_at0 RX12 78 "java/lang/IllegalStateException" ["java/lang/RuntimeException", "java/lang/Exception"], w.before _ s = true := vx_hat (B := [.declares (Bundle.init0 "java/lang/RuntimeException"), .declares (Bundle.init0 "java/lang/Exception"), .declares (Bundle.init0 Bundle.tN), .castable "java/lang/IllegalStateException" "java/lang/IllegalStateException"]) (fun w hw => hts w (wx_X12_needRun_78 w hw)) (by decide +kernel) (vx_c (va_Nw.use rfl hF9.1) (vx_c (va_Nw.use rfl hF9.2.1) (vx_c (va_Nw.use rfl hF9.2.2.1) (vx_c (va_Nw.use rfl hF9.2.2.2.1) vx_n))))
  have hP9 := hP.sub (ws' := [(h0, .inr (12, [a0, a1, a2, a3, a4, a5, a6, .ref h7, a8])), (h7, .inr (9, [b0, b1, b2, b3, b4, b5, b6, b7, b8, b9, .int 0, b11, b12, b13, b14, b15, b16, b17, b18, b19]))]) [0, 1] rfl
  have hD9 := hD.sub (ws' := [(h0, .inr (12, [a0, a1, a2, a3, a4, a5, a6, .ref h7, a8])), (h7, .inr (9, [b0, b1, b2, b3, b4, b5, b6, b7, b8, b9, .int 0, b11, b12, b13, b14, b15, b16, b17, b18, b19]))]) [0, 1] (by decide) rfl
  have hK9 := hK.sub (tys' := []) [] rfl
  exact vx_throw0 (A := A) hx hb hl0 hown (by decide +kernel) (by decide +kernel) (hts (.classLink RX12 76 "java/lang/IllegalStateException") (wm_X12_needRun 2 rfl)) (hts (.initialized "java/lang/IllegalStateException") (wm_X12_needRun 3 rfl)) hat9 (by decide +kernel) hZ9.1 hZ9.2 hS (hl.1.trans hml.symm) dX12_needRun_23 dX12_needRun_26 dX12_needRun_27 dX12_needRun_30 hout (by decide) (by decide) h_1 h_2 hlocks (fun t9 ha9 hz9 hk9 => ⟨(), trivial, ⟨rfl, (xz_keep hS hP9 hz9 hk9).1, va_K.moved ha9 hK9, hD9⟩, (xz_keep hS hP9 hz9 hk9).2⟩) hS.2.2 (by decide) (by decide)

abbrev ax_X12_needOutput (dC : Nat → ClassId) (dI : Nat → Nat → Nat) (A : Nat → Prop) (h0 h4 : Nat) (k1 : Int32) (a0 a1 a2 a3 a5 a6 a7 a8 b0 b1 b3 b4 b5 b6 b7 b8 b9 b10 b11 b12 b13 : Value) (E : String) (_ : Unit) (t : State) : Prop := E = "java/lang/IndexOutOfBoundsException" ∧ va_P (dC, dI) vwCl [(h0, .inr (12, [a0, a1, a2, a3, .ref h4, a5, a6, a7, a8])), (h4, .inr (4, [b0, b1, .int 0, b3, b4, b5, b6, b7, b8, b9, b10, b11, b12, b13]))] t.heap ∧ va_K (dC, dI) vwCl [] t ∧ va_D A [(h0, .inr (12, [a0, a1, a2, a3, .ref h4, a5, a6, a7, a8])), (h4, .inr (4, [b0, b1, .int 0, b3, b4, b5, b6, b7, b8, b9, b10, b11, b12, b13]))]
theorem dX12_needOutput_0 : decode cX12_needOutput 0 = .ok (.iload_n 1, 1) := by decide +kernel
theorem dX12_needOutput_1 : decode cX12_needOutput 1 = .ok (.ifCond .lt 14, 3) := by decide +kernel
theorem dX12_needOutput_4 : decode cX12_needOutput 4 = .ok (.iload_n 1, 1) := by decide +kernel
theorem dX12_needOutput_5 : decode cX12_needOutput 5 = .ok (.aload_n 0, 1) := by decide +kernel
theorem dX12_needOutput_6 : decode cX12_needOutput 6 = .ok (.getfield 30, 3) := by decide +kernel
theorem dX12_needOutput_9 : decode cX12_needOutput 9 = .ok (.getfield 254, 3) := by decide +kernel
theorem dX12_needOutput_12 : decode cX12_needOutput 12 = .ok (.if_icmp .lt 11, 3) := by decide +kernel
theorem dX12_needOutput_15 : decode cX12_needOutput 15 = .ok (.new 92, 3) := by decide +kernel
theorem dX12_needOutput_18 : decode cX12_needOutput 18 = .ok (.dup, 1) := by decide +kernel
theorem dX12_needOutput_19 : decode cX12_needOutput 19 = .ok (.invokespecial 94, 3) := by decide +kernel
theorem dX12_needOutput_22 : decode cX12_needOutput 22 = .ok (.athrow, 1) := by decide +kernel
def ww_X12_needOutput : List Cond := [.classLink RX12 92 "java/lang/IndexOutOfBoundsException", .initialized "java/lang/IndexOutOfBoundsException", .fieldLink RX12 30 "StreamHouse" "current" "LStreamHouse$Job;", .fieldLink RX12 254 "StreamHouse$Job" "outputs" "I"]
def wv_X12_needOutput : List Cond := .code yX12_needOutput cX12_needOutput 2 none :: (ww_X12_needOutput ++ ((vx_at0 RX12 94 "java/lang/IndexOutOfBoundsException" ["java/lang/RuntimeException", "java/lang/Exception"]).filter goodWord ++ (u_ws RX12 TX12 9 ++ (u_ws RX4 TX4 14 ++ []))))
theorem wm_X12_needOutput {w : Cond} (i : Nat) (h : ww_X12_needOutput[i]? = some w) : w ∈ wv_X12_needOutput := List.mem_cons_of_mem _ (List.mem_append_left _ (List.mem_of_getElem? h))
set_option maxRecDepth 100000 in
theorem gw_X12_needOutput : wv_X12_needOutput.all goodWord = true := by decide +kernel
theorem wx_X12_needOutput_94 : ∀ w ∈ (vx_at0 RX12 94 "java/lang/IndexOutOfBoundsException" ["java/lang/RuntimeException", "java/lang/Exception"]).filter goodWord, w ∈ wv_X12_needOutput := fun w h => List.mem_cons_of_mem _ (List.mem_append_right _ (List.mem_append_left _ h))
theorem wh_X12_needOutput_X12 : ∀ w ∈ u_ws RX12 TX12 9, w ∈ wv_X12_needOutput := fun w h => List.mem_cons_of_mem _ (List.mem_append_right _ (List.mem_append_right _ (List.mem_append_left _ h)))
theorem wh_X12_needOutput_X4 : ∀ w ∈ u_ws RX4 TX4 14, w ∈ wv_X12_needOutput := fun w h => List.mem_cons_of_mem _ (List.mem_append_right _ (List.mem_append_right _ (List.mem_append_right _ (List.mem_append_left _ h))))
set_option maxHeartbeats 4000000 in
set_option maxRecDepth 100000 in
/-- needOutput(k) where there is no job: IndexOutOfBoundsException -/
theorem x_X12_needOutput (l : Launch) (hl0 : l.stackTraces = false) (dC : Nat → ClassId) (dI : Nat → Nat → Nat) (h0 h4 : Nat) (k1 : Int32) (a0 a1 a2 a3 a5 a6 a7 a8 b0 b1 b3 b4 b5 b6 b7 b8 b9 b10 b11 b12 b13 : Value) (sz : Nat) : vx_Met l yX12_needOutput wv_X12_needOutput ({ frames := 6, cells := 1, slots := 6, locals := 81 }) (va_Pc [.ref h0, .int k1] (fun U => U.heap.size = sz ∧ va_P (dC, dI) vwCl [(h0, .inr (12, [a0, a1, a2, a3, .ref h4, a5, a6, a7, a8])), (h4, .inr (4, [b0, b1, .int 0, b3, b4, b5, b6, b7, b8, b9, b10, b11, b12, b13]))] U.heap ∧ va_K (dC, dI) vwCl [] U ∧ va_D (fun _ => True) [(h0, .inr (12, [a0, a1, a2, a3, .ref h4, a5, a6, a7, a8])), (h4, .inr (4, [b0, b1, .int 0, b3, b4, b5, b6, b7, b8, b9, b10, b11, b12, b13]))] ∧ xz_F U ∧ xz_Z (va_A [(h0, .inr (12, [a0, a1, a2, a3, .ref h4, a5, a6, a7, a8])), (h4, .inr (4, [b0, b1, .int 0, b3, b4, b5, b6, b7, b8, b9, b10, b11, b12, b13]))] sz) U U.heap)) (va_Qv (fun _ : Unit => False) (fun _ _ => True) (va_A [(h0, .inr (12, [a0, a1, a2, a3, .ref h4, a5, a6, a7, a8])), (h4, .inr (4, [b0, b1, .int 0, b3, b4, b5, b6, b7, b8, b9, b10, b11, b12, b13]))] sz)) (vx_X (fun _ : Unit => True) (ax_X12_needOutput dC dI (va_A [(h0, .inr (12, [a0, a1, a2, a3, .ref h4, a5, a6, a7, a8])), (h4, .inr (4, [b0, b1, .int 0, b3, b4, b5, b6, b7, b8, b9, b10, b11, b12, b13]))] sz) h0 h4 k1 a0 a1 a2 a3 a5 a6 a7 a8 b0 b1 b3 b4 b5 b6 b7 b8 b9 b10 b11 b12 b13) (va_A [(h0, .inr (12, [a0, a1, a2, a3, .ref h4, a5, a6, a7, a8])), (h4, .inr (4, [b0, b1, .int 0, b3, b4, b5, b6, b7, b8, b9, b10, b11, b12, b13]))] sz)) 1 6 (va_A [(h0, .inr (12, [a0, a1, a2, a3, .ref h4, a5, a6, a7, a8])), (h4, .inr (4, [b0, b1, .int 0, b3, b4, b5, b6, b7, b8, b9, b10, b11, b12, b13]))] sz) := by
  refine vx_ofW (cc := cX12_needOutput) (maxL := 2) (ret := none) (by decide) rfl ?_
  intro p e s m args below meth c s₁ B hml hex hv
  obtain ⟨rfl, hsz, hP, hK, hD0, hF9, hZ9⟩ := hv
  have hx := B.exec
  have hb := B.bytes
  have hr := B.returns
  have hts := atoms_spec (ws := wv_X12_needOutput) B.pre
  have hown : s.vm.findClass RX12 = some m.cls := findClass_of_methodNamed B.named
  have hlocks := B.notSynchronized
  subst hsz
  have hD := hD0.self (sz := s.heap.size)
  generalize hAe : va_A [(h0, .inr (12, [a0, a1, a2, a3, .ref h4, a5, a6, a7, a8])), (h4, .inr (4, [b0, b1, .int 0, b3, b4, b5, b6, b7, b8, b9, b10, b11, b12, b13]))] s.heap.size = A at hD hZ9 ⊢
  have hA : ∀ q : Nat, s.heap.size ≤ q → A q := fun q h => by rw [← hAe]; exact Or.inr h
  have hS : va_S A s.heap s.heap [] := va_S.rf
  have hP : va_P (dC, dI) vwCl [(h0, .inr (12, [a0, a1, a2, a3, .ref h4, a5, a6, a7, a8])), (h4, .inr (4, [b0, b1, .int 0, b3, b4, b5, b6, b7, b8, b9, b10, b11, b12, b13]))] s.heap := hP
  have hl := lv_entry ([.ref h0, .int k1]) (n := 2) (Nat.le_of_ble_eq_true rfl)
  rw [lg_entry_eq]
  generalize (lg_sl ([.ref h0, .int k1]) ++ List.replicate (2 - (lg_sl ([.ref h0, .int k1])).length) Slot.unset).toArray = ls at hl ⊢
  have hl : lv_has ls 2 [(0, .ref h0), (1, .int k1)] := hl
  have hout : ∀ {k : Nat}, ∀ x ∈ c.exceptionTable.toList, covers x k = false := fun x h => (hex x h).elim
  refine lv_iload_n hx hb dX12_needOutput_0 rfl (lv_at hl 1 rfl) ?_
  refine lv_if_lt (tgt := 15) hx hb dX12_needOutput_1 (by decide) (fun hc => ?_) (fun hc => ?_)
  · have h_1 : 1 ≤ 1 := by decide
    have h_2 : 6 ≤ 6 := by decide
    have hat9 : ∀ w ∈ vx_at0 RX12 94 "java/lang/IndexOutOfBoundsException" ["java/lang/RuntimeException", "java/lang/Exception"], w.before _ s = true := vx_hat (B := [.declares (Bundle.init0 "java/lang/RuntimeException"), .declares (Bundle.init0 "java/lang/Exception"), .declares (Bundle.init0 Bundle.tN), .castable "java/lang/IndexOutOfBoundsException" "java/lang/IndexOutOfBoundsException"]) (fun w hw => hts w (wx_X12_needOutput_94 w hw)) (by decide +kernel) (vx_c (va_Nw.use rfl hF9.1) (vx_c (va_Nw.use rfl hF9.2.1) (vx_c (va_Nw.use rfl hF9.2.2.1) (vx_c (va_Nw.use rfl hF9.2.2.2.2.2.1) vx_n))))
    have hP9 := hP.sub (ws' := [(h0, .inr (12, [a0, a1, a2, a3, .ref h4, a5, a6, a7, a8])), (h4, .inr (4, [b0, b1, .int 0, b3, b4, b5, b6, b7, b8, b9, b10, b11, b12, b13]))]) [0, 1] rfl
    have hD9 := hD.sub (ws' := [(h0, .inr (12, [a0, a1, a2, a3, .ref h4, a5, a6, a7, a8])), (h4, .inr (4, [b0, b1, .int 0, b3, b4, b5, b6, b7, b8, b9, b10, b11, b12, b13]))]) [0, 1] (by decide) rfl
    have hK9 := hK.sub (tys' := []) [] rfl
    exact vx_throw0 (A := A) hx hb hl0 hown (by decide +kernel) (by decide +kernel) (hts (.classLink RX12 92 "java/lang/IndexOutOfBoundsException") (wm_X12_needOutput 0 rfl)) (hts (.initialized "java/lang/IndexOutOfBoundsException") (wm_X12_needOutput 1 rfl)) hat9 (by decide +kernel) hZ9.1 hZ9.2 hS (hl.1.trans hml.symm) dX12_needOutput_15 dX12_needOutput_18 dX12_needOutput_19 dX12_needOutput_22 hout (by decide) (by decide) h_1 h_2 hlocks (fun t9 ha9 hz9 hk9 => ⟨(), trivial, ⟨rfl, (xz_keep hS hP9 hz9 hk9).1, va_K.moved ha9 hK9, hD9⟩, (xz_keep hS hP9 hz9 hk9).2⟩) hS.2.2 (by decide) (by decide)
  · refine lv_iload_n hx hb dX12_needOutput_4 rfl (lv_at hl 1 rfl) ?_
    refine lv_aload_n hx hb dX12_needOutput_5 rfl (lv_at hl 0 rfl) ?_
    refine va_get (D := (dC, dI)) (ci := 12) (v := .ref h4) (C := RX12) (T := TX12) (N := 9) hx hb hts wh_X12_needOutput_X12 hown hK hP 0 rfl rfl 4 (by decide) (hts (.fieldLink RX12 30 "StreamHouse" "current" "LStreamHouse$Job;") (wm_X12_needOutput 2 rfl)) (fun _ h9 => h9) rfl dX12_needOutput_6 ?_
    refine va_get (D := (dC, dI)) (ci := 4) (v := .int 0) (C := RX4) (T := TX4) (N := 14) hx hb hts wh_X12_needOutput_X4 hown hK hP 1 rfl rfl 2 (by decide) (hts (.fieldLink RX12 254 "StreamHouse$Job" "outputs" "I") (wm_X12_needOutput 3 rfl)) (fun _ h9 => h9) rfl dX12_needOutput_9 ?_
    refine lv_icmp_lt (tgt := 23) hx hb dX12_needOutput_12 (by decide) (fun h9 => absurd h9 hc) (fun _ => ?_)
    have h_3 : 1 ≤ 1 := by decide
    have h_4 : 6 ≤ 6 := by decide
    have hat9 : ∀ w ∈ vx_at0 RX12 94 "java/lang/IndexOutOfBoundsException" ["java/lang/RuntimeException", "java/lang/Exception"], w.before _ s = true := vx_hat (B := [.declares (Bundle.init0 "java/lang/RuntimeException"), .declares (Bundle.init0 "java/lang/Exception"), .declares (Bundle.init0 Bundle.tN), .castable "java/lang/IndexOutOfBoundsException" "java/lang/IndexOutOfBoundsException"]) (fun w hw => hts w (wx_X12_needOutput_94 w hw)) (by decide +kernel) (vx_c (va_Nw.use rfl hF9.1) (vx_c (va_Nw.use rfl hF9.2.1) (vx_c (va_Nw.use rfl hF9.2.2.1) (vx_c (va_Nw.use rfl hF9.2.2.2.2.2.1) vx_n))))
    have hP9 := hP.sub (ws' := [(h0, .inr (12, [a0, a1, a2, a3, .ref h4, a5, a6, a7, a8])), (h4, .inr (4, [b0, b1, .int 0, b3, b4, b5, b6, b7, b8, b9, b10, b11, b12, b13]))]) [0, 1] rfl
    have hD9 := hD.sub (ws' := [(h0, .inr (12, [a0, a1, a2, a3, .ref h4, a5, a6, a7, a8])), (h4, .inr (4, [b0, b1, .int 0, b3, b4, b5, b6, b7, b8, b9, b10, b11, b12, b13]))]) [0, 1] (by decide) rfl
    have hK9 := hK.sub (tys' := []) [] rfl
    exact vx_throw0 (A := A) hx hb hl0 hown (by decide +kernel) (by decide +kernel) (hts (.classLink RX12 92 "java/lang/IndexOutOfBoundsException") (wm_X12_needOutput 0 rfl)) (hts (.initialized "java/lang/IndexOutOfBoundsException") (wm_X12_needOutput 1 rfl)) hat9 (by decide +kernel) hZ9.1 hZ9.2 hS (hl.1.trans hml.symm) dX12_needOutput_15 dX12_needOutput_18 dX12_needOutput_19 dX12_needOutput_22 hout (by decide) (by decide) h_3 h_4 hlocks (fun t9 ha9 hz9 hk9 => ⟨(), trivial, ⟨rfl, (xz_keep hS hP9 hz9 hk9).1, va_K.moved ha9 hK9, hD9⟩, (xz_keep hS hP9 hz9 hk9).2⟩) hS.2.2 (by decide) (by decide)

abbrev ax_X12_operator (dC : Nat → ClassId) (dI : Nat → Nat → Nat) (A : Nat → Prop) (h0 h4 : Nat) (k1 k2 : Int32) (a0 a1 a2 a3 a5 a6 a7 a8 b0 b2 b3 b4 b5 b6 b7 b8 b9 b10 b11 b12 b13 : Value) (E : String) (_ : Unit) (t : State) : Prop := E = "java/lang/IndexOutOfBoundsException" ∧ va_P (dC, dI) vwCl [(h0, .inr (12, [a0, a1, a2, a3, .ref h4, a5, a6, a7, a8])), (h4, .inr (4, [b0, .int 0, b2, b3, b4, b5, b6, b7, b8, b9, b10, b11, b12, b13]))] t.heap ∧ va_K (dC, dI) vwCl [] t ∧ va_D A [(h0, .inr (12, [a0, a1, a2, a3, .ref h4, a5, a6, a7, a8])), (h4, .inr (4, [b0, .int 0, b2, b3, b4, b5, b6, b7, b8, b9, b10, b11, b12, b13]))]
theorem dX12_operator_0 : decode cX12_operator 0 = .ok (.iload_n 1, 1) := by decide +kernel
theorem dX12_operator_1 : decode cX12_operator 1 = .ok (.ifCond .lt 14, 3) := by decide +kernel
theorem dX12_operator_4 : decode cX12_operator 4 = .ok (.iload_n 1, 1) := by decide +kernel
theorem dX12_operator_5 : decode cX12_operator 5 = .ok (.aload_n 0, 1) := by decide +kernel
theorem dX12_operator_6 : decode cX12_operator 6 = .ok (.getfield 30, 3) := by decide +kernel
theorem dX12_operator_9 : decode cX12_operator 9 = .ok (.getfield 89, 3) := by decide +kernel
theorem dX12_operator_12 : decode cX12_operator 12 = .ok (.if_icmp .lt 11, 3) := by decide +kernel
theorem dX12_operator_15 : decode cX12_operator 15 = .ok (.new 92, 3) := by decide +kernel
theorem dX12_operator_18 : decode cX12_operator 18 = .ok (.dup, 1) := by decide +kernel
theorem dX12_operator_19 : decode cX12_operator 19 = .ok (.invokespecial 94, 3) := by decide +kernel
theorem dX12_operator_22 : decode cX12_operator 22 = .ok (.athrow, 1) := by decide +kernel
def ww_X12_operator : List Cond := [.classLink RX12 92 "java/lang/IndexOutOfBoundsException", .initialized "java/lang/IndexOutOfBoundsException", .fieldLink RX12 30 "StreamHouse" "current" "LStreamHouse$Job;", .fieldLink RX12 89 "StreamHouse$Job" "count" "I"]
def wv_X12_operator : List Cond := .code yX12_operator cX12_operator 4 (some .long) :: (ww_X12_operator ++ ((vx_at0 RX12 94 "java/lang/IndexOutOfBoundsException" ["java/lang/RuntimeException", "java/lang/Exception"]).filter goodWord ++ (u_ws RX12 TX12 9 ++ (u_ws RX4 TX4 14 ++ []))))
theorem wm_X12_operator {w : Cond} (i : Nat) (h : ww_X12_operator[i]? = some w) : w ∈ wv_X12_operator := List.mem_cons_of_mem _ (List.mem_append_left _ (List.mem_of_getElem? h))
set_option maxRecDepth 100000 in
theorem gw_X12_operator : wv_X12_operator.all goodWord = true := by decide +kernel
theorem wx_X12_operator_94 : ∀ w ∈ (vx_at0 RX12 94 "java/lang/IndexOutOfBoundsException" ["java/lang/RuntimeException", "java/lang/Exception"]).filter goodWord, w ∈ wv_X12_operator := fun w h => List.mem_cons_of_mem _ (List.mem_append_right _ (List.mem_append_left _ h))
theorem wh_X12_operator_X12 : ∀ w ∈ u_ws RX12 TX12 9, w ∈ wv_X12_operator := fun w h => List.mem_cons_of_mem _ (List.mem_append_right _ (List.mem_append_right _ (List.mem_append_left _ h)))
theorem wh_X12_operator_X4 : ∀ w ∈ u_ws RX4 TX4 14, w ∈ wv_X12_operator := fun w h => List.mem_cons_of_mem _ (List.mem_append_right _ (List.mem_append_right _ (List.mem_append_right _ (List.mem_append_left _ h))))
set_option maxHeartbeats 4000000 in
set_option maxRecDepth 100000 in
/-- operator(k, what) where there is no job: IndexOutOfBoundsException -/
theorem x_X12_operator (l : Launch) (hl0 : l.stackTraces = false) (dC : Nat → ClassId) (dI : Nat → Nat → Nat) (h0 h4 : Nat) (k1 k2 : Int32) (a0 a1 a2 a3 a5 a6 a7 a8 b0 b2 b3 b4 b5 b6 b7 b8 b9 b10 b11 b12 b13 : Value) (sz : Nat) : vx_Met l yX12_operator wv_X12_operator ({ frames := 6, cells := 1, slots := 6, locals := 81 }) (va_Pc [.ref h0, .int k1, .int k2] (fun U => U.heap.size = sz ∧ va_P (dC, dI) vwCl [(h0, .inr (12, [a0, a1, a2, a3, .ref h4, a5, a6, a7, a8])), (h4, .inr (4, [b0, .int 0, b2, b3, b4, b5, b6, b7, b8, b9, b10, b11, b12, b13]))] U.heap ∧ va_K (dC, dI) vwCl [] U ∧ va_D (fun _ => True) [(h0, .inr (12, [a0, a1, a2, a3, .ref h4, a5, a6, a7, a8])), (h4, .inr (4, [b0, .int 0, b2, b3, b4, b5, b6, b7, b8, b9, b10, b11, b12, b13]))] ∧ xz_F U ∧ xz_Z (va_A [(h0, .inr (12, [a0, a1, a2, a3, .ref h4, a5, a6, a7, a8])), (h4, .inr (4, [b0, .int 0, b2, b3, b4, b5, b6, b7, b8, b9, b10, b11, b12, b13]))] sz) U U.heap)) (va_Ql (fun _ (_ : Unit) => False) (fun _ _ => True) (va_A [(h0, .inr (12, [a0, a1, a2, a3, .ref h4, a5, a6, a7, a8])), (h4, .inr (4, [b0, .int 0, b2, b3, b4, b5, b6, b7, b8, b9, b10, b11, b12, b13]))] sz)) (vx_X (fun _ : Unit => True) (ax_X12_operator dC dI (va_A [(h0, .inr (12, [a0, a1, a2, a3, .ref h4, a5, a6, a7, a8])), (h4, .inr (4, [b0, .int 0, b2, b3, b4, b5, b6, b7, b8, b9, b10, b11, b12, b13]))] sz) h0 h4 k1 k2 a0 a1 a2 a3 a5 a6 a7 a8 b0 b2 b3 b4 b5 b6 b7 b8 b9 b10 b11 b12 b13) (va_A [(h0, .inr (12, [a0, a1, a2, a3, .ref h4, a5, a6, a7, a8])), (h4, .inr (4, [b0, .int 0, b2, b3, b4, b5, b6, b7, b8, b9, b10, b11, b12, b13]))] sz)) 1 6 (va_A [(h0, .inr (12, [a0, a1, a2, a3, .ref h4, a5, a6, a7, a8])), (h4, .inr (4, [b0, .int 0, b2, b3, b4, b5, b6, b7, b8, b9, b10, b11, b12, b13]))] sz) := by
  refine vx_ofW (cc := cX12_operator) (maxL := 4) (ret := (some .long)) (by decide) rfl ?_
  intro p e s m args below meth c s₁ B hml hex hv
  obtain ⟨rfl, hsz, hP, hK, hD0, hF9, hZ9⟩ := hv
  have hx := B.exec
  have hb := B.bytes
  have hr := B.returns
  have hts := atoms_spec (ws := wv_X12_operator) B.pre
  have hown : s.vm.findClass RX12 = some m.cls := findClass_of_methodNamed B.named
  have hlocks := B.notSynchronized
  subst hsz
  have hD := hD0.self (sz := s.heap.size)
  generalize hAe : va_A [(h0, .inr (12, [a0, a1, a2, a3, .ref h4, a5, a6, a7, a8])), (h4, .inr (4, [b0, .int 0, b2, b3, b4, b5, b6, b7, b8, b9, b10, b11, b12, b13]))] s.heap.size = A at hD hZ9 ⊢
  have hA : ∀ q : Nat, s.heap.size ≤ q → A q := fun q h => by rw [← hAe]; exact Or.inr h
  have hS : va_S A s.heap s.heap [] := va_S.rf
  have hP : va_P (dC, dI) vwCl [(h0, .inr (12, [a0, a1, a2, a3, .ref h4, a5, a6, a7, a8])), (h4, .inr (4, [b0, .int 0, b2, b3, b4, b5, b6, b7, b8, b9, b10, b11, b12, b13]))] s.heap := hP
  have hl := lv_entry ([.ref h0, .int k1, .int k2]) (n := 4) (Nat.le_of_ble_eq_true rfl)
  rw [lg_entry_eq]
  generalize (lg_sl ([.ref h0, .int k1, .int k2]) ++ List.replicate (4 - (lg_sl ([.ref h0, .int k1, .int k2])).length) Slot.unset).toArray = ls at hl ⊢
  have hl : lv_has ls 4 [(0, .ref h0), (1, .int k1), (2, .int k2)] := hl
  have hout : ∀ {k : Nat}, ∀ x ∈ c.exceptionTable.toList, covers x k = false := fun x h => (hex x h).elim
  refine lv_iload_n hx hb dX12_operator_0 rfl (lv_at hl 1 rfl) ?_
  refine lv_if_lt (tgt := 15) hx hb dX12_operator_1 (by decide) (fun hc => ?_) (fun hc => ?_)
  · have h_1 : 1 ≤ 1 := by decide
    have h_2 : 6 ≤ 6 := by decide
    have hat9 : ∀ w ∈ vx_at0 RX12 94 "java/lang/IndexOutOfBoundsException" ["java/lang/RuntimeException", "java/lang/Exception"], w.before _ s = true := vx_hat (B := [.declares (Bundle.init0 "java/lang/RuntimeException"), .declares (Bundle.init0 "java/lang/Exception"), .declares (Bundle.init0 Bundle.tN), .castable "java/lang/IndexOutOfBoundsException" "java/lang/IndexOutOfBoundsException"]) (fun w hw => hts w (wx_X12_operator_94 w hw)) (by decide +kernel) (vx_c (va_Nw.use rfl hF9.1) (vx_c (va_Nw.use rfl hF9.2.1) (vx_c (va_Nw.use rfl hF9.2.2.1) (vx_c (va_Nw.use rfl hF9.2.2.2.2.2.1) vx_n))))
    have hP9 := hP.sub (ws' := [(h0, .inr (12, [a0, a1, a2, a3, .ref h4, a5, a6, a7, a8])), (h4, .inr (4, [b0, .int 0, b2, b3, b4, b5, b6, b7, b8, b9, b10, b11, b12, b13]))]) [0, 1] rfl
    have hD9 := hD.sub (ws' := [(h0, .inr (12, [a0, a1, a2, a3, .ref h4, a5, a6, a7, a8])), (h4, .inr (4, [b0, .int 0, b2, b3, b4, b5, b6, b7, b8, b9, b10, b11, b12, b13]))]) [0, 1] (by decide) rfl
    have hK9 := hK.sub (tys' := []) [] rfl
    exact vx_throw0 (A := A) hx hb hl0 hown (by decide +kernel) (by decide +kernel) (hts (.classLink RX12 92 "java/lang/IndexOutOfBoundsException") (wm_X12_operator 0 rfl)) (hts (.initialized "java/lang/IndexOutOfBoundsException") (wm_X12_operator 1 rfl)) hat9 (by decide +kernel) hZ9.1 hZ9.2 hS (hl.1.trans hml.symm) dX12_operator_15 dX12_operator_18 dX12_operator_19 dX12_operator_22 hout (by decide) (by decide) h_1 h_2 hlocks (fun t9 ha9 hz9 hk9 => ⟨(), trivial, ⟨rfl, (xz_keep hS hP9 hz9 hk9).1, va_K.moved ha9 hK9, hD9⟩, (xz_keep hS hP9 hz9 hk9).2⟩) hS.2.2 (by decide) (by decide)
  · refine lv_iload_n hx hb dX12_operator_4 rfl (lv_at hl 1 rfl) ?_
    refine lv_aload_n hx hb dX12_operator_5 rfl (lv_at hl 0 rfl) ?_
    refine va_get (D := (dC, dI)) (ci := 12) (v := .ref h4) (C := RX12) (T := TX12) (N := 9) hx hb hts wh_X12_operator_X12 hown hK hP 0 rfl rfl 4 (by decide) (hts (.fieldLink RX12 30 "StreamHouse" "current" "LStreamHouse$Job;") (wm_X12_operator 2 rfl)) (fun _ h9 => h9) rfl dX12_operator_6 ?_
    refine va_get (D := (dC, dI)) (ci := 4) (v := .int 0) (C := RX4) (T := TX4) (N := 14) hx hb hts wh_X12_operator_X4 hown hK hP 1 rfl rfl 1 (by decide) (hts (.fieldLink RX12 89 "StreamHouse$Job" "count" "I") (wm_X12_operator 3 rfl)) (fun _ h9 => h9) rfl dX12_operator_9 ?_
    refine lv_icmp_lt (tgt := 23) hx hb dX12_operator_12 (by decide) (fun h9 => absurd h9 hc) (fun _ => ?_)
    have h_3 : 1 ≤ 1 := by decide
    have h_4 : 6 ≤ 6 := by decide
    have hat9 : ∀ w ∈ vx_at0 RX12 94 "java/lang/IndexOutOfBoundsException" ["java/lang/RuntimeException", "java/lang/Exception"], w.before _ s = true := vx_hat (B := [.declares (Bundle.init0 "java/lang/RuntimeException"), .declares (Bundle.init0 "java/lang/Exception"), .declares (Bundle.init0 Bundle.tN), .castable "java/lang/IndexOutOfBoundsException" "java/lang/IndexOutOfBoundsException"]) (fun w hw => hts w (wx_X12_operator_94 w hw)) (by decide +kernel) (vx_c (va_Nw.use rfl hF9.1) (vx_c (va_Nw.use rfl hF9.2.1) (vx_c (va_Nw.use rfl hF9.2.2.1) (vx_c (va_Nw.use rfl hF9.2.2.2.2.2.1) vx_n))))
    have hP9 := hP.sub (ws' := [(h0, .inr (12, [a0, a1, a2, a3, .ref h4, a5, a6, a7, a8])), (h4, .inr (4, [b0, .int 0, b2, b3, b4, b5, b6, b7, b8, b9, b10, b11, b12, b13]))]) [0, 1] rfl
    have hD9 := hD.sub (ws' := [(h0, .inr (12, [a0, a1, a2, a3, .ref h4, a5, a6, a7, a8])), (h4, .inr (4, [b0, .int 0, b2, b3, b4, b5, b6, b7, b8, b9, b10, b11, b12, b13]))]) [0, 1] (by decide) rfl
    have hK9 := hK.sub (tys' := []) [] rfl
    exact vx_throw0 (A := A) hx hb hl0 hown (by decide +kernel) (by decide +kernel) (hts (.classLink RX12 92 "java/lang/IndexOutOfBoundsException") (wm_X12_operator 0 rfl)) (hts (.initialized "java/lang/IndexOutOfBoundsException") (wm_X12_operator 1 rfl)) hat9 (by decide +kernel) hZ9.1 hZ9.2 hS (hl.1.trans hml.symm) dX12_operator_15 dX12_operator_18 dX12_operator_19 dX12_operator_22 hout (by decide) (by decide) h_3 h_4 hlocks (fun t9 ha9 hz9 hk9 => ⟨(), trivial, ⟨rfl, (xz_keep hS hP9 hz9 hk9).1, va_K.moved ha9 hK9, hD9⟩, (xz_keep hS hP9 hz9 hk9).2⟩) hS.2.2 (by decide) (by decide)

abbrev ax_X12_start (dC : Nat → ClassId) (dI : Nat → Nat → Nat) (A : Nat → Prop) (h0 h4 : Nat) (k1 k2 : Int32) (g1 : Int64) (a0 a1 a2 a3 a5 a6 a7 a8 b0 b2 b3 b4 b5 b6 b7 b8 b9 b10 b11 b12 b13 : Value) (E : String) (_ : Unit) (t : State) : Prop := E = "java/lang/IllegalStateException" ∧ va_P (dC, dI) vwCl [(h0, .inr (12, [a0, a1, a2, a3, .ref h4, a5, a6, a7, a8])), (h4, .inr (4, [b0, .int 0, b2, b3, b4, b5, b6, b7, b8, b9, b10, b11, b12, b13]))] t.heap ∧ va_K (dC, dI) vwCl [] t ∧ va_D A [(h0, .inr (12, [a0, a1, a2, a3, .ref h4, a5, a6, a7, a8])), (h4, .inr (4, [b0, .int 0, b2, b3, b4, b5, b6, b7, b8, b9, b10, b11, b12, b13]))]
theorem dX12_start_0 : decode cX12_start 0 = .ok (.aload_n 0, 1) := by decide +kernel
theorem dX12_start_1 : decode cX12_start 1 = .ok (.getfield 30, 3) := by decide +kernel
theorem dX12_start_4 : decode cX12_start 4 = .ok (.getfield 89, 3) := by decide +kernel
theorem dX12_start_7 : decode cX12_start 7 = .ok (.ifCond .eq 16, 3) := by decide +kernel
theorem dX12_start_23 : decode cX12_start 23 = .ok (.new 76, 3) := by decide +kernel
theorem dX12_start_26 : decode cX12_start 26 = .ok (.dup, 1) := by decide +kernel
theorem dX12_start_27 : decode cX12_start 27 = .ok (.invokespecial 78, 3) := by decide +kernel
theorem dX12_start_30 : decode cX12_start 30 = .ok (.athrow, 1) := by decide +kernel
def ww_X12_start : List Cond := [.fieldLink RX12 30 "StreamHouse" "current" "LStreamHouse$Job;", .fieldLink RX12 89 "StreamHouse$Job" "count" "I", .classLink RX12 76 "java/lang/IllegalStateException", .initialized "java/lang/IllegalStateException"]
def wv_X12_start : List Cond := .code yX12_start cX12_start 5 (some .int) :: (ww_X12_start ++ (u_ws RX12 TX12 9 ++ (u_ws RX4 TX4 14 ++ ((vx_at0 RX12 78 "java/lang/IllegalStateException" ["java/lang/RuntimeException", "java/lang/Exception"]).filter goodWord ++ []))))
theorem wm_X12_start {w : Cond} (i : Nat) (h : ww_X12_start[i]? = some w) : w ∈ wv_X12_start := List.mem_cons_of_mem _ (List.mem_append_left _ (List.mem_of_getElem? h))
set_option maxRecDepth 100000 in
theorem gw_X12_start : wv_X12_start.all goodWord = true := by decide +kernel
theorem wh_X12_start_X12 : ∀ w ∈ u_ws RX12 TX12 9, w ∈ wv_X12_start := fun w h => List.mem_cons_of_mem _ (List.mem_append_right _ (List.mem_append_left _ h))
theorem wh_X12_start_X4 : ∀ w ∈ u_ws RX4 TX4 14, w ∈ wv_X12_start := fun w h => List.mem_cons_of_mem _ (List.mem_append_right _ (List.mem_append_right _ (List.mem_append_left _ h)))
theorem wx_X12_start_78 : ∀ w ∈ (vx_at0 RX12 78 "java/lang/IllegalStateException" ["java/lang/RuntimeException", "java/lang/Exception"]).filter goodWord, w ∈ wv_X12_start := fun w h => List.mem_cons_of_mem _ (List.mem_append_right _ (List.mem_append_right _ (List.mem_append_right _ (List.mem_append_left _ h))))
set_option maxHeartbeats 4000000 in
set_option maxRecDepth 100000 in
/-- start(..) where there is no job: IllegalStateException -/
theorem x_X12_start (l : Launch) (hl0 : l.stackTraces = false) (dC : Nat → ClassId) (dI : Nat → Nat → Nat) (h0 h4 : Nat) (k1 k2 : Int32) (g1 : Int64) (a0 a1 a2 a3 a5 a6 a7 a8 b0 b2 b3 b4 b5 b6 b7 b8 b9 b10 b11 b12 b13 : Value) (sz : Nat) : vx_Met l yX12_start wv_X12_start ({ frames := 6, cells := 1, slots := 6, locals := 81 }) (va_Pc [.ref h0, .int k1, .int k2, .long g1] (fun U => U.heap.size = sz ∧ va_P (dC, dI) vwCl [(h0, .inr (12, [a0, a1, a2, a3, .ref h4, a5, a6, a7, a8])), (h4, .inr (4, [b0, .int 0, b2, b3, b4, b5, b6, b7, b8, b9, b10, b11, b12, b13]))] U.heap ∧ va_K (dC, dI) vwCl [] U ∧ va_D (fun _ => True) [(h0, .inr (12, [a0, a1, a2, a3, .ref h4, a5, a6, a7, a8])), (h4, .inr (4, [b0, .int 0, b2, b3, b4, b5, b6, b7, b8, b9, b10, b11, b12, b13]))] ∧ xz_F U ∧ xz_Z (va_A [(h0, .inr (12, [a0, a1, a2, a3, .ref h4, a5, a6, a7, a8])), (h4, .inr (4, [b0, .int 0, b2, b3, b4, b5, b6, b7, b8, b9, b10, b11, b12, b13]))] sz) U U.heap)) (va_Qi (fun _ (_ : Unit) => False) (fun _ _ => True) (va_A [(h0, .inr (12, [a0, a1, a2, a3, .ref h4, a5, a6, a7, a8])), (h4, .inr (4, [b0, .int 0, b2, b3, b4, b5, b6, b7, b8, b9, b10, b11, b12, b13]))] sz)) (vx_X (fun _ : Unit => True) (ax_X12_start dC dI (va_A [(h0, .inr (12, [a0, a1, a2, a3, .ref h4, a5, a6, a7, a8])), (h4, .inr (4, [b0, .int 0, b2, b3, b4, b5, b6, b7, b8, b9, b10, b11, b12, b13]))] sz) h0 h4 k1 k2 g1 a0 a1 a2 a3 a5 a6 a7 a8 b0 b2 b3 b4 b5 b6 b7 b8 b9 b10 b11 b12 b13) (va_A [(h0, .inr (12, [a0, a1, a2, a3, .ref h4, a5, a6, a7, a8])), (h4, .inr (4, [b0, .int 0, b2, b3, b4, b5, b6, b7, b8, b9, b10, b11, b12, b13]))] sz)) 1 6 (va_A [(h0, .inr (12, [a0, a1, a2, a3, .ref h4, a5, a6, a7, a8])), (h4, .inr (4, [b0, .int 0, b2, b3, b4, b5, b6, b7, b8, b9, b10, b11, b12, b13]))] sz) := by
  refine vx_ofW (cc := cX12_start) (maxL := 5) (ret := (some .int)) (by decide) rfl ?_
  intro p e s m args below meth c s₁ B hml hex hv
  obtain ⟨rfl, hsz, hP, hK, hD0, hF9, hZ9⟩ := hv
  have hx := B.exec
  have hb := B.bytes
  have hr := B.returns
  have hts := atoms_spec (ws := wv_X12_start) B.pre
  have hown : s.vm.findClass RX12 = some m.cls := findClass_of_methodNamed B.named
  have hlocks := B.notSynchronized
  subst hsz
  have hD := hD0.self (sz := s.heap.size)
  generalize hAe : va_A [(h0, .inr (12, [a0, a1, a2, a3, .ref h4, a5, a6, a7, a8])), (h4, .inr (4, [b0, .int 0, b2, b3, b4, b5, b6, b7, b8, b9, b10, b11, b12, b13]))] s.heap.size = A at hD hZ9 ⊢
  have hA : ∀ q : Nat, s.heap.size ≤ q → A q := fun q h => by rw [← hAe]; exact Or.inr h
  have hS : va_S A s.heap s.heap [] := va_S.rf
  have hP : va_P (dC, dI) vwCl [(h0, .inr (12, [a0, a1, a2, a3, .ref h4, a5, a6, a7, a8])), (h4, .inr (4, [b0, .int 0, b2, b3, b4, b5, b6, b7, b8, b9, b10, b11, b12, b13]))] s.heap := hP
  have hl := lv_entry ([.ref h0, .int k1, .int k2, .long g1]) (n := 5) (Nat.le_of_ble_eq_true rfl)
  rw [lg_entry_eq]
  generalize (lg_sl ([.ref h0, .int k1, .int k2, .long g1]) ++ List.replicate (5 - (lg_sl ([.ref h0, .int k1, .int k2, .long g1])).length) Slot.unset).toArray = ls at hl ⊢
  have hl : lv_has ls 5 [(0, .ref h0), (1, .int k1), (2, .int k2), (3, .long g1)] := hl
  have hout : ∀ {k : Nat}, ∀ x ∈ c.exceptionTable.toList, covers x k = false := fun x h => (hex x h).elim
  refine lv_aload_n hx hb dX12_start_0 rfl (lv_at hl 0 rfl) ?_
  refine va_get (D := (dC, dI)) (ci := 12) (v := .ref h4) (C := RX12) (T := TX12) (N := 9) hx hb hts wh_X12_start_X12 hown hK hP 0 rfl rfl 4 (by decide) (hts (.fieldLink RX12 30 "StreamHouse" "current" "LStreamHouse$Job;") (wm_X12_start 0 rfl)) (fun _ h9 => h9) rfl dX12_start_1 ?_
  refine va_get (D := (dC, dI)) (ci := 4) (v := .int 0) (C := RX4) (T := TX4) (N := 14) hx hb hts wh_X12_start_X4 hown hK hP 1 rfl rfl 1 (by decide) (hts (.fieldLink RX12 89 "StreamHouse$Job" "count" "I") (wm_X12_start 1 rfl)) (fun _ h9 => h9) rfl dX12_start_4 ?_
  refine lv_if_eq (tgt := 23) hx hb dX12_start_7 (by decide) (fun _ => ?_) (fun h9 => absurd (by decide) h9)
  have h_1 : 1 ≤ 1 := by decide
  have h_2 : 6 ≤ 6 := by decide
  have hat9 : ∀ w ∈ vx_at0 RX12 78 "java/lang/IllegalStateException" ["java/lang/RuntimeException", "java/lang/Exception"], w.before _ s = true := vx_hat (B := [.declares (Bundle.init0 "java/lang/RuntimeException"), .declares (Bundle.init0 "java/lang/Exception"), .declares (Bundle.init0 Bundle.tN), .castable "java/lang/IllegalStateException" "java/lang/IllegalStateException"]) (fun w hw => hts w (wx_X12_start_78 w hw)) (by decide +kernel) (vx_c (va_Nw.use rfl hF9.1) (vx_c (va_Nw.use rfl hF9.2.1) (vx_c (va_Nw.use rfl hF9.2.2.1) (vx_c (va_Nw.use rfl hF9.2.2.2.1) vx_n))))
  have hP9 := hP.sub (ws' := [(h0, .inr (12, [a0, a1, a2, a3, .ref h4, a5, a6, a7, a8])), (h4, .inr (4, [b0, .int 0, b2, b3, b4, b5, b6, b7, b8, b9, b10, b11, b12, b13]))]) [0, 1] rfl
  have hD9 := hD.sub (ws' := [(h0, .inr (12, [a0, a1, a2, a3, .ref h4, a5, a6, a7, a8])), (h4, .inr (4, [b0, .int 0, b2, b3, b4, b5, b6, b7, b8, b9, b10, b11, b12, b13]))]) [0, 1] (by decide) rfl
  have hK9 := hK.sub (tys' := []) [] rfl
  exact vx_throw0 (A := A) hx hb hl0 hown (by decide +kernel) (by decide +kernel) (hts (.classLink RX12 76 "java/lang/IllegalStateException") (wm_X12_start 2 rfl)) (hts (.initialized "java/lang/IllegalStateException") (wm_X12_start 3 rfl)) hat9 (by decide +kernel) hZ9.1 hZ9.2 hS (hl.1.trans hml.symm) dX12_start_23 dX12_start_26 dX12_start_27 dX12_start_30 hout (by decide) (by decide) h_1 h_2 hlocks (fun t9 ha9 hz9 hk9 => ⟨(), trivial, ⟨rfl, (xz_keep hS hP9 hz9 hk9).1, va_K.moved ha9 hK9, hD9⟩, (xz_keep hS hP9 hz9 hk9).2⟩) hS.2.2 (by decide) (by decide)

abbrev ax_X12_onePass (dC : Nat → ClassId) (dI : Nat → Nat → Nat) (A : Nat → Prop) (h0 h4 : Nat) (a0 a1 a2 a3 a5 a6 a7 a8 b0 b2 b3 b4 b5 b6 b7 b8 b9 b10 b11 b12 b13 : Value) (E : String) (_ : Unit) (t : State) : Prop := E = "java/lang/IllegalStateException" ∧ va_P (dC, dI) vwCl [(h0, .inr (12, [a0, a1, a2, a3, .ref h4, a5, a6, a7, a8])), (h4, .inr (4, [b0, .int 0, b2, b3, b4, b5, b6, b7, b8, b9, b10, b11, b12, b13]))] t.heap ∧ va_K (dC, dI) vwCl [] t ∧ va_D A [(h0, .inr (12, [a0, a1, a2, a3, .ref h4, a5, a6, a7, a8])), (h4, .inr (4, [b0, .int 0, b2, b3, b4, b5, b6, b7, b8, b9, b10, b11, b12, b13]))]
theorem dX12_onePass_0 : decode cX12_onePass 0 = .ok (.aload_n 0, 1) := by decide +kernel
theorem dX12_onePass_1 : decode cX12_onePass 1 = .ok (.getfield 30, 3) := by decide +kernel
theorem dX12_onePass_4 : decode cX12_onePass 4 = .ok (.getfield 89, 3) := by decide +kernel
theorem dX12_onePass_7 : decode cX12_onePass 7 = .ok (.ifCond .ne 11, 3) := by decide +kernel
theorem dX12_onePass_10 : decode cX12_onePass 10 = .ok (.new 76, 3) := by decide +kernel
theorem dX12_onePass_13 : decode cX12_onePass 13 = .ok (.dup, 1) := by decide +kernel
theorem dX12_onePass_14 : decode cX12_onePass 14 = .ok (.invokespecial 78, 3) := by decide +kernel
theorem dX12_onePass_17 : decode cX12_onePass 17 = .ok (.athrow, 1) := by decide +kernel
def ww_X12_onePass : List Cond := [.fieldLink RX12 30 "StreamHouse" "current" "LStreamHouse$Job;", .fieldLink RX12 89 "StreamHouse$Job" "count" "I", .classLink RX12 76 "java/lang/IllegalStateException", .initialized "java/lang/IllegalStateException"]
def wv_X12_onePass : List Cond := .code yX12_onePass cX12_onePass 2 (some .boolean) :: (ww_X12_onePass ++ (u_ws RX12 TX12 9 ++ (u_ws RX4 TX4 14 ++ ((vx_at0 RX12 78 "java/lang/IllegalStateException" ["java/lang/RuntimeException", "java/lang/Exception"]).filter goodWord ++ []))))
theorem wm_X12_onePass {w : Cond} (i : Nat) (h : ww_X12_onePass[i]? = some w) : w ∈ wv_X12_onePass := List.mem_cons_of_mem _ (List.mem_append_left _ (List.mem_of_getElem? h))
set_option maxRecDepth 100000 in
theorem gw_X12_onePass : wv_X12_onePass.all goodWord = true := by decide +kernel
theorem wh_X12_onePass_X12 : ∀ w ∈ u_ws RX12 TX12 9, w ∈ wv_X12_onePass := fun w h => List.mem_cons_of_mem _ (List.mem_append_right _ (List.mem_append_left _ h))
theorem wh_X12_onePass_X4 : ∀ w ∈ u_ws RX4 TX4 14, w ∈ wv_X12_onePass := fun w h => List.mem_cons_of_mem _ (List.mem_append_right _ (List.mem_append_right _ (List.mem_append_left _ h)))
theorem wx_X12_onePass_78 : ∀ w ∈ (vx_at0 RX12 78 "java/lang/IllegalStateException" ["java/lang/RuntimeException", "java/lang/Exception"]).filter goodWord, w ∈ wv_X12_onePass := fun w h => List.mem_cons_of_mem _ (List.mem_append_right _ (List.mem_append_right _ (List.mem_append_right _ (List.mem_append_left _ h))))
set_option maxHeartbeats 4000000 in
set_option maxRecDepth 100000 in
/-- onePass() where there is no job: IllegalStateException -/
theorem x_X12_onePass (l : Launch) (hl0 : l.stackTraces = false) (dC : Nat → ClassId) (dI : Nat → Nat → Nat) (h0 h4 : Nat) (a0 a1 a2 a3 a5 a6 a7 a8 b0 b2 b3 b4 b5 b6 b7 b8 b9 b10 b11 b12 b13 : Value) (sz : Nat) : vx_Met l yX12_onePass wv_X12_onePass ({ frames := 6, cells := 1, slots := 6, locals := 81 }) (va_Pc [.ref h0] (fun U => U.heap.size = sz ∧ va_P (dC, dI) vwCl [(h0, .inr (12, [a0, a1, a2, a3, .ref h4, a5, a6, a7, a8])), (h4, .inr (4, [b0, .int 0, b2, b3, b4, b5, b6, b7, b8, b9, b10, b11, b12, b13]))] U.heap ∧ va_K (dC, dI) vwCl [] U ∧ va_D (fun _ => True) [(h0, .inr (12, [a0, a1, a2, a3, .ref h4, a5, a6, a7, a8])), (h4, .inr (4, [b0, .int 0, b2, b3, b4, b5, b6, b7, b8, b9, b10, b11, b12, b13]))] ∧ xz_F U ∧ xz_Z (va_A [(h0, .inr (12, [a0, a1, a2, a3, .ref h4, a5, a6, a7, a8])), (h4, .inr (4, [b0, .int 0, b2, b3, b4, b5, b6, b7, b8, b9, b10, b11, b12, b13]))] sz) U U.heap)) (va_Qi (fun _ (_ : Unit) => False) (fun _ _ => True) (va_A [(h0, .inr (12, [a0, a1, a2, a3, .ref h4, a5, a6, a7, a8])), (h4, .inr (4, [b0, .int 0, b2, b3, b4, b5, b6, b7, b8, b9, b10, b11, b12, b13]))] sz)) (vx_X (fun _ : Unit => True) (ax_X12_onePass dC dI (va_A [(h0, .inr (12, [a0, a1, a2, a3, .ref h4, a5, a6, a7, a8])), (h4, .inr (4, [b0, .int 0, b2, b3, b4, b5, b6, b7, b8, b9, b10, b11, b12, b13]))] sz) h0 h4 a0 a1 a2 a3 a5 a6 a7 a8 b0 b2 b3 b4 b5 b6 b7 b8 b9 b10 b11 b12 b13) (va_A [(h0, .inr (12, [a0, a1, a2, a3, .ref h4, a5, a6, a7, a8])), (h4, .inr (4, [b0, .int 0, b2, b3, b4, b5, b6, b7, b8, b9, b10, b11, b12, b13]))] sz)) 1 6 (va_A [(h0, .inr (12, [a0, a1, a2, a3, .ref h4, a5, a6, a7, a8])), (h4, .inr (4, [b0, .int 0, b2, b3, b4, b5, b6, b7, b8, b9, b10, b11, b12, b13]))] sz) := by
  refine vx_ofW (cc := cX12_onePass) (maxL := 2) (ret := (some .boolean)) (by decide) rfl ?_
  intro p e s m args below meth c s₁ B hml hex hv
  obtain ⟨rfl, hsz, hP, hK, hD0, hF9, hZ9⟩ := hv
  have hx := B.exec
  have hb := B.bytes
  have hr := B.returns
  have hts := atoms_spec (ws := wv_X12_onePass) B.pre
  have hown : s.vm.findClass RX12 = some m.cls := findClass_of_methodNamed B.named
  have hlocks := B.notSynchronized
  subst hsz
  have hD := hD0.self (sz := s.heap.size)
  generalize hAe : va_A [(h0, .inr (12, [a0, a1, a2, a3, .ref h4, a5, a6, a7, a8])), (h4, .inr (4, [b0, .int 0, b2, b3, b4, b5, b6, b7, b8, b9, b10, b11, b12, b13]))] s.heap.size = A at hD hZ9 ⊢
  have hA : ∀ q : Nat, s.heap.size ≤ q → A q := fun q h => by rw [← hAe]; exact Or.inr h
  have hS : va_S A s.heap s.heap [] := va_S.rf
  have hP : va_P (dC, dI) vwCl [(h0, .inr (12, [a0, a1, a2, a3, .ref h4, a5, a6, a7, a8])), (h4, .inr (4, [b0, .int 0, b2, b3, b4, b5, b6, b7, b8, b9, b10, b11, b12, b13]))] s.heap := hP
  have hl := lv_entry ([.ref h0]) (n := 2) (Nat.le_of_ble_eq_true rfl)
  rw [lg_entry_eq]
  generalize (lg_sl ([.ref h0]) ++ List.replicate (2 - (lg_sl ([.ref h0])).length) Slot.unset).toArray = ls at hl ⊢
  have hl : lv_has ls 2 [(0, .ref h0)] := hl
  have hout : ∀ {k : Nat}, ∀ x ∈ c.exceptionTable.toList, covers x k = false := fun x h => (hex x h).elim
  refine lv_aload_n hx hb dX12_onePass_0 rfl (lv_at hl 0 rfl) ?_
  refine va_get (D := (dC, dI)) (ci := 12) (v := .ref h4) (C := RX12) (T := TX12) (N := 9) hx hb hts wh_X12_onePass_X12 hown hK hP 0 rfl rfl 4 (by decide) (hts (.fieldLink RX12 30 "StreamHouse" "current" "LStreamHouse$Job;") (wm_X12_onePass 0 rfl)) (fun _ h9 => h9) rfl dX12_onePass_1 ?_
  refine va_get (D := (dC, dI)) (ci := 4) (v := .int 0) (C := RX4) (T := TX4) (N := 14) hx hb hts wh_X12_onePass_X4 hown hK hP 1 rfl rfl 1 (by decide) (hts (.fieldLink RX12 89 "StreamHouse$Job" "count" "I") (wm_X12_onePass 1 rfl)) (fun _ h9 => h9) rfl dX12_onePass_4 ?_
  refine lv_if_ne (tgt := 18) hx hb dX12_onePass_7 (by decide) (fun h9 => absurd (by decide) h9) (fun _ => ?_)
  have h_1 : 1 ≤ 1 := by decide
  have h_2 : 6 ≤ 6 := by decide
  have hat9 : ∀ w ∈ vx_at0 RX12 78 "java/lang/IllegalStateException" ["java/lang/RuntimeException", "java/lang/Exception"], w.before _ s = true := vx_hat (B := [.declares (Bundle.init0 "java/lang/RuntimeException"), .declares (Bundle.init0 "java/lang/Exception"), .declares (Bundle.init0 Bundle.tN), .castable "java/lang/IllegalStateException" "java/lang/IllegalStateException"]) (fun w hw => hts w (wx_X12_onePass_78 w hw)) (by decide +kernel) (vx_c (va_Nw.use rfl hF9.1) (vx_c (va_Nw.use rfl hF9.2.1) (vx_c (va_Nw.use rfl hF9.2.2.1) (vx_c (va_Nw.use rfl hF9.2.2.2.1) vx_n))))
  have hP9 := hP.sub (ws' := [(h0, .inr (12, [a0, a1, a2, a3, .ref h4, a5, a6, a7, a8])), (h4, .inr (4, [b0, .int 0, b2, b3, b4, b5, b6, b7, b8, b9, b10, b11, b12, b13]))]) [0, 1] rfl
  have hD9 := hD.sub (ws' := [(h0, .inr (12, [a0, a1, a2, a3, .ref h4, a5, a6, a7, a8])), (h4, .inr (4, [b0, .int 0, b2, b3, b4, b5, b6, b7, b8, b9, b10, b11, b12, b13]))]) [0, 1] (by decide) rfl
  have hK9 := hK.sub (tys' := []) [] rfl
  exact vx_throw0 (A := A) hx hb hl0 hown (by decide +kernel) (by decide +kernel) (hts (.classLink RX12 76 "java/lang/IllegalStateException") (wm_X12_onePass 2 rfl)) (hts (.initialized "java/lang/IllegalStateException") (wm_X12_onePass 3 rfl)) hat9 (by decide +kernel) hZ9.1 hZ9.2 hS (hl.1.trans hml.symm) dX12_onePass_10 dX12_onePass_13 dX12_onePass_14 dX12_onePass_17 hout (by decide) (by decide) h_1 h_2 hlocks (fun t9 ha9 hz9 hk9 => ⟨(), trivial, ⟨rfl, (xz_keep hS hP9 hz9 hk9).1, va_K.moved ha9 hK9, hD9⟩, (xz_keep hS hP9 hz9 hk9).2⟩) hS.2.2 (by decide) (by decide)

abbrev ax_X12_records (dC : Nat → ClassId) (dI : Nat → Nat → Nat) (A : Nat → Prop) (h0 h4 : Nat) (k1 : Int32) (g1 : Int64) (a0 a1 a2 a3 a5 a6 a7 a8 b0 b2 b3 b4 b5 b6 b7 b8 b9 b10 b11 b12 b13 : Value) (E : String) (_ : Unit) (t : State) : Prop := E = "java/lang/IndexOutOfBoundsException" ∧ va_P (dC, dI) vwCl [(h0, .inr (12, [a0, a1, a2, a3, .ref h4, a5, a6, a7, a8])), (h4, .inr (4, [b0, .int 0, b2, b3, b4, b5, b6, b7, b8, b9, b10, b11, b12, b13]))] t.heap ∧ va_K (dC, dI) vwCl [] t ∧ va_D A [(h0, .inr (12, [a0, a1, a2, a3, .ref h4, a5, a6, a7, a8])), (h4, .inr (4, [b0, .int 0, b2, b3, b4, b5, b6, b7, b8, b9, b10, b11, b12, b13]))]
theorem dX12_records_0 : decode cX12_records 0 = .ok (.iload_n 1, 1) := by decide +kernel
theorem dX12_records_1 : decode cX12_records 1 = .ok (.ifCond .lt 14, 3) := by decide +kernel
theorem dX12_records_4 : decode cX12_records 4 = .ok (.iload_n 1, 1) := by decide +kernel
theorem dX12_records_5 : decode cX12_records 5 = .ok (.aload_n 0, 1) := by decide +kernel
theorem dX12_records_6 : decode cX12_records 6 = .ok (.getfield 30, 3) := by decide +kernel
theorem dX12_records_9 : decode cX12_records 9 = .ok (.getfield 89, 3) := by decide +kernel
theorem dX12_records_12 : decode cX12_records 12 = .ok (.if_icmp .lt 11, 3) := by decide +kernel
theorem dX12_records_15 : decode cX12_records 15 = .ok (.new 92, 3) := by decide +kernel
theorem dX12_records_18 : decode cX12_records 18 = .ok (.dup, 1) := by decide +kernel
theorem dX12_records_19 : decode cX12_records 19 = .ok (.invokespecial 94, 3) := by decide +kernel
theorem dX12_records_22 : decode cX12_records 22 = .ok (.athrow, 1) := by decide +kernel
def ww_X12_records : List Cond := [.classLink RX12 92 "java/lang/IndexOutOfBoundsException", .initialized "java/lang/IndexOutOfBoundsException", .fieldLink RX12 30 "StreamHouse" "current" "LStreamHouse$Job;", .fieldLink RX12 89 "StreamHouse$Job" "count" "I"]
def wv_X12_records : List Cond := .code yX12_records cX12_records 4 (some .int) :: (ww_X12_records ++ ((vx_at0 RX12 94 "java/lang/IndexOutOfBoundsException" ["java/lang/RuntimeException", "java/lang/Exception"]).filter goodWord ++ (u_ws RX12 TX12 9 ++ (u_ws RX4 TX4 14 ++ []))))
theorem wm_X12_records {w : Cond} (i : Nat) (h : ww_X12_records[i]? = some w) : w ∈ wv_X12_records := List.mem_cons_of_mem _ (List.mem_append_left _ (List.mem_of_getElem? h))
set_option maxRecDepth 100000 in
theorem gw_X12_records : wv_X12_records.all goodWord = true := by decide +kernel
theorem wx_X12_records_94 : ∀ w ∈ (vx_at0 RX12 94 "java/lang/IndexOutOfBoundsException" ["java/lang/RuntimeException", "java/lang/Exception"]).filter goodWord, w ∈ wv_X12_records := fun w h => List.mem_cons_of_mem _ (List.mem_append_right _ (List.mem_append_left _ h))
theorem wh_X12_records_X12 : ∀ w ∈ u_ws RX12 TX12 9, w ∈ wv_X12_records := fun w h => List.mem_cons_of_mem _ (List.mem_append_right _ (List.mem_append_right _ (List.mem_append_left _ h)))
theorem wh_X12_records_X4 : ∀ w ∈ u_ws RX4 TX4 14, w ∈ wv_X12_records := fun w h => List.mem_cons_of_mem _ (List.mem_append_right _ (List.mem_append_right _ (List.mem_append_right _ (List.mem_append_left _ h))))
set_option maxHeartbeats 4000000 in
set_option maxRecDepth 100000 in
/-- records(k, key) where there is no job: IndexOutOfBoundsException -/
theorem x_X12_records (l : Launch) (hl0 : l.stackTraces = false) (dC : Nat → ClassId) (dI : Nat → Nat → Nat) (h0 h4 : Nat) (k1 : Int32) (g1 : Int64) (a0 a1 a2 a3 a5 a6 a7 a8 b0 b2 b3 b4 b5 b6 b7 b8 b9 b10 b11 b12 b13 : Value) (sz : Nat) : vx_Met l yX12_records wv_X12_records ({ frames := 6, cells := 1, slots := 6, locals := 81 }) (va_Pc [.ref h0, .int k1, .long g1] (fun U => U.heap.size = sz ∧ va_P (dC, dI) vwCl [(h0, .inr (12, [a0, a1, a2, a3, .ref h4, a5, a6, a7, a8])), (h4, .inr (4, [b0, .int 0, b2, b3, b4, b5, b6, b7, b8, b9, b10, b11, b12, b13]))] U.heap ∧ va_K (dC, dI) vwCl [] U ∧ va_D (fun _ => True) [(h0, .inr (12, [a0, a1, a2, a3, .ref h4, a5, a6, a7, a8])), (h4, .inr (4, [b0, .int 0, b2, b3, b4, b5, b6, b7, b8, b9, b10, b11, b12, b13]))] ∧ xz_F U ∧ xz_Z (va_A [(h0, .inr (12, [a0, a1, a2, a3, .ref h4, a5, a6, a7, a8])), (h4, .inr (4, [b0, .int 0, b2, b3, b4, b5, b6, b7, b8, b9, b10, b11, b12, b13]))] sz) U U.heap)) (va_Qi (fun _ (_ : Unit) => False) (fun _ _ => True) (va_A [(h0, .inr (12, [a0, a1, a2, a3, .ref h4, a5, a6, a7, a8])), (h4, .inr (4, [b0, .int 0, b2, b3, b4, b5, b6, b7, b8, b9, b10, b11, b12, b13]))] sz)) (vx_X (fun _ : Unit => True) (ax_X12_records dC dI (va_A [(h0, .inr (12, [a0, a1, a2, a3, .ref h4, a5, a6, a7, a8])), (h4, .inr (4, [b0, .int 0, b2, b3, b4, b5, b6, b7, b8, b9, b10, b11, b12, b13]))] sz) h0 h4 k1 g1 a0 a1 a2 a3 a5 a6 a7 a8 b0 b2 b3 b4 b5 b6 b7 b8 b9 b10 b11 b12 b13) (va_A [(h0, .inr (12, [a0, a1, a2, a3, .ref h4, a5, a6, a7, a8])), (h4, .inr (4, [b0, .int 0, b2, b3, b4, b5, b6, b7, b8, b9, b10, b11, b12, b13]))] sz)) 1 6 (va_A [(h0, .inr (12, [a0, a1, a2, a3, .ref h4, a5, a6, a7, a8])), (h4, .inr (4, [b0, .int 0, b2, b3, b4, b5, b6, b7, b8, b9, b10, b11, b12, b13]))] sz) := by
  refine vx_ofW (cc := cX12_records) (maxL := 4) (ret := (some .int)) (by decide) rfl ?_
  intro p e s m args below meth c s₁ B hml hex hv
  obtain ⟨rfl, hsz, hP, hK, hD0, hF9, hZ9⟩ := hv
  have hx := B.exec
  have hb := B.bytes
  have hr := B.returns
  have hts := atoms_spec (ws := wv_X12_records) B.pre
  have hown : s.vm.findClass RX12 = some m.cls := findClass_of_methodNamed B.named
  have hlocks := B.notSynchronized
  subst hsz
  have hD := hD0.self (sz := s.heap.size)
  generalize hAe : va_A [(h0, .inr (12, [a0, a1, a2, a3, .ref h4, a5, a6, a7, a8])), (h4, .inr (4, [b0, .int 0, b2, b3, b4, b5, b6, b7, b8, b9, b10, b11, b12, b13]))] s.heap.size = A at hD hZ9 ⊢
  have hA : ∀ q : Nat, s.heap.size ≤ q → A q := fun q h => by rw [← hAe]; exact Or.inr h
  have hS : va_S A s.heap s.heap [] := va_S.rf
  have hP : va_P (dC, dI) vwCl [(h0, .inr (12, [a0, a1, a2, a3, .ref h4, a5, a6, a7, a8])), (h4, .inr (4, [b0, .int 0, b2, b3, b4, b5, b6, b7, b8, b9, b10, b11, b12, b13]))] s.heap := hP
  have hl := lv_entry ([.ref h0, .int k1, .long g1]) (n := 4) (Nat.le_of_ble_eq_true rfl)
  rw [lg_entry_eq]
  generalize (lg_sl ([.ref h0, .int k1, .long g1]) ++ List.replicate (4 - (lg_sl ([.ref h0, .int k1, .long g1])).length) Slot.unset).toArray = ls at hl ⊢
  have hl : lv_has ls 4 [(0, .ref h0), (1, .int k1), (2, .long g1)] := hl
  have hout : ∀ {k : Nat}, ∀ x ∈ c.exceptionTable.toList, covers x k = false := fun x h => (hex x h).elim
  refine lv_iload_n hx hb dX12_records_0 rfl (lv_at hl 1 rfl) ?_
  refine lv_if_lt (tgt := 15) hx hb dX12_records_1 (by decide) (fun hc => ?_) (fun hc => ?_)
  · have h_1 : 1 ≤ 1 := by decide
    have h_2 : 6 ≤ 6 := by decide
    have hat9 : ∀ w ∈ vx_at0 RX12 94 "java/lang/IndexOutOfBoundsException" ["java/lang/RuntimeException", "java/lang/Exception"], w.before _ s = true := vx_hat (B := [.declares (Bundle.init0 "java/lang/RuntimeException"), .declares (Bundle.init0 "java/lang/Exception"), .declares (Bundle.init0 Bundle.tN), .castable "java/lang/IndexOutOfBoundsException" "java/lang/IndexOutOfBoundsException"]) (fun w hw => hts w (wx_X12_records_94 w hw)) (by decide +kernel) (vx_c (va_Nw.use rfl hF9.1) (vx_c (va_Nw.use rfl hF9.2.1) (vx_c (va_Nw.use rfl hF9.2.2.1) (vx_c (va_Nw.use rfl hF9.2.2.2.2.2.1) vx_n))))
    have hP9 := hP.sub (ws' := [(h0, .inr (12, [a0, a1, a2, a3, .ref h4, a5, a6, a7, a8])), (h4, .inr (4, [b0, .int 0, b2, b3, b4, b5, b6, b7, b8, b9, b10, b11, b12, b13]))]) [0, 1] rfl
    have hD9 := hD.sub (ws' := [(h0, .inr (12, [a0, a1, a2, a3, .ref h4, a5, a6, a7, a8])), (h4, .inr (4, [b0, .int 0, b2, b3, b4, b5, b6, b7, b8, b9, b10, b11, b12, b13]))]) [0, 1] (by decide) rfl
    have hK9 := hK.sub (tys' := []) [] rfl
    exact vx_throw0 (A := A) hx hb hl0 hown (by decide +kernel) (by decide +kernel) (hts (.classLink RX12 92 "java/lang/IndexOutOfBoundsException") (wm_X12_records 0 rfl)) (hts (.initialized "java/lang/IndexOutOfBoundsException") (wm_X12_records 1 rfl)) hat9 (by decide +kernel) hZ9.1 hZ9.2 hS (hl.1.trans hml.symm) dX12_records_15 dX12_records_18 dX12_records_19 dX12_records_22 hout (by decide) (by decide) h_1 h_2 hlocks (fun t9 ha9 hz9 hk9 => ⟨(), trivial, ⟨rfl, (xz_keep hS hP9 hz9 hk9).1, va_K.moved ha9 hK9, hD9⟩, (xz_keep hS hP9 hz9 hk9).2⟩) hS.2.2 (by decide) (by decide)
  · refine lv_iload_n hx hb dX12_records_4 rfl (lv_at hl 1 rfl) ?_
    refine lv_aload_n hx hb dX12_records_5 rfl (lv_at hl 0 rfl) ?_
    refine va_get (D := (dC, dI)) (ci := 12) (v := .ref h4) (C := RX12) (T := TX12) (N := 9) hx hb hts wh_X12_records_X12 hown hK hP 0 rfl rfl 4 (by decide) (hts (.fieldLink RX12 30 "StreamHouse" "current" "LStreamHouse$Job;") (wm_X12_records 2 rfl)) (fun _ h9 => h9) rfl dX12_records_6 ?_
    refine va_get (D := (dC, dI)) (ci := 4) (v := .int 0) (C := RX4) (T := TX4) (N := 14) hx hb hts wh_X12_records_X4 hown hK hP 1 rfl rfl 1 (by decide) (hts (.fieldLink RX12 89 "StreamHouse$Job" "count" "I") (wm_X12_records 3 rfl)) (fun _ h9 => h9) rfl dX12_records_9 ?_
    refine lv_icmp_lt (tgt := 23) hx hb dX12_records_12 (by decide) (fun h9 => absurd h9 hc) (fun _ => ?_)
    have h_3 : 1 ≤ 1 := by decide
    have h_4 : 6 ≤ 6 := by decide
    have hat9 : ∀ w ∈ vx_at0 RX12 94 "java/lang/IndexOutOfBoundsException" ["java/lang/RuntimeException", "java/lang/Exception"], w.before _ s = true := vx_hat (B := [.declares (Bundle.init0 "java/lang/RuntimeException"), .declares (Bundle.init0 "java/lang/Exception"), .declares (Bundle.init0 Bundle.tN), .castable "java/lang/IndexOutOfBoundsException" "java/lang/IndexOutOfBoundsException"]) (fun w hw => hts w (wx_X12_records_94 w hw)) (by decide +kernel) (vx_c (va_Nw.use rfl hF9.1) (vx_c (va_Nw.use rfl hF9.2.1) (vx_c (va_Nw.use rfl hF9.2.2.1) (vx_c (va_Nw.use rfl hF9.2.2.2.2.2.1) vx_n))))
    have hP9 := hP.sub (ws' := [(h0, .inr (12, [a0, a1, a2, a3, .ref h4, a5, a6, a7, a8])), (h4, .inr (4, [b0, .int 0, b2, b3, b4, b5, b6, b7, b8, b9, b10, b11, b12, b13]))]) [0, 1] rfl
    have hD9 := hD.sub (ws' := [(h0, .inr (12, [a0, a1, a2, a3, .ref h4, a5, a6, a7, a8])), (h4, .inr (4, [b0, .int 0, b2, b3, b4, b5, b6, b7, b8, b9, b10, b11, b12, b13]))]) [0, 1] (by decide) rfl
    have hK9 := hK.sub (tys' := []) [] rfl
    exact vx_throw0 (A := A) hx hb hl0 hown (by decide +kernel) (by decide +kernel) (hts (.classLink RX12 92 "java/lang/IndexOutOfBoundsException") (wm_X12_records 0 rfl)) (hts (.initialized "java/lang/IndexOutOfBoundsException") (wm_X12_records 1 rfl)) hat9 (by decide +kernel) hZ9.1 hZ9.2 hS (hl.1.trans hml.symm) dX12_records_15 dX12_records_18 dX12_records_19 dX12_records_22 hout (by decide) (by decide) h_3 h_4 hlocks (fun t9 ha9 hz9 hk9 => ⟨(), trivial, ⟨rfl, (xz_keep hS hP9 hz9 hk9).1, va_K.moved ha9 hK9, hD9⟩, (xz_keep hS hP9 hz9 hk9).2⟩) hS.2.2 (by decide) (by decide)

abbrev ax_X12_task (dC : Nat → ClassId) (dI : Nat → Nat → Nat) (A : Nat → Prop) (h0 h7 : Nat) (k1 k2 : Int32) (a0 a1 a2 a3 a4 a5 a6 a8 b0 b1 b2 b3 b4 b5 b6 b7 b8 b9 b11 b12 b13 b14 b15 b16 b17 b18 b19 : Value) (E : String) (_ : Unit) (t : State) : Prop := E = "java/lang/IndexOutOfBoundsException" ∧ va_P (dC, dI) vwCl [(h0, .inr (12, [a0, a1, a2, a3, a4, a5, a6, .ref h7, a8])), (h7, .inr (9, [b0, b1, b2, b3, b4, b5, b6, b7, b8, b9, .int 0, b11, b12, b13, b14, b15, b16, b17, b18, b19]))] t.heap ∧ va_K (dC, dI) vwCl [] t ∧ va_D A [(h0, .inr (12, [a0, a1, a2, a3, a4, a5, a6, .ref h7, a8])), (h7, .inr (9, [b0, b1, b2, b3, b4, b5, b6, b7, b8, b9, .int 0, b11, b12, b13, b14, b15, b16, b17, b18, b19]))]
theorem dX12_task_0 : decode cX12_task 0 = .ok (.iload_n 1, 1) := by decide +kernel
theorem dX12_task_1 : decode cX12_task 1 = .ok (.ifCond .lt 14, 3) := by decide +kernel
theorem dX12_task_4 : decode cX12_task 4 = .ok (.iload_n 1, 1) := by decide +kernel
theorem dX12_task_5 : decode cX12_task 5 = .ok (.aload_n 0, 1) := by decide +kernel
theorem dX12_task_6 : decode cX12_task 6 = .ok (.getfield 49, 3) := by decide +kernel
theorem dX12_task_9 : decode cX12_task 9 = .ok (.getfield 137, 3) := by decide +kernel
theorem dX12_task_12 : decode cX12_task 12 = .ok (.if_icmp .lt 11, 3) := by decide +kernel
theorem dX12_task_15 : decode cX12_task 15 = .ok (.new 92, 3) := by decide +kernel
theorem dX12_task_18 : decode cX12_task 18 = .ok (.dup, 1) := by decide +kernel
theorem dX12_task_19 : decode cX12_task 19 = .ok (.invokespecial 94, 3) := by decide +kernel
theorem dX12_task_22 : decode cX12_task 22 = .ok (.athrow, 1) := by decide +kernel
def ww_X12_task : List Cond := [.classLink RX12 92 "java/lang/IndexOutOfBoundsException", .initialized "java/lang/IndexOutOfBoundsException", .fieldLink RX12 49 "StreamHouse" "run" "LStreamHouse$Run;", .fieldLink RX12 137 "StreamHouse$Run" "taskCount" "I"]
def wv_X12_task : List Cond := .code yX12_task cX12_task 3 (some .long) :: (ww_X12_task ++ ((vx_at0 RX12 94 "java/lang/IndexOutOfBoundsException" ["java/lang/RuntimeException", "java/lang/Exception"]).filter goodWord ++ (u_ws RX12 TX12 9 ++ (u_ws RX9 TX9 20 ++ []))))
theorem wm_X12_task {w : Cond} (i : Nat) (h : ww_X12_task[i]? = some w) : w ∈ wv_X12_task := List.mem_cons_of_mem _ (List.mem_append_left _ (List.mem_of_getElem? h))
set_option maxRecDepth 100000 in
theorem gw_X12_task : wv_X12_task.all goodWord = true := by decide +kernel
theorem wx_X12_task_94 : ∀ w ∈ (vx_at0 RX12 94 "java/lang/IndexOutOfBoundsException" ["java/lang/RuntimeException", "java/lang/Exception"]).filter goodWord, w ∈ wv_X12_task := fun w h => List.mem_cons_of_mem _ (List.mem_append_right _ (List.mem_append_left _ h))
theorem wh_X12_task_X12 : ∀ w ∈ u_ws RX12 TX12 9, w ∈ wv_X12_task := fun w h => List.mem_cons_of_mem _ (List.mem_append_right _ (List.mem_append_right _ (List.mem_append_left _ h)))
theorem wh_X12_task_X9 : ∀ w ∈ u_ws RX9 TX9 20, w ∈ wv_X12_task := fun w h => List.mem_cons_of_mem _ (List.mem_append_right _ (List.mem_append_right _ (List.mem_append_right _ (List.mem_append_left _ h))))
set_option maxHeartbeats 4000000 in
set_option maxRecDepth 100000 in
/-- task(k, what) where there is no run: IndexOutOfBoundsException -/
theorem x_X12_task (l : Launch) (hl0 : l.stackTraces = false) (dC : Nat → ClassId) (dI : Nat → Nat → Nat) (h0 h7 : Nat) (k1 k2 : Int32) (a0 a1 a2 a3 a4 a5 a6 a8 b0 b1 b2 b3 b4 b5 b6 b7 b8 b9 b11 b12 b13 b14 b15 b16 b17 b18 b19 : Value) (sz : Nat) : vx_Met l yX12_task wv_X12_task ({ frames := 6, cells := 1, slots := 6, locals := 81 }) (va_Pc [.ref h0, .int k1, .int k2] (fun U => U.heap.size = sz ∧ va_P (dC, dI) vwCl [(h0, .inr (12, [a0, a1, a2, a3, a4, a5, a6, .ref h7, a8])), (h7, .inr (9, [b0, b1, b2, b3, b4, b5, b6, b7, b8, b9, .int 0, b11, b12, b13, b14, b15, b16, b17, b18, b19]))] U.heap ∧ va_K (dC, dI) vwCl [] U ∧ va_D (fun _ => True) [(h0, .inr (12, [a0, a1, a2, a3, a4, a5, a6, .ref h7, a8])), (h7, .inr (9, [b0, b1, b2, b3, b4, b5, b6, b7, b8, b9, .int 0, b11, b12, b13, b14, b15, b16, b17, b18, b19]))] ∧ xz_F U ∧ xz_Z (va_A [(h0, .inr (12, [a0, a1, a2, a3, a4, a5, a6, .ref h7, a8])), (h7, .inr (9, [b0, b1, b2, b3, b4, b5, b6, b7, b8, b9, .int 0, b11, b12, b13, b14, b15, b16, b17, b18, b19]))] sz) U U.heap)) (va_Ql (fun _ (_ : Unit) => False) (fun _ _ => True) (va_A [(h0, .inr (12, [a0, a1, a2, a3, a4, a5, a6, .ref h7, a8])), (h7, .inr (9, [b0, b1, b2, b3, b4, b5, b6, b7, b8, b9, .int 0, b11, b12, b13, b14, b15, b16, b17, b18, b19]))] sz)) (vx_X (fun _ : Unit => True) (ax_X12_task dC dI (va_A [(h0, .inr (12, [a0, a1, a2, a3, a4, a5, a6, .ref h7, a8])), (h7, .inr (9, [b0, b1, b2, b3, b4, b5, b6, b7, b8, b9, .int 0, b11, b12, b13, b14, b15, b16, b17, b18, b19]))] sz) h0 h7 k1 k2 a0 a1 a2 a3 a4 a5 a6 a8 b0 b1 b2 b3 b4 b5 b6 b7 b8 b9 b11 b12 b13 b14 b15 b16 b17 b18 b19) (va_A [(h0, .inr (12, [a0, a1, a2, a3, a4, a5, a6, .ref h7, a8])), (h7, .inr (9, [b0, b1, b2, b3, b4, b5, b6, b7, b8, b9, .int 0, b11, b12, b13, b14, b15, b16, b17, b18, b19]))] sz)) 1 6 (va_A [(h0, .inr (12, [a0, a1, a2, a3, a4, a5, a6, .ref h7, a8])), (h7, .inr (9, [b0, b1, b2, b3, b4, b5, b6, b7, b8, b9, .int 0, b11, b12, b13, b14, b15, b16, b17, b18, b19]))] sz) := by
  refine vx_ofW (cc := cX12_task) (maxL := 3) (ret := (some .long)) (by decide) rfl ?_
  intro p e s m args below meth c s₁ B hml hex hv
  obtain ⟨rfl, hsz, hP, hK, hD0, hF9, hZ9⟩ := hv
  have hx := B.exec
  have hb := B.bytes
  have hr := B.returns
  have hts := atoms_spec (ws := wv_X12_task) B.pre
  have hown : s.vm.findClass RX12 = some m.cls := findClass_of_methodNamed B.named
  have hlocks := B.notSynchronized
  subst hsz
  have hD := hD0.self (sz := s.heap.size)
  generalize hAe : va_A [(h0, .inr (12, [a0, a1, a2, a3, a4, a5, a6, .ref h7, a8])), (h7, .inr (9, [b0, b1, b2, b3, b4, b5, b6, b7, b8, b9, .int 0, b11, b12, b13, b14, b15, b16, b17, b18, b19]))] s.heap.size = A at hD hZ9 ⊢
  have hA : ∀ q : Nat, s.heap.size ≤ q → A q := fun q h => by rw [← hAe]; exact Or.inr h
  have hS : va_S A s.heap s.heap [] := va_S.rf
  have hP : va_P (dC, dI) vwCl [(h0, .inr (12, [a0, a1, a2, a3, a4, a5, a6, .ref h7, a8])), (h7, .inr (9, [b0, b1, b2, b3, b4, b5, b6, b7, b8, b9, .int 0, b11, b12, b13, b14, b15, b16, b17, b18, b19]))] s.heap := hP
  have hl := lv_entry ([.ref h0, .int k1, .int k2]) (n := 3) (Nat.le_of_ble_eq_true rfl)
  rw [lg_entry_eq]
  generalize (lg_sl ([.ref h0, .int k1, .int k2]) ++ List.replicate (3 - (lg_sl ([.ref h0, .int k1, .int k2])).length) Slot.unset).toArray = ls at hl ⊢
  have hl : lv_has ls 3 [(0, .ref h0), (1, .int k1), (2, .int k2)] := hl
  have hout : ∀ {k : Nat}, ∀ x ∈ c.exceptionTable.toList, covers x k = false := fun x h => (hex x h).elim
  refine lv_iload_n hx hb dX12_task_0 rfl (lv_at hl 1 rfl) ?_
  refine lv_if_lt (tgt := 15) hx hb dX12_task_1 (by decide) (fun hc => ?_) (fun hc => ?_)
  · have h_1 : 1 ≤ 1 := by decide
    have h_2 : 6 ≤ 6 := by decide
    have hat9 : ∀ w ∈ vx_at0 RX12 94 "java/lang/IndexOutOfBoundsException" ["java/lang/RuntimeException", "java/lang/Exception"], w.before _ s = true := vx_hat (B := [.declares (Bundle.init0 "java/lang/RuntimeException"), .declares (Bundle.init0 "java/lang/Exception"), .declares (Bundle.init0 Bundle.tN), .castable "java/lang/IndexOutOfBoundsException" "java/lang/IndexOutOfBoundsException"]) (fun w hw => hts w (wx_X12_task_94 w hw)) (by decide +kernel) (vx_c (va_Nw.use rfl hF9.1) (vx_c (va_Nw.use rfl hF9.2.1) (vx_c (va_Nw.use rfl hF9.2.2.1) (vx_c (va_Nw.use rfl hF9.2.2.2.2.2.1) vx_n))))
    have hP9 := hP.sub (ws' := [(h0, .inr (12, [a0, a1, a2, a3, a4, a5, a6, .ref h7, a8])), (h7, .inr (9, [b0, b1, b2, b3, b4, b5, b6, b7, b8, b9, .int 0, b11, b12, b13, b14, b15, b16, b17, b18, b19]))]) [0, 1] rfl
    have hD9 := hD.sub (ws' := [(h0, .inr (12, [a0, a1, a2, a3, a4, a5, a6, .ref h7, a8])), (h7, .inr (9, [b0, b1, b2, b3, b4, b5, b6, b7, b8, b9, .int 0, b11, b12, b13, b14, b15, b16, b17, b18, b19]))]) [0, 1] (by decide) rfl
    have hK9 := hK.sub (tys' := []) [] rfl
    exact vx_throw0 (A := A) hx hb hl0 hown (by decide +kernel) (by decide +kernel) (hts (.classLink RX12 92 "java/lang/IndexOutOfBoundsException") (wm_X12_task 0 rfl)) (hts (.initialized "java/lang/IndexOutOfBoundsException") (wm_X12_task 1 rfl)) hat9 (by decide +kernel) hZ9.1 hZ9.2 hS (hl.1.trans hml.symm) dX12_task_15 dX12_task_18 dX12_task_19 dX12_task_22 hout (by decide) (by decide) h_1 h_2 hlocks (fun t9 ha9 hz9 hk9 => ⟨(), trivial, ⟨rfl, (xz_keep hS hP9 hz9 hk9).1, va_K.moved ha9 hK9, hD9⟩, (xz_keep hS hP9 hz9 hk9).2⟩) hS.2.2 (by decide) (by decide)
  · refine lv_iload_n hx hb dX12_task_4 rfl (lv_at hl 1 rfl) ?_
    refine lv_aload_n hx hb dX12_task_5 rfl (lv_at hl 0 rfl) ?_
    refine va_get (D := (dC, dI)) (ci := 12) (v := .ref h7) (C := RX12) (T := TX12) (N := 9) hx hb hts wh_X12_task_X12 hown hK hP 0 rfl rfl 7 (by decide) (hts (.fieldLink RX12 49 "StreamHouse" "run" "LStreamHouse$Run;") (wm_X12_task 2 rfl)) (fun _ h9 => h9) rfl dX12_task_6 ?_
    refine va_get (D := (dC, dI)) (ci := 9) (v := .int 0) (C := RX9) (T := TX9) (N := 20) hx hb hts wh_X12_task_X9 hown hK hP 1 rfl rfl 10 (by decide) (hts (.fieldLink RX12 137 "StreamHouse$Run" "taskCount" "I") (wm_X12_task 3 rfl)) (fun _ h9 => h9) rfl dX12_task_9 ?_
    refine lv_icmp_lt (tgt := 23) hx hb dX12_task_12 (by decide) (fun h9 => absurd h9 hc) (fun _ => ?_)
    have h_3 : 1 ≤ 1 := by decide
    have h_4 : 6 ≤ 6 := by decide
    have hat9 : ∀ w ∈ vx_at0 RX12 94 "java/lang/IndexOutOfBoundsException" ["java/lang/RuntimeException", "java/lang/Exception"], w.before _ s = true := vx_hat (B := [.declares (Bundle.init0 "java/lang/RuntimeException"), .declares (Bundle.init0 "java/lang/Exception"), .declares (Bundle.init0 Bundle.tN), .castable "java/lang/IndexOutOfBoundsException" "java/lang/IndexOutOfBoundsException"]) (fun w hw => hts w (wx_X12_task_94 w hw)) (by decide +kernel) (vx_c (va_Nw.use rfl hF9.1) (vx_c (va_Nw.use rfl hF9.2.1) (vx_c (va_Nw.use rfl hF9.2.2.1) (vx_c (va_Nw.use rfl hF9.2.2.2.2.2.1) vx_n))))
    have hP9 := hP.sub (ws' := [(h0, .inr (12, [a0, a1, a2, a3, a4, a5, a6, .ref h7, a8])), (h7, .inr (9, [b0, b1, b2, b3, b4, b5, b6, b7, b8, b9, .int 0, b11, b12, b13, b14, b15, b16, b17, b18, b19]))]) [0, 1] rfl
    have hD9 := hD.sub (ws' := [(h0, .inr (12, [a0, a1, a2, a3, a4, a5, a6, .ref h7, a8])), (h7, .inr (9, [b0, b1, b2, b3, b4, b5, b6, b7, b8, b9, .int 0, b11, b12, b13, b14, b15, b16, b17, b18, b19]))]) [0, 1] (by decide) rfl
    have hK9 := hK.sub (tys' := []) [] rfl
    exact vx_throw0 (A := A) hx hb hl0 hown (by decide +kernel) (by decide +kernel) (hts (.classLink RX12 92 "java/lang/IndexOutOfBoundsException") (wm_X12_task 0 rfl)) (hts (.initialized "java/lang/IndexOutOfBoundsException") (wm_X12_task 1 rfl)) hat9 (by decide +kernel) hZ9.1 hZ9.2 hS (hl.1.trans hml.symm) dX12_task_15 dX12_task_18 dX12_task_19 dX12_task_22 hout (by decide) (by decide) h_3 h_4 hlocks (fun t9 ha9 hz9 hk9 => ⟨(), trivial, ⟨rfl, (xz_keep hS hP9 hz9 hk9).1, va_K.moved ha9 hK9, hD9⟩, (xz_keep hS hP9 hz9 hk9).2⟩) hS.2.2 (by decide) (by decide)

abbrev ax_X12_mark (dC : Nat → ClassId) (dI : Nat → Nat → Nat) (A : Nat → Prop) (h0 h7 : Nat) (a0 a1 a2 a3 a4 a5 a6 a8 b0 b1 b2 b3 b4 b5 b6 b7 b8 b9 b11 b12 b13 b14 b15 b16 b17 b18 b19 : Value) (E : String) (_ : Unit) (t : State) : Prop := E = "java/lang/IllegalStateException" ∧ va_P (dC, dI) vwCl [(h0, .inr (12, [a0, a1, a2, a3, a4, a5, a6, .ref h7, a8])), (h7, .inr (9, [b0, b1, b2, b3, b4, b5, b6, b7, b8, b9, .int 0, b11, b12, b13, b14, b15, b16, b17, b18, b19]))] t.heap ∧ va_K (dC, dI) vwCl [] t ∧ va_D A [(h0, .inr (12, [a0, a1, a2, a3, a4, a5, a6, .ref h7, a8])), (h7, .inr (9, [b0, b1, b2, b3, b4, b5, b6, b7, b8, b9, .int 0, b11, b12, b13, b14, b15, b16, b17, b18, b19]))]
theorem dX12_mark_0 : decode cX12_mark 0 = .ok (.aload_n 0, 1) := by decide +kernel
theorem dX12_mark_1 : decode cX12_mark 1 = .ok (.invokevirtual 140, 3) := by decide +kernel
def ww_X12_mark : List Cond := [.methodLink RX12 140 yX12_needRun, .instanceMethod yX12_needRun, .selects RX12 yX12_needRun yX12_needRun, .initialized RX12]
def wv_X12_mark : List Cond := .code yX12_mark cX12_mark 1 (some .int) :: (ww_X12_mark ++ (wv_X12_needRun ++ []))
theorem wm_X12_mark {w : Cond} (i : Nat) (h : ww_X12_mark[i]? = some w) : w ∈ wv_X12_mark := List.mem_cons_of_mem _ (List.mem_append_left _ (List.mem_of_getElem? h))
set_option maxRecDepth 100000 in
theorem gw_X12_mark : wv_X12_mark.all goodWord = true := by decide +kernel
theorem wg_X12_mark_X12_needRun : GoodIn wv_X12_mark wv_X12_needRun := goodIn_sub (fun w h => List.mem_cons_of_mem _ (List.mem_append_right _ (List.mem_append_left _ h))) gw_X12_needRun
theorem wV_X12_mark_X12_needRun : GoodIn wv_X12_mark (wsV RX12 140 RX12 yX12_needRun wv_X12_needRun) := goodIn_app (goodIn_sub (fun w h => by simp only [List.mem_cons, List.not_mem_nil, or_false] at h; rcases h with rfl | rfl | rfl | rfl <;> first | exact wm_X12_mark 0 rfl | exact wm_X12_mark 1 rfl | exact wm_X12_mark 2 rfl | exact wm_X12_mark 3 rfl) (by decide +kernel)) wg_X12_mark_X12_needRun
set_option maxHeartbeats 4000000 in
set_option maxRecDepth 100000 in
/-- mark(..) where there is no run: IllegalStateException -/
theorem x_X12_mark (l : Launch) (hl0 : l.stackTraces = false) (dC : Nat → ClassId) (dI : Nat → Nat → Nat) (h0 h7 : Nat) (a0 a1 a2 a3 a4 a5 a6 a8 b0 b1 b2 b3 b4 b5 b6 b7 b8 b9 b11 b12 b13 b14 b15 b16 b17 b18 b19 : Value) (sz : Nat) : vx_Met l yX12_mark wv_X12_mark ({ frames := 7, cells := 1, slots := 6, locals := 101 }) (va_Pc [.ref h0] (fun U => U.heap.size = sz ∧ va_P (dC, dI) vwCl [(h0, .inr (12, [a0, a1, a2, a3, a4, a5, a6, .ref h7, a8])), (h7, .inr (9, [b0, b1, b2, b3, b4, b5, b6, b7, b8, b9, .int 0, b11, b12, b13, b14, b15, b16, b17, b18, b19]))] U.heap ∧ va_K (dC, dI) vwCl [] U ∧ va_D (fun _ => True) [(h0, .inr (12, [a0, a1, a2, a3, a4, a5, a6, .ref h7, a8])), (h7, .inr (9, [b0, b1, b2, b3, b4, b5, b6, b7, b8, b9, .int 0, b11, b12, b13, b14, b15, b16, b17, b18, b19]))] ∧ xz_F U ∧ xz_Z (va_A [(h0, .inr (12, [a0, a1, a2, a3, a4, a5, a6, .ref h7, a8])), (h7, .inr (9, [b0, b1, b2, b3, b4, b5, b6, b7, b8, b9, .int 0, b11, b12, b13, b14, b15, b16, b17, b18, b19]))] sz) U U.heap)) (va_Qi (fun _ (_ : Unit) => False) (fun _ _ => True) (va_A [(h0, .inr (12, [a0, a1, a2, a3, a4, a5, a6, .ref h7, a8])), (h7, .inr (9, [b0, b1, b2, b3, b4, b5, b6, b7, b8, b9, .int 0, b11, b12, b13, b14, b15, b16, b17, b18, b19]))] sz)) (vx_X (fun _ : Unit => True) (ax_X12_mark dC dI (va_A [(h0, .inr (12, [a0, a1, a2, a3, a4, a5, a6, .ref h7, a8])), (h7, .inr (9, [b0, b1, b2, b3, b4, b5, b6, b7, b8, b9, .int 0, b11, b12, b13, b14, b15, b16, b17, b18, b19]))] sz) h0 h7 a0 a1 a2 a3 a4 a5 a6 a8 b0 b1 b2 b3 b4 b5 b6 b7 b8 b9 b11 b12 b13 b14 b15 b16 b17 b18 b19) (va_A [(h0, .inr (12, [a0, a1, a2, a3, a4, a5, a6, .ref h7, a8])), (h7, .inr (9, [b0, b1, b2, b3, b4, b5, b6, b7, b8, b9, .int 0, b11, b12, b13, b14, b15, b16, b17, b18, b19]))] sz)) 1 6 (va_A [(h0, .inr (12, [a0, a1, a2, a3, a4, a5, a6, .ref h7, a8])), (h7, .inr (9, [b0, b1, b2, b3, b4, b5, b6, b7, b8, b9, .int 0, b11, b12, b13, b14, b15, b16, b17, b18, b19]))] sz) := by
  refine vx_ofW (cc := cX12_mark) (maxL := 1) (ret := (some .int)) (by decide) rfl ?_
  intro p e s m args below meth c s₁ B hml hex hv
  obtain ⟨rfl, hsz, hP, hK, hD0, hF9, hZ9⟩ := hv
  have hx := B.exec
  have hb := B.bytes
  have hr := B.returns
  have hts := atoms_spec (ws := wv_X12_mark) B.pre
  have hown : s.vm.findClass RX12 = some m.cls := findClass_of_methodNamed B.named
  have hlocks := B.notSynchronized
  subst hsz
  have hD := hD0.self (sz := s.heap.size)
  generalize hAe : va_A [(h0, .inr (12, [a0, a1, a2, a3, a4, a5, a6, .ref h7, a8])), (h7, .inr (9, [b0, b1, b2, b3, b4, b5, b6, b7, b8, b9, .int 0, b11, b12, b13, b14, b15, b16, b17, b18, b19]))] s.heap.size = A at hD hZ9 ⊢
  have hA : ∀ q : Nat, s.heap.size ≤ q → A q := fun q h => by rw [← hAe]; exact Or.inr h
  have hS : va_S A s.heap s.heap [] := va_S.rf
  have hP : va_P (dC, dI) vwCl [(h0, .inr (12, [a0, a1, a2, a3, a4, a5, a6, .ref h7, a8])), (h7, .inr (9, [b0, b1, b2, b3, b4, b5, b6, b7, b8, b9, .int 0, b11, b12, b13, b14, b15, b16, b17, b18, b19]))] s.heap := hP
  have hl := lv_entry ([.ref h0]) (n := 1) (Nat.le_of_ble_eq_true rfl)
  rw [lg_entry_eq]
  generalize (lg_sl ([.ref h0]) ++ List.replicate (1 - (lg_sl ([.ref h0])).length) Slot.unset).toArray = ls at hl ⊢
  have hl : lv_has ls 1 [(0, .ref h0)] := hl
  have hout : ∀ {k : Nat}, ∀ x ∈ c.exceptionTable.toList, covers x k = false := fun x h => (hex x h).elim
  refine lv_aload_n hx hb dX12_mark_0 rfl (lv_at hl 0 rfl) ?_
  have h_1 : 1 ≤ 1 := by decide
  have h_2 : 6 ≤ 6 := by decide
  have hPc := hP.sub (ws' := [(h0, .inr (12, [a0, a1, a2, a3, a4, a5, a6, .ref h7, a8])), (h7, .inr (9, [b0, b1, b2, b3, b4, b5, b6, b7, b8, b9, .int 0, b11, b12, b13, b14, b15, b16, b17, b18, b19]))]) [0, 1] rfl
  have hDc := hD.sub (ws' := [(h0, .inr (12, [a0, a1, a2, a3, a4, a5, a6, .ref h7, a8])), (h7, .inr (9, [b0, b1, b2, b3, b4, b5, b6, b7, b8, b9, .int 0, b11, b12, b13, b14, b15, b16, b17, b18, b19]))]) [0, 1] (by decide) rfl
  have hKc := hK.sub (tys' := []) [] rfl
  have hFc := va_free (wc := [(h0, .inr (12, [a0, a1, a2, a3, a4, a5, a6, .ref h7, a8])), (h7, .inr (9, [b0, b1, b2, b3, b4, b5, b6, b7, b8, b9, .int 0, b11, b12, b13, b14, b15, b16, b17, b18, b19]))]) hD hS hA [0, 1] rfl
  refine xz_callX (vx_runV (As := []) (rest := []) ⟨hx, hb, hml, hown, hts⟩ (x_X12_needRun l hl0 dC dI h0 h7 a0 a1 a2 a3 a4 a5 a6 a8 b0 b1 b2 b3 b4 b5 b6 b7 b8 b9 b11 b12 b13 b14 b15 b16 b17 b18 b19 _) (cwV 0 hts wV_X12_mark_X12_needRun rfl rfl rfl (by decide +kernel) ⟨Nat.le_of_ble_eq_true rfl, Nat.le_of_ble_eq_true rfl⟩) ⟨fun a U g mk q => by obtain ⟨q0, q1, qP, qK, qD, qF, qZ⟩ := q; exact ⟨q0, q1, qP, va_K.moved (u := U) (U := U.calling g mk a) (Vm.Alike.refl U.vm) qK, qD, xz_F.same rfl qF, xz_Z.same (Vm.Alike.refl U.vm) rfl qZ⟩, va_recv hKc hPc (ci := 12) (q0 := 0) rfl rfl, fun U hU hW => ⟨rfl, by rw [hU], by rw [hU]; exact hPc, va_K.moved hW.alike hKc, hDc.weaken (fun _ _ _ _ => trivial), xz_F.warm hW hF9, hZ9.to hS hFc hW.alike hU⟩⟩ rfl rfl hl.1 rfl (lv_room (Nat.le_of_ble_eq_true rfl)) dX12_mark_1 ⟨h_1, h_2⟩) (fun _ _ _ h9 => by obtain ⟨⟨_, h9⟩, _⟩ := h9; simp at h9) hS hFc (fun q _ h => hFc q h) (fun E ce q9 u t H1 locs ht hvm hw hB hz1 hk1 hS hce hcv hcl => ?_)
  obtain ⟨hE, hP1, hK1, hD1⟩ := hB
  subst hE
  rw [ht] at hP1
  have hK1 := va_K.moved hvm.symm hK1
  obtain ⟨hP, hD⟩ := va_join (wr := []) (w1 := [(h0, .inr (12, [a0, a1, a2, a3, a4, a5, a6, .ref h7, a8])), (h7, .inr (9, [b0, b1, b2, b3, b4, b5, b6, b7, b8, b9, .int 0, b11, b12, b13, b14, b15, b16, b17, b18, b19]))]) hP hD [0, 1] [] rfl rfl (by decide) (by decide) hk1 hFc hP1 hD1
  have hP9 := hP.sub (ws' := [(h0, .inr (12, [a0, a1, a2, a3, a4, a5, a6, .ref h7, a8])), (h7, .inr (9, [b0, b1, b2, b3, b4, b5, b6, b7, b8, b9, .int 0, b11, b12, b13, b14, b15, b16, b17, b18, b19]))]) [0, 1] rfl
  have hD9 := hD.sub (ws' := [(h0, .inr (12, [a0, a1, a2, a3, a4, a5, a6, .ref h7, a8])), (h7, .inr (9, [b0, b1, b2, b3, b4, b5, b6, b7, b8, b9, .int 0, b11, b12, b13, b14, b15, b16, b17, b18, b19]))]) [0, 1] (by decide) rfl
  have hK9 := hK.sub (tys' := []) [] rfl
  exact vx_out hout hlocks hce hcv hcl (fun t9 e9 a9 => ⟨(), trivial, ⟨rfl, by rw [e9]; exact hP9, va_K.moved a9 hK9, hD9⟩, hS.F e9⟩) hS.2.2 (by decide) (by decide)

abbrev ax_X12_fail (dC : Nat → ClassId) (dI : Nat → Nat → Nat) (A : Nat → Prop) (h0 h7 : Nat) (a0 a1 a2 a3 a4 a5 a6 a8 b0 b1 b2 b3 b4 b5 b6 b7 b8 b9 b11 b12 b13 b14 b15 b16 b17 b18 b19 : Value) (E : String) (_ : Unit) (t : State) : Prop := E = "java/lang/IllegalStateException" ∧ va_P (dC, dI) vwCl [(h0, .inr (12, [a0, a1, a2, a3, a4, a5, a6, .ref h7, a8])), (h7, .inr (9, [b0, b1, b2, b3, b4, b5, b6, b7, b8, b9, .int 0, b11, b12, b13, b14, b15, b16, b17, b18, b19]))] t.heap ∧ va_K (dC, dI) vwCl [] t ∧ va_D A [(h0, .inr (12, [a0, a1, a2, a3, a4, a5, a6, .ref h7, a8])), (h7, .inr (9, [b0, b1, b2, b3, b4, b5, b6, b7, b8, b9, .int 0, b11, b12, b13, b14, b15, b16, b17, b18, b19]))]
theorem dX12_fail_0 : decode cX12_fail 0 = .ok (.aload_n 0, 1) := by decide +kernel
theorem dX12_fail_1 : decode cX12_fail 1 = .ok (.invokevirtual 140, 3) := by decide +kernel
def ww_X12_fail : List Cond := [.methodLink RX12 140 yX12_needRun, .instanceMethod yX12_needRun, .selects RX12 yX12_needRun yX12_needRun, .initialized RX12]
def wv_X12_fail : List Cond := .code yX12_fail cX12_fail 1 (some .int) :: (ww_X12_fail ++ (wv_X12_needRun ++ []))
theorem wm_X12_fail {w : Cond} (i : Nat) (h : ww_X12_fail[i]? = some w) : w ∈ wv_X12_fail := List.mem_cons_of_mem _ (List.mem_append_left _ (List.mem_of_getElem? h))
set_option maxRecDepth 100000 in
theorem gw_X12_fail : wv_X12_fail.all goodWord = true := by decide +kernel
theorem wg_X12_fail_X12_needRun : GoodIn wv_X12_fail wv_X12_needRun := goodIn_sub (fun w h => List.mem_cons_of_mem _ (List.mem_append_right _ (List.mem_append_left _ h))) gw_X12_needRun
theorem wV_X12_fail_X12_needRun : GoodIn wv_X12_fail (wsV RX12 140 RX12 yX12_needRun wv_X12_needRun) := goodIn_app (goodIn_sub (fun w h => by simp only [List.mem_cons, List.not_mem_nil, or_false] at h; rcases h with rfl | rfl | rfl | rfl <;> first | exact wm_X12_fail 0 rfl | exact wm_X12_fail 1 rfl | exact wm_X12_fail 2 rfl | exact wm_X12_fail 3 rfl) (by decide +kernel)) wg_X12_fail_X12_needRun
set_option maxHeartbeats 4000000 in
set_option maxRecDepth 100000 in
/-- fail(..) where there is no run: IllegalStateException -/
theorem x_X12_fail (l : Launch) (hl0 : l.stackTraces = false) (dC : Nat → ClassId) (dI : Nat → Nat → Nat) (h0 h7 : Nat) (a0 a1 a2 a3 a4 a5 a6 a8 b0 b1 b2 b3 b4 b5 b6 b7 b8 b9 b11 b12 b13 b14 b15 b16 b17 b18 b19 : Value) (sz : Nat) : vx_Met l yX12_fail wv_X12_fail ({ frames := 7, cells := 1, slots := 6, locals := 101 }) (va_Pc [.ref h0] (fun U => U.heap.size = sz ∧ va_P (dC, dI) vwCl [(h0, .inr (12, [a0, a1, a2, a3, a4, a5, a6, .ref h7, a8])), (h7, .inr (9, [b0, b1, b2, b3, b4, b5, b6, b7, b8, b9, .int 0, b11, b12, b13, b14, b15, b16, b17, b18, b19]))] U.heap ∧ va_K (dC, dI) vwCl [] U ∧ va_D (fun _ => True) [(h0, .inr (12, [a0, a1, a2, a3, a4, a5, a6, .ref h7, a8])), (h7, .inr (9, [b0, b1, b2, b3, b4, b5, b6, b7, b8, b9, .int 0, b11, b12, b13, b14, b15, b16, b17, b18, b19]))] ∧ xz_F U ∧ xz_Z (va_A [(h0, .inr (12, [a0, a1, a2, a3, a4, a5, a6, .ref h7, a8])), (h7, .inr (9, [b0, b1, b2, b3, b4, b5, b6, b7, b8, b9, .int 0, b11, b12, b13, b14, b15, b16, b17, b18, b19]))] sz) U U.heap)) (va_Qi (fun _ (_ : Unit) => False) (fun _ _ => True) (va_A [(h0, .inr (12, [a0, a1, a2, a3, a4, a5, a6, .ref h7, a8])), (h7, .inr (9, [b0, b1, b2, b3, b4, b5, b6, b7, b8, b9, .int 0, b11, b12, b13, b14, b15, b16, b17, b18, b19]))] sz)) (vx_X (fun _ : Unit => True) (ax_X12_fail dC dI (va_A [(h0, .inr (12, [a0, a1, a2, a3, a4, a5, a6, .ref h7, a8])), (h7, .inr (9, [b0, b1, b2, b3, b4, b5, b6, b7, b8, b9, .int 0, b11, b12, b13, b14, b15, b16, b17, b18, b19]))] sz) h0 h7 a0 a1 a2 a3 a4 a5 a6 a8 b0 b1 b2 b3 b4 b5 b6 b7 b8 b9 b11 b12 b13 b14 b15 b16 b17 b18 b19) (va_A [(h0, .inr (12, [a0, a1, a2, a3, a4, a5, a6, .ref h7, a8])), (h7, .inr (9, [b0, b1, b2, b3, b4, b5, b6, b7, b8, b9, .int 0, b11, b12, b13, b14, b15, b16, b17, b18, b19]))] sz)) 1 6 (va_A [(h0, .inr (12, [a0, a1, a2, a3, a4, a5, a6, .ref h7, a8])), (h7, .inr (9, [b0, b1, b2, b3, b4, b5, b6, b7, b8, b9, .int 0, b11, b12, b13, b14, b15, b16, b17, b18, b19]))] sz) := by
  refine vx_ofW (cc := cX12_fail) (maxL := 1) (ret := (some .int)) (by decide) rfl ?_
  intro p e s m args below meth c s₁ B hml hex hv
  obtain ⟨rfl, hsz, hP, hK, hD0, hF9, hZ9⟩ := hv
  have hx := B.exec
  have hb := B.bytes
  have hr := B.returns
  have hts := atoms_spec (ws := wv_X12_fail) B.pre
  have hown : s.vm.findClass RX12 = some m.cls := findClass_of_methodNamed B.named
  have hlocks := B.notSynchronized
  subst hsz
  have hD := hD0.self (sz := s.heap.size)
  generalize hAe : va_A [(h0, .inr (12, [a0, a1, a2, a3, a4, a5, a6, .ref h7, a8])), (h7, .inr (9, [b0, b1, b2, b3, b4, b5, b6, b7, b8, b9, .int 0, b11, b12, b13, b14, b15, b16, b17, b18, b19]))] s.heap.size = A at hD hZ9 ⊢
  have hA : ∀ q : Nat, s.heap.size ≤ q → A q := fun q h => by rw [← hAe]; exact Or.inr h
  have hS : va_S A s.heap s.heap [] := va_S.rf
  have hP : va_P (dC, dI) vwCl [(h0, .inr (12, [a0, a1, a2, a3, a4, a5, a6, .ref h7, a8])), (h7, .inr (9, [b0, b1, b2, b3, b4, b5, b6, b7, b8, b9, .int 0, b11, b12, b13, b14, b15, b16, b17, b18, b19]))] s.heap := hP
  have hl := lv_entry ([.ref h0]) (n := 1) (Nat.le_of_ble_eq_true rfl)
  rw [lg_entry_eq]
  generalize (lg_sl ([.ref h0]) ++ List.replicate (1 - (lg_sl ([.ref h0])).length) Slot.unset).toArray = ls at hl ⊢
  have hl : lv_has ls 1 [(0, .ref h0)] := hl
  have hout : ∀ {k : Nat}, ∀ x ∈ c.exceptionTable.toList, covers x k = false := fun x h => (hex x h).elim
  refine lv_aload_n hx hb dX12_fail_0 rfl (lv_at hl 0 rfl) ?_
  have h_1 : 1 ≤ 1 := by decide
  have h_2 : 6 ≤ 6 := by decide
  have hPc := hP.sub (ws' := [(h0, .inr (12, [a0, a1, a2, a3, a4, a5, a6, .ref h7, a8])), (h7, .inr (9, [b0, b1, b2, b3, b4, b5, b6, b7, b8, b9, .int 0, b11, b12, b13, b14, b15, b16, b17, b18, b19]))]) [0, 1] rfl
  have hDc := hD.sub (ws' := [(h0, .inr (12, [a0, a1, a2, a3, a4, a5, a6, .ref h7, a8])), (h7, .inr (9, [b0, b1, b2, b3, b4, b5, b6, b7, b8, b9, .int 0, b11, b12, b13, b14, b15, b16, b17, b18, b19]))]) [0, 1] (by decide) rfl
  have hKc := hK.sub (tys' := []) [] rfl
  have hFc := va_free (wc := [(h0, .inr (12, [a0, a1, a2, a3, a4, a5, a6, .ref h7, a8])), (h7, .inr (9, [b0, b1, b2, b3, b4, b5, b6, b7, b8, b9, .int 0, b11, b12, b13, b14, b15, b16, b17, b18, b19]))]) hD hS hA [0, 1] rfl
  refine xz_callX (vx_runV (As := []) (rest := []) ⟨hx, hb, hml, hown, hts⟩ (x_X12_needRun l hl0 dC dI h0 h7 a0 a1 a2 a3 a4 a5 a6 a8 b0 b1 b2 b3 b4 b5 b6 b7 b8 b9 b11 b12 b13 b14 b15 b16 b17 b18 b19 _) (cwV 0 hts wV_X12_fail_X12_needRun rfl rfl rfl (by decide +kernel) ⟨Nat.le_of_ble_eq_true rfl, Nat.le_of_ble_eq_true rfl⟩) ⟨fun a U g mk q => by obtain ⟨q0, q1, qP, qK, qD, qF, qZ⟩ := q; exact ⟨q0, q1, qP, va_K.moved (u := U) (U := U.calling g mk a) (Vm.Alike.refl U.vm) qK, qD, xz_F.same rfl qF, xz_Z.same (Vm.Alike.refl U.vm) rfl qZ⟩, va_recv hKc hPc (ci := 12) (q0 := 0) rfl rfl, fun U hU hW => ⟨rfl, by rw [hU], by rw [hU]; exact hPc, va_K.moved hW.alike hKc, hDc.weaken (fun _ _ _ _ => trivial), xz_F.warm hW hF9, hZ9.to hS hFc hW.alike hU⟩⟩ rfl rfl hl.1 rfl (lv_room (Nat.le_of_ble_eq_true rfl)) dX12_fail_1 ⟨h_1, h_2⟩) (fun _ _ _ h9 => by obtain ⟨⟨_, h9⟩, _⟩ := h9; simp at h9) hS hFc (fun q _ h => hFc q h) (fun E ce q9 u t H1 locs ht hvm hw hB hz1 hk1 hS hce hcv hcl => ?_)
  obtain ⟨hE, hP1, hK1, hD1⟩ := hB
  subst hE
  rw [ht] at hP1
  have hK1 := va_K.moved hvm.symm hK1
  obtain ⟨hP, hD⟩ := va_join (wr := []) (w1 := [(h0, .inr (12, [a0, a1, a2, a3, a4, a5, a6, .ref h7, a8])), (h7, .inr (9, [b0, b1, b2, b3, b4, b5, b6, b7, b8, b9, .int 0, b11, b12, b13, b14, b15, b16, b17, b18, b19]))]) hP hD [0, 1] [] rfl rfl (by decide) (by decide) hk1 hFc hP1 hD1
  have hP9 := hP.sub (ws' := [(h0, .inr (12, [a0, a1, a2, a3, a4, a5, a6, .ref h7, a8])), (h7, .inr (9, [b0, b1, b2, b3, b4, b5, b6, b7, b8, b9, .int 0, b11, b12, b13, b14, b15, b16, b17, b18, b19]))]) [0, 1] rfl
  have hD9 := hD.sub (ws' := [(h0, .inr (12, [a0, a1, a2, a3, a4, a5, a6, .ref h7, a8])), (h7, .inr (9, [b0, b1, b2, b3, b4, b5, b6, b7, b8, b9, .int 0, b11, b12, b13, b14, b15, b16, b17, b18, b19]))]) [0, 1] (by decide) rfl
  have hK9 := hK.sub (tys' := []) [] rfl
  exact vx_out hout hlocks hce hcv hcl (fun t9 e9 a9 => ⟨(), trivial, ⟨rfl, by rw [e9]; exact hP9, va_K.moved a9 hK9, hD9⟩, hS.F e9⟩) hS.2.2 (by decide) (by decide)

abbrev ax_X12_turn (dC : Nat → ClassId) (dI : Nat → Nat → Nat) (A : Nat → Prop) (h0 h7 : Nat) (k1 : Int32) (a0 a1 a2 a3 a4 a5 a6 a8 b0 b1 b2 b3 b4 b5 b6 b7 b8 b9 b11 b12 b13 b14 b15 b16 b17 b18 b19 : Value) (E : String) (_ : Unit) (t : State) : Prop := E = "java/lang/IllegalStateException" ∧ va_P (dC, dI) vwCl [(h0, .inr (12, [a0, a1, a2, a3, a4, a5, a6, .ref h7, a8])), (h7, .inr (9, [b0, b1, b2, b3, b4, b5, b6, b7, b8, b9, .int 0, b11, b12, b13, b14, b15, b16, b17, b18, b19]))] t.heap ∧ va_K (dC, dI) vwCl [] t ∧ va_D A [(h0, .inr (12, [a0, a1, a2, a3, a4, a5, a6, .ref h7, a8])), (h7, .inr (9, [b0, b1, b2, b3, b4, b5, b6, b7, b8, b9, .int 0, b11, b12, b13, b14, b15, b16, b17, b18, b19]))]
theorem dX12_turn_0 : decode cX12_turn 0 = .ok (.aload_n 0, 1) := by decide +kernel
theorem dX12_turn_1 : decode cX12_turn 1 = .ok (.invokevirtual 140, 3) := by decide +kernel
def ww_X12_turn : List Cond := [.methodLink RX12 140 yX12_needRun, .instanceMethod yX12_needRun, .selects RX12 yX12_needRun yX12_needRun, .initialized RX12]
def wv_X12_turn : List Cond := .code yX12_turn cX12_turn 4 (some .int) :: (ww_X12_turn ++ (wv_X12_needRun ++ []))
theorem wm_X12_turn {w : Cond} (i : Nat) (h : ww_X12_turn[i]? = some w) : w ∈ wv_X12_turn := List.mem_cons_of_mem _ (List.mem_append_left _ (List.mem_of_getElem? h))
set_option maxRecDepth 100000 in
theorem gw_X12_turn : wv_X12_turn.all goodWord = true := by decide +kernel
theorem wg_X12_turn_X12_needRun : GoodIn wv_X12_turn wv_X12_needRun := goodIn_sub (fun w h => List.mem_cons_of_mem _ (List.mem_append_right _ (List.mem_append_left _ h))) gw_X12_needRun
theorem wV_X12_turn_X12_needRun : GoodIn wv_X12_turn (wsV RX12 140 RX12 yX12_needRun wv_X12_needRun) := goodIn_app (goodIn_sub (fun w h => by simp only [List.mem_cons, List.not_mem_nil, or_false] at h; rcases h with rfl | rfl | rfl | rfl <;> first | exact wm_X12_turn 0 rfl | exact wm_X12_turn 1 rfl | exact wm_X12_turn 2 rfl | exact wm_X12_turn 3 rfl) (by decide +kernel)) wg_X12_turn_X12_needRun
set_option maxHeartbeats 4000000 in
set_option maxRecDepth 100000 in
/-- turn(..) where there is no run: IllegalStateException -/
theorem x_X12_turn (l : Launch) (hl0 : l.stackTraces = false) (dC : Nat → ClassId) (dI : Nat → Nat → Nat) (h0 h7 : Nat) (k1 : Int32) (a0 a1 a2 a3 a4 a5 a6 a8 b0 b1 b2 b3 b4 b5 b6 b7 b8 b9 b11 b12 b13 b14 b15 b16 b17 b18 b19 : Value) (sz : Nat) : vx_Met l yX12_turn wv_X12_turn ({ frames := 7, cells := 1, slots := 6, locals := 101 }) (va_Pc [.ref h0, .int k1] (fun U => U.heap.size = sz ∧ va_P (dC, dI) vwCl [(h0, .inr (12, [a0, a1, a2, a3, a4, a5, a6, .ref h7, a8])), (h7, .inr (9, [b0, b1, b2, b3, b4, b5, b6, b7, b8, b9, .int 0, b11, b12, b13, b14, b15, b16, b17, b18, b19]))] U.heap ∧ va_K (dC, dI) vwCl [] U ∧ va_D (fun _ => True) [(h0, .inr (12, [a0, a1, a2, a3, a4, a5, a6, .ref h7, a8])), (h7, .inr (9, [b0, b1, b2, b3, b4, b5, b6, b7, b8, b9, .int 0, b11, b12, b13, b14, b15, b16, b17, b18, b19]))] ∧ xz_F U ∧ xz_Z (va_A [(h0, .inr (12, [a0, a1, a2, a3, a4, a5, a6, .ref h7, a8])), (h7, .inr (9, [b0, b1, b2, b3, b4, b5, b6, b7, b8, b9, .int 0, b11, b12, b13, b14, b15, b16, b17, b18, b19]))] sz) U U.heap)) (va_Qi (fun _ (_ : Unit) => False) (fun _ _ => True) (va_A [(h0, .inr (12, [a0, a1, a2, a3, a4, a5, a6, .ref h7, a8])), (h7, .inr (9, [b0, b1, b2, b3, b4, b5, b6, b7, b8, b9, .int 0, b11, b12, b13, b14, b15, b16, b17, b18, b19]))] sz)) (vx_X (fun _ : Unit => True) (ax_X12_turn dC dI (va_A [(h0, .inr (12, [a0, a1, a2, a3, a4, a5, a6, .ref h7, a8])), (h7, .inr (9, [b0, b1, b2, b3, b4, b5, b6, b7, b8, b9, .int 0, b11, b12, b13, b14, b15, b16, b17, b18, b19]))] sz) h0 h7 k1 a0 a1 a2 a3 a4 a5 a6 a8 b0 b1 b2 b3 b4 b5 b6 b7 b8 b9 b11 b12 b13 b14 b15 b16 b17 b18 b19) (va_A [(h0, .inr (12, [a0, a1, a2, a3, a4, a5, a6, .ref h7, a8])), (h7, .inr (9, [b0, b1, b2, b3, b4, b5, b6, b7, b8, b9, .int 0, b11, b12, b13, b14, b15, b16, b17, b18, b19]))] sz)) 1 6 (va_A [(h0, .inr (12, [a0, a1, a2, a3, a4, a5, a6, .ref h7, a8])), (h7, .inr (9, [b0, b1, b2, b3, b4, b5, b6, b7, b8, b9, .int 0, b11, b12, b13, b14, b15, b16, b17, b18, b19]))] sz) := by
  refine vx_ofW (cc := cX12_turn) (maxL := 4) (ret := (some .int)) (by decide) rfl ?_
  intro p e s m args below meth c s₁ B hml hex hv
  obtain ⟨rfl, hsz, hP, hK, hD0, hF9, hZ9⟩ := hv
  have hx := B.exec
  have hb := B.bytes
  have hr := B.returns
  have hts := atoms_spec (ws := wv_X12_turn) B.pre
  have hown : s.vm.findClass RX12 = some m.cls := findClass_of_methodNamed B.named
  have hlocks := B.notSynchronized
  subst hsz
  have hD := hD0.self (sz := s.heap.size)
  generalize hAe : va_A [(h0, .inr (12, [a0, a1, a2, a3, a4, a5, a6, .ref h7, a8])), (h7, .inr (9, [b0, b1, b2, b3, b4, b5, b6, b7, b8, b9, .int 0, b11, b12, b13, b14, b15, b16, b17, b18, b19]))] s.heap.size = A at hD hZ9 ⊢
  have hA : ∀ q : Nat, s.heap.size ≤ q → A q := fun q h => by rw [← hAe]; exact Or.inr h
  have hS : va_S A s.heap s.heap [] := va_S.rf
  have hP : va_P (dC, dI) vwCl [(h0, .inr (12, [a0, a1, a2, a3, a4, a5, a6, .ref h7, a8])), (h7, .inr (9, [b0, b1, b2, b3, b4, b5, b6, b7, b8, b9, .int 0, b11, b12, b13, b14, b15, b16, b17, b18, b19]))] s.heap := hP
  have hl := lv_entry ([.ref h0, .int k1]) (n := 4) (Nat.le_of_ble_eq_true rfl)
  rw [lg_entry_eq]
  generalize (lg_sl ([.ref h0, .int k1]) ++ List.replicate (4 - (lg_sl ([.ref h0, .int k1])).length) Slot.unset).toArray = ls at hl ⊢
  have hl : lv_has ls 4 [(0, .ref h0), (1, .int k1)] := hl
  have hout : ∀ {k : Nat}, ∀ x ∈ c.exceptionTable.toList, covers x k = false := fun x h => (hex x h).elim
  refine lv_aload_n hx hb dX12_turn_0 rfl (lv_at hl 0 rfl) ?_
  have h_1 : 1 ≤ 1 := by decide
  have h_2 : 6 ≤ 6 := by decide
  have hPc := hP.sub (ws' := [(h0, .inr (12, [a0, a1, a2, a3, a4, a5, a6, .ref h7, a8])), (h7, .inr (9, [b0, b1, b2, b3, b4, b5, b6, b7, b8, b9, .int 0, b11, b12, b13, b14, b15, b16, b17, b18, b19]))]) [0, 1] rfl
  have hDc := hD.sub (ws' := [(h0, .inr (12, [a0, a1, a2, a3, a4, a5, a6, .ref h7, a8])), (h7, .inr (9, [b0, b1, b2, b3, b4, b5, b6, b7, b8, b9, .int 0, b11, b12, b13, b14, b15, b16, b17, b18, b19]))]) [0, 1] (by decide) rfl
  have hKc := hK.sub (tys' := []) [] rfl
  have hFc := va_free (wc := [(h0, .inr (12, [a0, a1, a2, a3, a4, a5, a6, .ref h7, a8])), (h7, .inr (9, [b0, b1, b2, b3, b4, b5, b6, b7, b8, b9, .int 0, b11, b12, b13, b14, b15, b16, b17, b18, b19]))]) hD hS hA [0, 1] rfl
  refine xz_callX (vx_runV (As := []) (rest := []) ⟨hx, hb, hml, hown, hts⟩ (x_X12_needRun l hl0 dC dI h0 h7 a0 a1 a2 a3 a4 a5 a6 a8 b0 b1 b2 b3 b4 b5 b6 b7 b8 b9 b11 b12 b13 b14 b15 b16 b17 b18 b19 _) (cwV 0 hts wV_X12_turn_X12_needRun rfl rfl rfl (by decide +kernel) ⟨Nat.le_of_ble_eq_true rfl, Nat.le_of_ble_eq_true rfl⟩) ⟨fun a U g mk q => by obtain ⟨q0, q1, qP, qK, qD, qF, qZ⟩ := q; exact ⟨q0, q1, qP, va_K.moved (u := U) (U := U.calling g mk a) (Vm.Alike.refl U.vm) qK, qD, xz_F.same rfl qF, xz_Z.same (Vm.Alike.refl U.vm) rfl qZ⟩, va_recv hKc hPc (ci := 12) (q0 := 0) rfl rfl, fun U hU hW => ⟨rfl, by rw [hU], by rw [hU]; exact hPc, va_K.moved hW.alike hKc, hDc.weaken (fun _ _ _ _ => trivial), xz_F.warm hW hF9, hZ9.to hS hFc hW.alike hU⟩⟩ rfl rfl hl.1 rfl (lv_room (Nat.le_of_ble_eq_true rfl)) dX12_turn_1 ⟨h_1, h_2⟩) (fun _ _ _ h9 => by obtain ⟨⟨_, h9⟩, _⟩ := h9; simp at h9) hS hFc (fun q _ h => hFc q h) (fun E ce q9 u t H1 locs ht hvm hw hB hz1 hk1 hS hce hcv hcl => ?_)
  obtain ⟨hE, hP1, hK1, hD1⟩ := hB
  subst hE
  rw [ht] at hP1
  have hK1 := va_K.moved hvm.symm hK1
  obtain ⟨hP, hD⟩ := va_join (wr := []) (w1 := [(h0, .inr (12, [a0, a1, a2, a3, a4, a5, a6, .ref h7, a8])), (h7, .inr (9, [b0, b1, b2, b3, b4, b5, b6, b7, b8, b9, .int 0, b11, b12, b13, b14, b15, b16, b17, b18, b19]))]) hP hD [0, 1] [] rfl rfl (by decide) (by decide) hk1 hFc hP1 hD1
  have hP9 := hP.sub (ws' := [(h0, .inr (12, [a0, a1, a2, a3, a4, a5, a6, .ref h7, a8])), (h7, .inr (9, [b0, b1, b2, b3, b4, b5, b6, b7, b8, b9, .int 0, b11, b12, b13, b14, b15, b16, b17, b18, b19]))]) [0, 1] rfl
  have hD9 := hD.sub (ws' := [(h0, .inr (12, [a0, a1, a2, a3, a4, a5, a6, .ref h7, a8])), (h7, .inr (9, [b0, b1, b2, b3, b4, b5, b6, b7, b8, b9, .int 0, b11, b12, b13, b14, b15, b16, b17, b18, b19]))]) [0, 1] (by decide) rfl
  have hK9 := hK.sub (tys' := []) [] rfl
  exact vx_out hout hlocks hce hcv hcl (fun t9 e9 a9 => ⟨(), trivial, ⟨rfl, by rw [e9]; exact hP9, va_K.moved a9 hK9, hD9⟩, hS.F e9⟩) hS.2.2 (by decide) (by decide)

abbrev ax_X12_rescale (dC : Nat → ClassId) (dI : Nat → Nat → Nat) (A : Nat → Prop) (h0 h7 : Nat) (k1 : Int32) (a0 a1 a2 a3 a4 a5 a6 a8 b0 b1 b2 b3 b4 b5 b6 b7 b8 b9 b11 b12 b13 b14 b15 b16 b17 b18 b19 : Value) (E : String) (_ : Unit) (t : State) : Prop := E = "java/lang/IllegalStateException" ∧ va_P (dC, dI) vwCl [(h0, .inr (12, [a0, a1, a2, a3, a4, a5, a6, .ref h7, a8])), (h7, .inr (9, [b0, b1, b2, b3, b4, b5, b6, b7, b8, b9, .int 0, b11, b12, b13, b14, b15, b16, b17, b18, b19]))] t.heap ∧ va_K (dC, dI) vwCl [] t ∧ va_D A [(h0, .inr (12, [a0, a1, a2, a3, a4, a5, a6, .ref h7, a8])), (h7, .inr (9, [b0, b1, b2, b3, b4, b5, b6, b7, b8, b9, .int 0, b11, b12, b13, b14, b15, b16, b17, b18, b19]))]
theorem dX12_rescale_0 : decode cX12_rescale 0 = .ok (.aload_n 0, 1) := by decide +kernel
theorem dX12_rescale_1 : decode cX12_rescale 1 = .ok (.invokevirtual 140, 3) := by decide +kernel
def ww_X12_rescale : List Cond := [.methodLink RX12 140 yX12_needRun, .instanceMethod yX12_needRun, .selects RX12 yX12_needRun yX12_needRun, .initialized RX12]
def wv_X12_rescale : List Cond := .code yX12_rescale cX12_rescale 2 (some .int) :: (ww_X12_rescale ++ (wv_X12_needRun ++ []))
theorem wm_X12_rescale {w : Cond} (i : Nat) (h : ww_X12_rescale[i]? = some w) : w ∈ wv_X12_rescale := List.mem_cons_of_mem _ (List.mem_append_left _ (List.mem_of_getElem? h))
set_option maxRecDepth 100000 in
theorem gw_X12_rescale : wv_X12_rescale.all goodWord = true := by decide +kernel
theorem wg_X12_rescale_X12_needRun : GoodIn wv_X12_rescale wv_X12_needRun := goodIn_sub (fun w h => List.mem_cons_of_mem _ (List.mem_append_right _ (List.mem_append_left _ h))) gw_X12_needRun
theorem wV_X12_rescale_X12_needRun : GoodIn wv_X12_rescale (wsV RX12 140 RX12 yX12_needRun wv_X12_needRun) := goodIn_app (goodIn_sub (fun w h => by simp only [List.mem_cons, List.not_mem_nil, or_false] at h; rcases h with rfl | rfl | rfl | rfl <;> first | exact wm_X12_rescale 0 rfl | exact wm_X12_rescale 1 rfl | exact wm_X12_rescale 2 rfl | exact wm_X12_rescale 3 rfl) (by decide +kernel)) wg_X12_rescale_X12_needRun
set_option maxHeartbeats 4000000 in
set_option maxRecDepth 100000 in
/-- rescale(..) where there is no run: IllegalStateException -/
theorem x_X12_rescale (l : Launch) (hl0 : l.stackTraces = false) (dC : Nat → ClassId) (dI : Nat → Nat → Nat) (h0 h7 : Nat) (k1 : Int32) (a0 a1 a2 a3 a4 a5 a6 a8 b0 b1 b2 b3 b4 b5 b6 b7 b8 b9 b11 b12 b13 b14 b15 b16 b17 b18 b19 : Value) (sz : Nat) : vx_Met l yX12_rescale wv_X12_rescale ({ frames := 7, cells := 1, slots := 6, locals := 101 }) (va_Pc [.ref h0, .int k1] (fun U => U.heap.size = sz ∧ va_P (dC, dI) vwCl [(h0, .inr (12, [a0, a1, a2, a3, a4, a5, a6, .ref h7, a8])), (h7, .inr (9, [b0, b1, b2, b3, b4, b5, b6, b7, b8, b9, .int 0, b11, b12, b13, b14, b15, b16, b17, b18, b19]))] U.heap ∧ va_K (dC, dI) vwCl [] U ∧ va_D (fun _ => True) [(h0, .inr (12, [a0, a1, a2, a3, a4, a5, a6, .ref h7, a8])), (h7, .inr (9, [b0, b1, b2, b3, b4, b5, b6, b7, b8, b9, .int 0, b11, b12, b13, b14, b15, b16, b17, b18, b19]))] ∧ xz_F U ∧ xz_Z (va_A [(h0, .inr (12, [a0, a1, a2, a3, a4, a5, a6, .ref h7, a8])), (h7, .inr (9, [b0, b1, b2, b3, b4, b5, b6, b7, b8, b9, .int 0, b11, b12, b13, b14, b15, b16, b17, b18, b19]))] sz) U U.heap)) (va_Qi (fun _ (_ : Unit) => False) (fun _ _ => True) (va_A [(h0, .inr (12, [a0, a1, a2, a3, a4, a5, a6, .ref h7, a8])), (h7, .inr (9, [b0, b1, b2, b3, b4, b5, b6, b7, b8, b9, .int 0, b11, b12, b13, b14, b15, b16, b17, b18, b19]))] sz)) (vx_X (fun _ : Unit => True) (ax_X12_rescale dC dI (va_A [(h0, .inr (12, [a0, a1, a2, a3, a4, a5, a6, .ref h7, a8])), (h7, .inr (9, [b0, b1, b2, b3, b4, b5, b6, b7, b8, b9, .int 0, b11, b12, b13, b14, b15, b16, b17, b18, b19]))] sz) h0 h7 k1 a0 a1 a2 a3 a4 a5 a6 a8 b0 b1 b2 b3 b4 b5 b6 b7 b8 b9 b11 b12 b13 b14 b15 b16 b17 b18 b19) (va_A [(h0, .inr (12, [a0, a1, a2, a3, a4, a5, a6, .ref h7, a8])), (h7, .inr (9, [b0, b1, b2, b3, b4, b5, b6, b7, b8, b9, .int 0, b11, b12, b13, b14, b15, b16, b17, b18, b19]))] sz)) 1 6 (va_A [(h0, .inr (12, [a0, a1, a2, a3, a4, a5, a6, .ref h7, a8])), (h7, .inr (9, [b0, b1, b2, b3, b4, b5, b6, b7, b8, b9, .int 0, b11, b12, b13, b14, b15, b16, b17, b18, b19]))] sz) := by
  refine vx_ofW (cc := cX12_rescale) (maxL := 2) (ret := (some .int)) (by decide) rfl ?_
  intro p e s m args below meth c s₁ B hml hex hv
  obtain ⟨rfl, hsz, hP, hK, hD0, hF9, hZ9⟩ := hv
  have hx := B.exec
  have hb := B.bytes
  have hr := B.returns
  have hts := atoms_spec (ws := wv_X12_rescale) B.pre
  have hown : s.vm.findClass RX12 = some m.cls := findClass_of_methodNamed B.named
  have hlocks := B.notSynchronized
  subst hsz
  have hD := hD0.self (sz := s.heap.size)
  generalize hAe : va_A [(h0, .inr (12, [a0, a1, a2, a3, a4, a5, a6, .ref h7, a8])), (h7, .inr (9, [b0, b1, b2, b3, b4, b5, b6, b7, b8, b9, .int 0, b11, b12, b13, b14, b15, b16, b17, b18, b19]))] s.heap.size = A at hD hZ9 ⊢
  have hA : ∀ q : Nat, s.heap.size ≤ q → A q := fun q h => by rw [← hAe]; exact Or.inr h
  have hS : va_S A s.heap s.heap [] := va_S.rf
  have hP : va_P (dC, dI) vwCl [(h0, .inr (12, [a0, a1, a2, a3, a4, a5, a6, .ref h7, a8])), (h7, .inr (9, [b0, b1, b2, b3, b4, b5, b6, b7, b8, b9, .int 0, b11, b12, b13, b14, b15, b16, b17, b18, b19]))] s.heap := hP
  have hl := lv_entry ([.ref h0, .int k1]) (n := 2) (Nat.le_of_ble_eq_true rfl)
  rw [lg_entry_eq]
  generalize (lg_sl ([.ref h0, .int k1]) ++ List.replicate (2 - (lg_sl ([.ref h0, .int k1])).length) Slot.unset).toArray = ls at hl ⊢
  have hl : lv_has ls 2 [(0, .ref h0), (1, .int k1)] := hl
  have hout : ∀ {k : Nat}, ∀ x ∈ c.exceptionTable.toList, covers x k = false := fun x h => (hex x h).elim
  refine lv_aload_n hx hb dX12_rescale_0 rfl (lv_at hl 0 rfl) ?_
  have h_1 : 1 ≤ 1 := by decide
  have h_2 : 6 ≤ 6 := by decide
  have hPc := hP.sub (ws' := [(h0, .inr (12, [a0, a1, a2, a3, a4, a5, a6, .ref h7, a8])), (h7, .inr (9, [b0, b1, b2, b3, b4, b5, b6, b7, b8, b9, .int 0, b11, b12, b13, b14, b15, b16, b17, b18, b19]))]) [0, 1] rfl
  have hDc := hD.sub (ws' := [(h0, .inr (12, [a0, a1, a2, a3, a4, a5, a6, .ref h7, a8])), (h7, .inr (9, [b0, b1, b2, b3, b4, b5, b6, b7, b8, b9, .int 0, b11, b12, b13, b14, b15, b16, b17, b18, b19]))]) [0, 1] (by decide) rfl
  have hKc := hK.sub (tys' := []) [] rfl
  have hFc := va_free (wc := [(h0, .inr (12, [a0, a1, a2, a3, a4, a5, a6, .ref h7, a8])), (h7, .inr (9, [b0, b1, b2, b3, b4, b5, b6, b7, b8, b9, .int 0, b11, b12, b13, b14, b15, b16, b17, b18, b19]))]) hD hS hA [0, 1] rfl
  refine xz_callX (vx_runV (As := []) (rest := []) ⟨hx, hb, hml, hown, hts⟩ (x_X12_needRun l hl0 dC dI h0 h7 a0 a1 a2 a3 a4 a5 a6 a8 b0 b1 b2 b3 b4 b5 b6 b7 b8 b9 b11 b12 b13 b14 b15 b16 b17 b18 b19 _) (cwV 0 hts wV_X12_rescale_X12_needRun rfl rfl rfl (by decide +kernel) ⟨Nat.le_of_ble_eq_true rfl, Nat.le_of_ble_eq_true rfl⟩) ⟨fun a U g mk q => by obtain ⟨q0, q1, qP, qK, qD, qF, qZ⟩ := q; exact ⟨q0, q1, qP, va_K.moved (u := U) (U := U.calling g mk a) (Vm.Alike.refl U.vm) qK, qD, xz_F.same rfl qF, xz_Z.same (Vm.Alike.refl U.vm) rfl qZ⟩, va_recv hKc hPc (ci := 12) (q0 := 0) rfl rfl, fun U hU hW => ⟨rfl, by rw [hU], by rw [hU]; exact hPc, va_K.moved hW.alike hKc, hDc.weaken (fun _ _ _ _ => trivial), xz_F.warm hW hF9, hZ9.to hS hFc hW.alike hU⟩⟩ rfl rfl hl.1 rfl (lv_room (Nat.le_of_ble_eq_true rfl)) dX12_rescale_1 ⟨h_1, h_2⟩) (fun _ _ _ h9 => by obtain ⟨⟨_, h9⟩, _⟩ := h9; simp at h9) hS hFc (fun q _ h => hFc q h) (fun E ce q9 u t H1 locs ht hvm hw hB hz1 hk1 hS hce hcv hcl => ?_)
  obtain ⟨hE, hP1, hK1, hD1⟩ := hB
  subst hE
  rw [ht] at hP1
  have hK1 := va_K.moved hvm.symm hK1
  obtain ⟨hP, hD⟩ := va_join (wr := []) (w1 := [(h0, .inr (12, [a0, a1, a2, a3, a4, a5, a6, .ref h7, a8])), (h7, .inr (9, [b0, b1, b2, b3, b4, b5, b6, b7, b8, b9, .int 0, b11, b12, b13, b14, b15, b16, b17, b18, b19]))]) hP hD [0, 1] [] rfl rfl (by decide) (by decide) hk1 hFc hP1 hD1
  have hP9 := hP.sub (ws' := [(h0, .inr (12, [a0, a1, a2, a3, a4, a5, a6, .ref h7, a8])), (h7, .inr (9, [b0, b1, b2, b3, b4, b5, b6, b7, b8, b9, .int 0, b11, b12, b13, b14, b15, b16, b17, b18, b19]))]) [0, 1] rfl
  have hD9 := hD.sub (ws' := [(h0, .inr (12, [a0, a1, a2, a3, a4, a5, a6, .ref h7, a8])), (h7, .inr (9, [b0, b1, b2, b3, b4, b5, b6, b7, b8, b9, .int 0, b11, b12, b13, b14, b15, b16, b17, b18, b19]))]) [0, 1] (by decide) rfl
  have hK9 := hK.sub (tys' := []) [] rfl
  exact vx_out hout hlocks hce hcv hcl (fun t9 e9 a9 => ⟨(), trivial, ⟨rfl, by rw [e9]; exact hP9, va_K.moved a9 hK9, hD9⟩, hS.F e9⟩) hS.2.2 (by decide) (by decide)

abbrev ax_X12_channel (dC : Nat → ClassId) (dI : Nat → Nat → Nat) (A : Nat → Prop) (h0 h7 : Nat) (k1 k2 : Int32) (a0 a1 a2 a3 a4 a5 a6 a8 b0 b1 b2 b3 b4 b5 b6 b7 b8 b9 b10 b12 b13 b14 b15 b16 b17 b18 b19 : Value) (E : String) (_ : Unit) (t : State) : Prop := E = "java/lang/IndexOutOfBoundsException" ∧ va_P (dC, dI) vwCl [(h0, .inr (12, [a0, a1, a2, a3, a4, a5, a6, .ref h7, a8])), (h7, .inr (9, [b0, b1, b2, b3, b4, b5, b6, b7, b8, b9, b10, .int 0, b12, b13, b14, b15, b16, b17, b18, b19]))] t.heap ∧ va_K (dC, dI) vwCl [] t ∧ va_D A [(h0, .inr (12, [a0, a1, a2, a3, a4, a5, a6, .ref h7, a8])), (h7, .inr (9, [b0, b1, b2, b3, b4, b5, b6, b7, b8, b9, b10, .int 0, b12, b13, b14, b15, b16, b17, b18, b19]))]
theorem dX12_channel_0 : decode cX12_channel 0 = .ok (.iload_n 1, 1) := by decide +kernel
theorem dX12_channel_1 : decode cX12_channel 1 = .ok (.ifCond .lt 14, 3) := by decide +kernel
theorem dX12_channel_4 : decode cX12_channel 4 = .ok (.iload_n 1, 1) := by decide +kernel
theorem dX12_channel_5 : decode cX12_channel 5 = .ok (.aload_n 0, 1) := by decide +kernel
theorem dX12_channel_6 : decode cX12_channel 6 = .ok (.getfield 49, 3) := by decide +kernel
theorem dX12_channel_9 : decode cX12_channel 9 = .ok (.getfield 230, 3) := by decide +kernel
theorem dX12_channel_12 : decode cX12_channel 12 = .ok (.if_icmp .lt 11, 3) := by decide +kernel
theorem dX12_channel_15 : decode cX12_channel 15 = .ok (.new 92, 3) := by decide +kernel
theorem dX12_channel_18 : decode cX12_channel 18 = .ok (.dup, 1) := by decide +kernel
theorem dX12_channel_19 : decode cX12_channel 19 = .ok (.invokespecial 94, 3) := by decide +kernel
theorem dX12_channel_22 : decode cX12_channel 22 = .ok (.athrow, 1) := by decide +kernel
def ww_X12_channel : List Cond := [.classLink RX12 92 "java/lang/IndexOutOfBoundsException", .initialized "java/lang/IndexOutOfBoundsException", .fieldLink RX12 49 "StreamHouse" "run" "LStreamHouse$Run;", .fieldLink RX12 230 "StreamHouse$Run" "channelCount" "I"]
def wv_X12_channel : List Cond := .code yX12_channel cX12_channel 3 (some .long) :: (ww_X12_channel ++ ((vx_at0 RX12 94 "java/lang/IndexOutOfBoundsException" ["java/lang/RuntimeException", "java/lang/Exception"]).filter goodWord ++ (u_ws RX12 TX12 9 ++ (u_ws RX9 TX9 20 ++ []))))
theorem wm_X12_channel {w : Cond} (i : Nat) (h : ww_X12_channel[i]? = some w) : w ∈ wv_X12_channel := List.mem_cons_of_mem _ (List.mem_append_left _ (List.mem_of_getElem? h))
set_option maxRecDepth 100000 in
theorem gw_X12_channel : wv_X12_channel.all goodWord = true := by decide +kernel
theorem wx_X12_channel_94 : ∀ w ∈ (vx_at0 RX12 94 "java/lang/IndexOutOfBoundsException" ["java/lang/RuntimeException", "java/lang/Exception"]).filter goodWord, w ∈ wv_X12_channel := fun w h => List.mem_cons_of_mem _ (List.mem_append_right _ (List.mem_append_left _ h))
theorem wh_X12_channel_X12 : ∀ w ∈ u_ws RX12 TX12 9, w ∈ wv_X12_channel := fun w h => List.mem_cons_of_mem _ (List.mem_append_right _ (List.mem_append_right _ (List.mem_append_left _ h)))
theorem wh_X12_channel_X9 : ∀ w ∈ u_ws RX9 TX9 20, w ∈ wv_X12_channel := fun w h => List.mem_cons_of_mem _ (List.mem_append_right _ (List.mem_append_right _ (List.mem_append_right _ (List.mem_append_left _ h))))
set_option maxHeartbeats 4000000 in
set_option maxRecDepth 100000 in
/-- channel(k, what) where there is no run: IndexOutOfBoundsException -/
theorem x_X12_channel (l : Launch) (hl0 : l.stackTraces = false) (dC : Nat → ClassId) (dI : Nat → Nat → Nat) (h0 h7 : Nat) (k1 k2 : Int32) (a0 a1 a2 a3 a4 a5 a6 a8 b0 b1 b2 b3 b4 b5 b6 b7 b8 b9 b10 b12 b13 b14 b15 b16 b17 b18 b19 : Value) (sz : Nat) : vx_Met l yX12_channel wv_X12_channel ({ frames := 6, cells := 1, slots := 6, locals := 81 }) (va_Pc [.ref h0, .int k1, .int k2] (fun U => U.heap.size = sz ∧ va_P (dC, dI) vwCl [(h0, .inr (12, [a0, a1, a2, a3, a4, a5, a6, .ref h7, a8])), (h7, .inr (9, [b0, b1, b2, b3, b4, b5, b6, b7, b8, b9, b10, .int 0, b12, b13, b14, b15, b16, b17, b18, b19]))] U.heap ∧ va_K (dC, dI) vwCl [] U ∧ va_D (fun _ => True) [(h0, .inr (12, [a0, a1, a2, a3, a4, a5, a6, .ref h7, a8])), (h7, .inr (9, [b0, b1, b2, b3, b4, b5, b6, b7, b8, b9, b10, .int 0, b12, b13, b14, b15, b16, b17, b18, b19]))] ∧ xz_F U ∧ xz_Z (va_A [(h0, .inr (12, [a0, a1, a2, a3, a4, a5, a6, .ref h7, a8])), (h7, .inr (9, [b0, b1, b2, b3, b4, b5, b6, b7, b8, b9, b10, .int 0, b12, b13, b14, b15, b16, b17, b18, b19]))] sz) U U.heap)) (va_Ql (fun _ (_ : Unit) => False) (fun _ _ => True) (va_A [(h0, .inr (12, [a0, a1, a2, a3, a4, a5, a6, .ref h7, a8])), (h7, .inr (9, [b0, b1, b2, b3, b4, b5, b6, b7, b8, b9, b10, .int 0, b12, b13, b14, b15, b16, b17, b18, b19]))] sz)) (vx_X (fun _ : Unit => True) (ax_X12_channel dC dI (va_A [(h0, .inr (12, [a0, a1, a2, a3, a4, a5, a6, .ref h7, a8])), (h7, .inr (9, [b0, b1, b2, b3, b4, b5, b6, b7, b8, b9, b10, .int 0, b12, b13, b14, b15, b16, b17, b18, b19]))] sz) h0 h7 k1 k2 a0 a1 a2 a3 a4 a5 a6 a8 b0 b1 b2 b3 b4 b5 b6 b7 b8 b9 b10 b12 b13 b14 b15 b16 b17 b18 b19) (va_A [(h0, .inr (12, [a0, a1, a2, a3, a4, a5, a6, .ref h7, a8])), (h7, .inr (9, [b0, b1, b2, b3, b4, b5, b6, b7, b8, b9, b10, .int 0, b12, b13, b14, b15, b16, b17, b18, b19]))] sz)) 1 6 (va_A [(h0, .inr (12, [a0, a1, a2, a3, a4, a5, a6, .ref h7, a8])), (h7, .inr (9, [b0, b1, b2, b3, b4, b5, b6, b7, b8, b9, b10, .int 0, b12, b13, b14, b15, b16, b17, b18, b19]))] sz) := by
  refine vx_ofW (cc := cX12_channel) (maxL := 3) (ret := (some .long)) (by decide) rfl ?_
  intro p e s m args below meth c s₁ B hml hex hv
  obtain ⟨rfl, hsz, hP, hK, hD0, hF9, hZ9⟩ := hv
  have hx := B.exec
  have hb := B.bytes
  have hr := B.returns
  have hts := atoms_spec (ws := wv_X12_channel) B.pre
  have hown : s.vm.findClass RX12 = some m.cls := findClass_of_methodNamed B.named
  have hlocks := B.notSynchronized
  subst hsz
  have hD := hD0.self (sz := s.heap.size)
  generalize hAe : va_A [(h0, .inr (12, [a0, a1, a2, a3, a4, a5, a6, .ref h7, a8])), (h7, .inr (9, [b0, b1, b2, b3, b4, b5, b6, b7, b8, b9, b10, .int 0, b12, b13, b14, b15, b16, b17, b18, b19]))] s.heap.size = A at hD hZ9 ⊢
  have hA : ∀ q : Nat, s.heap.size ≤ q → A q := fun q h => by rw [← hAe]; exact Or.inr h
  have hS : va_S A s.heap s.heap [] := va_S.rf
  have hP : va_P (dC, dI) vwCl [(h0, .inr (12, [a0, a1, a2, a3, a4, a5, a6, .ref h7, a8])), (h7, .inr (9, [b0, b1, b2, b3, b4, b5, b6, b7, b8, b9, b10, .int 0, b12, b13, b14, b15, b16, b17, b18, b19]))] s.heap := hP
  have hl := lv_entry ([.ref h0, .int k1, .int k2]) (n := 3) (Nat.le_of_ble_eq_true rfl)
  rw [lg_entry_eq]
  generalize (lg_sl ([.ref h0, .int k1, .int k2]) ++ List.replicate (3 - (lg_sl ([.ref h0, .int k1, .int k2])).length) Slot.unset).toArray = ls at hl ⊢
  have hl : lv_has ls 3 [(0, .ref h0), (1, .int k1), (2, .int k2)] := hl
  have hout : ∀ {k : Nat}, ∀ x ∈ c.exceptionTable.toList, covers x k = false := fun x h => (hex x h).elim
  refine lv_iload_n hx hb dX12_channel_0 rfl (lv_at hl 1 rfl) ?_
  refine lv_if_lt (tgt := 15) hx hb dX12_channel_1 (by decide) (fun hc => ?_) (fun hc => ?_)
  · have h_1 : 1 ≤ 1 := by decide
    have h_2 : 6 ≤ 6 := by decide
    have hat9 : ∀ w ∈ vx_at0 RX12 94 "java/lang/IndexOutOfBoundsException" ["java/lang/RuntimeException", "java/lang/Exception"], w.before _ s = true := vx_hat (B := [.declares (Bundle.init0 "java/lang/RuntimeException"), .declares (Bundle.init0 "java/lang/Exception"), .declares (Bundle.init0 Bundle.tN), .castable "java/lang/IndexOutOfBoundsException" "java/lang/IndexOutOfBoundsException"]) (fun w hw => hts w (wx_X12_channel_94 w hw)) (by decide +kernel) (vx_c (va_Nw.use rfl hF9.1) (vx_c (va_Nw.use rfl hF9.2.1) (vx_c (va_Nw.use rfl hF9.2.2.1) (vx_c (va_Nw.use rfl hF9.2.2.2.2.2.1) vx_n))))
    have hP9 := hP.sub (ws' := [(h0, .inr (12, [a0, a1, a2, a3, a4, a5, a6, .ref h7, a8])), (h7, .inr (9, [b0, b1, b2, b3, b4, b5, b6, b7, b8, b9, b10, .int 0, b12, b13, b14, b15, b16, b17, b18, b19]))]) [0, 1] rfl
    have hD9 := hD.sub (ws' := [(h0, .inr (12, [a0, a1, a2, a3, a4, a5, a6, .ref h7, a8])), (h7, .inr (9, [b0, b1, b2, b3, b4, b5, b6, b7, b8, b9, b10, .int 0, b12, b13, b14, b15, b16, b17, b18, b19]))]) [0, 1] (by decide) rfl
    have hK9 := hK.sub (tys' := []) [] rfl
    exact vx_throw0 (A := A) hx hb hl0 hown (by decide +kernel) (by decide +kernel) (hts (.classLink RX12 92 "java/lang/IndexOutOfBoundsException") (wm_X12_channel 0 rfl)) (hts (.initialized "java/lang/IndexOutOfBoundsException") (wm_X12_channel 1 rfl)) hat9 (by decide +kernel) hZ9.1 hZ9.2 hS (hl.1.trans hml.symm) dX12_channel_15 dX12_channel_18 dX12_channel_19 dX12_channel_22 hout (by decide) (by decide) h_1 h_2 hlocks (fun t9 ha9 hz9 hk9 => ⟨(), trivial, ⟨rfl, (xz_keep hS hP9 hz9 hk9).1, va_K.moved ha9 hK9, hD9⟩, (xz_keep hS hP9 hz9 hk9).2⟩) hS.2.2 (by decide) (by decide)
  · refine lv_iload_n hx hb dX12_channel_4 rfl (lv_at hl 1 rfl) ?_
    refine lv_aload_n hx hb dX12_channel_5 rfl (lv_at hl 0 rfl) ?_
    refine va_get (D := (dC, dI)) (ci := 12) (v := .ref h7) (C := RX12) (T := TX12) (N := 9) hx hb hts wh_X12_channel_X12 hown hK hP 0 rfl rfl 7 (by decide) (hts (.fieldLink RX12 49 "StreamHouse" "run" "LStreamHouse$Run;") (wm_X12_channel 2 rfl)) (fun _ h9 => h9) rfl dX12_channel_6 ?_
    refine va_get (D := (dC, dI)) (ci := 9) (v := .int 0) (C := RX9) (T := TX9) (N := 20) hx hb hts wh_X12_channel_X9 hown hK hP 1 rfl rfl 11 (by decide) (hts (.fieldLink RX12 230 "StreamHouse$Run" "channelCount" "I") (wm_X12_channel 3 rfl)) (fun _ h9 => h9) rfl dX12_channel_9 ?_
    refine lv_icmp_lt (tgt := 23) hx hb dX12_channel_12 (by decide) (fun h9 => absurd h9 hc) (fun _ => ?_)
    have h_3 : 1 ≤ 1 := by decide
    have h_4 : 6 ≤ 6 := by decide
    have hat9 : ∀ w ∈ vx_at0 RX12 94 "java/lang/IndexOutOfBoundsException" ["java/lang/RuntimeException", "java/lang/Exception"], w.before _ s = true := vx_hat (B := [.declares (Bundle.init0 "java/lang/RuntimeException"), .declares (Bundle.init0 "java/lang/Exception"), .declares (Bundle.init0 Bundle.tN), .castable "java/lang/IndexOutOfBoundsException" "java/lang/IndexOutOfBoundsException"]) (fun w hw => hts w (wx_X12_channel_94 w hw)) (by decide +kernel) (vx_c (va_Nw.use rfl hF9.1) (vx_c (va_Nw.use rfl hF9.2.1) (vx_c (va_Nw.use rfl hF9.2.2.1) (vx_c (va_Nw.use rfl hF9.2.2.2.2.2.1) vx_n))))
    have hP9 := hP.sub (ws' := [(h0, .inr (12, [a0, a1, a2, a3, a4, a5, a6, .ref h7, a8])), (h7, .inr (9, [b0, b1, b2, b3, b4, b5, b6, b7, b8, b9, b10, .int 0, b12, b13, b14, b15, b16, b17, b18, b19]))]) [0, 1] rfl
    have hD9 := hD.sub (ws' := [(h0, .inr (12, [a0, a1, a2, a3, a4, a5, a6, .ref h7, a8])), (h7, .inr (9, [b0, b1, b2, b3, b4, b5, b6, b7, b8, b9, b10, .int 0, b12, b13, b14, b15, b16, b17, b18, b19]))]) [0, 1] (by decide) rfl
    have hK9 := hK.sub (tys' := []) [] rfl
    exact vx_throw0 (A := A) hx hb hl0 hown (by decide +kernel) (by decide +kernel) (hts (.classLink RX12 92 "java/lang/IndexOutOfBoundsException") (wm_X12_channel 0 rfl)) (hts (.initialized "java/lang/IndexOutOfBoundsException") (wm_X12_channel 1 rfl)) hat9 (by decide +kernel) hZ9.1 hZ9.2 hS (hl.1.trans hml.symm) dX12_channel_15 dX12_channel_18 dX12_channel_19 dX12_channel_22 hout (by decide) (by decide) h_3 h_4 hlocks (fun t9 ha9 hz9 hk9 => ⟨(), trivial, ⟨rfl, (xz_keep hS hP9 hz9 hk9).1, va_K.moved ha9 hK9, hD9⟩, (xz_keep hS hP9 hz9 hk9).2⟩) hS.2.2 (by decide) (by decide)

abbrev ax_X12_reopen (dC : Nat → ClassId) (dI : Nat → Nat → Nat) (A : Nat → Prop) (h0 h7 h8 : Nat) (a0 a1 a2 a3 a4 a5 a6 a8 b0 b1 b3 b4 b5 b6 b7 b8 b9 b10 b11 b12 b13 b14 b15 b16 b17 b18 b19 d0 d1 d2 d3 d4 d5 d6 d7 d8 : Value) (E : String) (_ : Unit) (t : State) : Prop := E = "java/lang/IllegalStateException" ∧ va_P (dC, dI) vwCl [(h0, .inr (12, [a0, a1, a2, a3, a4, a5, a6, .ref h7, a8])), (h7, .inr (9, [b0, b1, .ref h8, b3, b4, b5, b6, b7, b8, b9, b10, b11, b12, b13, b14, b15, b16, b17, b18, b19])), (h8, .inr (3, [d0, d1, d2, d3, d4, d5, d6, d7, d8, .int 0]))] t.heap ∧ va_K (dC, dI) vwCl [] t ∧ va_D A [(h0, .inr (12, [a0, a1, a2, a3, a4, a5, a6, .ref h7, a8])), (h7, .inr (9, [b0, b1, .ref h8, b3, b4, b5, b6, b7, b8, b9, b10, b11, b12, b13, b14, b15, b16, b17, b18, b19])), (h8, .inr (3, [d0, d1, d2, d3, d4, d5, d6, d7, d8, .int 0]))]
theorem dX12_reopen_0 : decode cX12_reopen 0 = .ok (.aload_n 0, 1) := by decide +kernel
theorem dX12_reopen_1 : decode cX12_reopen 1 = .ok (.getfield 49, 3) := by decide +kernel
theorem dX12_reopen_4 : decode cX12_reopen 4 = .ok (.getfield 66, 3) := by decide +kernel
theorem dX12_reopen_7 : decode cX12_reopen 7 = .ok (.getfield 70, 3) := by decide +kernel
theorem dX12_reopen_10 : decode cX12_reopen 10 = .ok (.ifCond .ne 11, 3) := by decide +kernel
theorem dX12_reopen_13 : decode cX12_reopen 13 = .ok (.new 76, 3) := by decide +kernel
theorem dX12_reopen_16 : decode cX12_reopen 16 = .ok (.dup, 1) := by decide +kernel
theorem dX12_reopen_17 : decode cX12_reopen 17 = .ok (.invokespecial 78, 3) := by decide +kernel
theorem dX12_reopen_20 : decode cX12_reopen 20 = .ok (.athrow, 1) := by decide +kernel
def ww_X12_reopen : List Cond := [.fieldLink RX12 49 "StreamHouse" "run" "LStreamHouse$Run;", .fieldLink RX12 66 "StreamHouse$Run" "disk" "LStreamHouse$Disk;", .fieldLink RX12 70 "StreamHouse$Disk" "down" "Z", .classLink RX12 76 "java/lang/IllegalStateException", .initialized "java/lang/IllegalStateException"]
def wv_X12_reopen : List Cond := .code yX12_reopen cX12_reopen 1 (some .int) :: (ww_X12_reopen ++ (u_ws RX12 TX12 9 ++ (u_ws RX9 TX9 20 ++ (u_ws RX3 TX3 10 ++ ((vx_at0 RX12 78 "java/lang/IllegalStateException" ["java/lang/RuntimeException", "java/lang/Exception"]).filter goodWord ++ [])))))
theorem wm_X12_reopen {w : Cond} (i : Nat) (h : ww_X12_reopen[i]? = some w) : w ∈ wv_X12_reopen := List.mem_cons_of_mem _ (List.mem_append_left _ (List.mem_of_getElem? h))
set_option maxRecDepth 100000 in
theorem gw_X12_reopen : wv_X12_reopen.all goodWord = true := by decide +kernel
theorem wh_X12_reopen_X12 : ∀ w ∈ u_ws RX12 TX12 9, w ∈ wv_X12_reopen := fun w h => List.mem_cons_of_mem _ (List.mem_append_right _ (List.mem_append_left _ h))
theorem wh_X12_reopen_X9 : ∀ w ∈ u_ws RX9 TX9 20, w ∈ wv_X12_reopen := fun w h => List.mem_cons_of_mem _ (List.mem_append_right _ (List.mem_append_right _ (List.mem_append_left _ h)))
theorem wh_X12_reopen_X3 : ∀ w ∈ u_ws RX3 TX3 10, w ∈ wv_X12_reopen := fun w h => List.mem_cons_of_mem _ (List.mem_append_right _ (List.mem_append_right _ (List.mem_append_right _ (List.mem_append_left _ h))))
theorem wx_X12_reopen_78 : ∀ w ∈ (vx_at0 RX12 78 "java/lang/IllegalStateException" ["java/lang/RuntimeException", "java/lang/Exception"]).filter goodWord, w ∈ wv_X12_reopen := fun w h => List.mem_cons_of_mem _ (List.mem_append_right _ (List.mem_append_right _ (List.mem_append_right _ (List.mem_append_right _ (List.mem_append_left _ h)))))
set_option maxHeartbeats 4000000 in
set_option maxRecDepth 100000 in
/-- reopen() of a house that is not down: IllegalStateException -/
theorem x_X12_reopen (l : Launch) (hl0 : l.stackTraces = false) (dC : Nat → ClassId) (dI : Nat → Nat → Nat) (h0 h7 h8 : Nat) (a0 a1 a2 a3 a4 a5 a6 a8 b0 b1 b3 b4 b5 b6 b7 b8 b9 b10 b11 b12 b13 b14 b15 b16 b17 b18 b19 d0 d1 d2 d3 d4 d5 d6 d7 d8 : Value) (sz : Nat) : vx_Met l yX12_reopen wv_X12_reopen ({ frames := 6, cells := 1, slots := 6, locals := 81 }) (va_Pc [.ref h0] (fun U => U.heap.size = sz ∧ va_P (dC, dI) vwCl [(h0, .inr (12, [a0, a1, a2, a3, a4, a5, a6, .ref h7, a8])), (h7, .inr (9, [b0, b1, .ref h8, b3, b4, b5, b6, b7, b8, b9, b10, b11, b12, b13, b14, b15, b16, b17, b18, b19])), (h8, .inr (3, [d0, d1, d2, d3, d4, d5, d6, d7, d8, .int 0]))] U.heap ∧ va_K (dC, dI) vwCl [] U ∧ va_D (fun _ => True) [(h0, .inr (12, [a0, a1, a2, a3, a4, a5, a6, .ref h7, a8])), (h7, .inr (9, [b0, b1, .ref h8, b3, b4, b5, b6, b7, b8, b9, b10, b11, b12, b13, b14, b15, b16, b17, b18, b19])), (h8, .inr (3, [d0, d1, d2, d3, d4, d5, d6, d7, d8, .int 0]))] ∧ xz_F U ∧ xz_Z (va_A [(h0, .inr (12, [a0, a1, a2, a3, a4, a5, a6, .ref h7, a8])), (h7, .inr (9, [b0, b1, .ref h8, b3, b4, b5, b6, b7, b8, b9, b10, b11, b12, b13, b14, b15, b16, b17, b18, b19])), (h8, .inr (3, [d0, d1, d2, d3, d4, d5, d6, d7, d8, .int 0]))] sz) U U.heap)) (va_Qi (fun _ (_ : Unit) => False) (fun _ _ => True) (va_A [(h0, .inr (12, [a0, a1, a2, a3, a4, a5, a6, .ref h7, a8])), (h7, .inr (9, [b0, b1, .ref h8, b3, b4, b5, b6, b7, b8, b9, b10, b11, b12, b13, b14, b15, b16, b17, b18, b19])), (h8, .inr (3, [d0, d1, d2, d3, d4, d5, d6, d7, d8, .int 0]))] sz)) (vx_X (fun _ : Unit => True) (ax_X12_reopen dC dI (va_A [(h0, .inr (12, [a0, a1, a2, a3, a4, a5, a6, .ref h7, a8])), (h7, .inr (9, [b0, b1, .ref h8, b3, b4, b5, b6, b7, b8, b9, b10, b11, b12, b13, b14, b15, b16, b17, b18, b19])), (h8, .inr (3, [d0, d1, d2, d3, d4, d5, d6, d7, d8, .int 0]))] sz) h0 h7 h8 a0 a1 a2 a3 a4 a5 a6 a8 b0 b1 b3 b4 b5 b6 b7 b8 b9 b10 b11 b12 b13 b14 b15 b16 b17 b18 b19 d0 d1 d2 d3 d4 d5 d6 d7 d8) (va_A [(h0, .inr (12, [a0, a1, a2, a3, a4, a5, a6, .ref h7, a8])), (h7, .inr (9, [b0, b1, .ref h8, b3, b4, b5, b6, b7, b8, b9, b10, b11, b12, b13, b14, b15, b16, b17, b18, b19])), (h8, .inr (3, [d0, d1, d2, d3, d4, d5, d6, d7, d8, .int 0]))] sz)) 1 6 (va_A [(h0, .inr (12, [a0, a1, a2, a3, a4, a5, a6, .ref h7, a8])), (h7, .inr (9, [b0, b1, .ref h8, b3, b4, b5, b6, b7, b8, b9, b10, b11, b12, b13, b14, b15, b16, b17, b18, b19])), (h8, .inr (3, [d0, d1, d2, d3, d4, d5, d6, d7, d8, .int 0]))] sz) := by
  refine vx_ofW (cc := cX12_reopen) (maxL := 1) (ret := (some .int)) (by decide) rfl ?_
  intro p e s m args below meth c s₁ B hml hex hv
  obtain ⟨rfl, hsz, hP, hK, hD0, hF9, hZ9⟩ := hv
  have hx := B.exec
  have hb := B.bytes
  have hr := B.returns
  have hts := atoms_spec (ws := wv_X12_reopen) B.pre
  have hown : s.vm.findClass RX12 = some m.cls := findClass_of_methodNamed B.named
  have hlocks := B.notSynchronized
  subst hsz
  have hD := hD0.self (sz := s.heap.size)
  generalize hAe : va_A [(h0, .inr (12, [a0, a1, a2, a3, a4, a5, a6, .ref h7, a8])), (h7, .inr (9, [b0, b1, .ref h8, b3, b4, b5, b6, b7, b8, b9, b10, b11, b12, b13, b14, b15, b16, b17, b18, b19])), (h8, .inr (3, [d0, d1, d2, d3, d4, d5, d6, d7, d8, .int 0]))] s.heap.size = A at hD hZ9 ⊢
  have hA : ∀ q : Nat, s.heap.size ≤ q → A q := fun q h => by rw [← hAe]; exact Or.inr h
  have hS : va_S A s.heap s.heap [] := va_S.rf
  have hP : va_P (dC, dI) vwCl [(h0, .inr (12, [a0, a1, a2, a3, a4, a5, a6, .ref h7, a8])), (h7, .inr (9, [b0, b1, .ref h8, b3, b4, b5, b6, b7, b8, b9, b10, b11, b12, b13, b14, b15, b16, b17, b18, b19])), (h8, .inr (3, [d0, d1, d2, d3, d4, d5, d6, d7, d8, .int 0]))] s.heap := hP
  have hl := lv_entry ([.ref h0]) (n := 1) (Nat.le_of_ble_eq_true rfl)
  rw [lg_entry_eq]
  generalize (lg_sl ([.ref h0]) ++ List.replicate (1 - (lg_sl ([.ref h0])).length) Slot.unset).toArray = ls at hl ⊢
  have hl : lv_has ls 1 [(0, .ref h0)] := hl
  have hout : ∀ {k : Nat}, ∀ x ∈ c.exceptionTable.toList, covers x k = false := fun x h => (hex x h).elim
  refine lv_aload_n hx hb dX12_reopen_0 rfl (lv_at hl 0 rfl) ?_
  refine va_get (D := (dC, dI)) (ci := 12) (v := .ref h7) (C := RX12) (T := TX12) (N := 9) hx hb hts wh_X12_reopen_X12 hown hK hP 0 rfl rfl 7 (by decide) (hts (.fieldLink RX12 49 "StreamHouse" "run" "LStreamHouse$Run;") (wm_X12_reopen 0 rfl)) (fun _ h9 => h9) rfl dX12_reopen_1 ?_
  refine va_get (D := (dC, dI)) (ci := 9) (v := .ref h8) (C := RX9) (T := TX9) (N := 20) hx hb hts wh_X12_reopen_X9 hown hK hP 1 rfl rfl 2 (by decide) (hts (.fieldLink RX12 66 "StreamHouse$Run" "disk" "LStreamHouse$Disk;") (wm_X12_reopen 1 rfl)) (fun _ h9 => h9) rfl dX12_reopen_4 ?_
  refine va_get (D := (dC, dI)) (ci := 3) (v := .int 0) (C := RX3) (T := TX3) (N := 10) hx hb hts wh_X12_reopen_X3 hown hK hP 2 rfl rfl 9 (by decide) (hts (.fieldLink RX12 70 "StreamHouse$Disk" "down" "Z") (wm_X12_reopen 2 rfl)) (fun _ h9 => h9) rfl dX12_reopen_7 ?_
  refine lv_if_ne (tgt := 21) hx hb dX12_reopen_10 (by decide) (fun h9 => absurd (by decide) h9) (fun _ => ?_)
  have h_1 : 1 ≤ 1 := by decide
  have h_2 : 6 ≤ 6 := by decide
  have hat9 : ∀ w ∈ vx_at0 RX12 78 "java/lang/IllegalStateException" ["java/lang/RuntimeException", "java/lang/Exception"], w.before _ s = true := vx_hat (B := [.declares (Bundle.init0 "java/lang/RuntimeException"), .declares (Bundle.init0 "java/lang/Exception"), .declares (Bundle.init0 Bundle.tN), .castable "java/lang/IllegalStateException" "java/lang/IllegalStateException"]) (fun w hw => hts w (wx_X12_reopen_78 w hw)) (by decide +kernel) (vx_c (va_Nw.use rfl hF9.1) (vx_c (va_Nw.use rfl hF9.2.1) (vx_c (va_Nw.use rfl hF9.2.2.1) (vx_c (va_Nw.use rfl hF9.2.2.2.1) vx_n))))
  have hP9 := hP.sub (ws' := [(h0, .inr (12, [a0, a1, a2, a3, a4, a5, a6, .ref h7, a8])), (h7, .inr (9, [b0, b1, .ref h8, b3, b4, b5, b6, b7, b8, b9, b10, b11, b12, b13, b14, b15, b16, b17, b18, b19])), (h8, .inr (3, [d0, d1, d2, d3, d4, d5, d6, d7, d8, .int 0]))]) [0, 1, 2] rfl
  have hD9 := hD.sub (ws' := [(h0, .inr (12, [a0, a1, a2, a3, a4, a5, a6, .ref h7, a8])), (h7, .inr (9, [b0, b1, .ref h8, b3, b4, b5, b6, b7, b8, b9, b10, b11, b12, b13, b14, b15, b16, b17, b18, b19])), (h8, .inr (3, [d0, d1, d2, d3, d4, d5, d6, d7, d8, .int 0]))]) [0, 1, 2] (by decide) rfl
  have hK9 := hK.sub (tys' := []) [] rfl
  exact vx_throw0 (A := A) hx hb hl0 hown (by decide +kernel) (by decide +kernel) (hts (.classLink RX12 76 "java/lang/IllegalStateException") (wm_X12_reopen 3 rfl)) (hts (.initialized "java/lang/IllegalStateException") (wm_X12_reopen 4 rfl)) hat9 (by decide +kernel) hZ9.1 hZ9.2 hS (hl.1.trans hml.symm) dX12_reopen_13 dX12_reopen_16 dX12_reopen_17 dX12_reopen_20 hout (by decide) (by decide) h_1 h_2 hlocks (fun t9 ha9 hz9 hk9 => ⟨(), trivial, ⟨rfl, (xz_keep hS hP9 hz9 hk9).1, va_K.moved ha9 hK9, hD9⟩, (xz_keep hS hP9 hz9 hk9).2⟩) hS.2.2 (by decide) (by decide)

abbrev ax_X12_visible (dC : Nat → ClassId) (dI : Nat → Nat → Nat) (A : Nat → Prop) (h0 h4 : Nat) (k1 : Int32) (a0 a1 a2 a3 a5 a6 a7 a8 b0 b1 b3 b4 b5 b6 b7 b8 b9 b10 b11 b12 b13 : Value) (E : String) (_ : Unit) (t : State) : Prop := E = "java/lang/IndexOutOfBoundsException" ∧ va_P (dC, dI) vwCl [(h0, .inr (12, [a0, a1, a2, a3, .ref h4, a5, a6, a7, a8])), (h4, .inr (4, [b0, b1, .int 0, b3, b4, b5, b6, b7, b8, b9, b10, b11, b12, b13]))] t.heap ∧ va_K (dC, dI) vwCl [] t ∧ va_D A [(h0, .inr (12, [a0, a1, a2, a3, .ref h4, a5, a6, a7, a8])), (h4, .inr (4, [b0, b1, .int 0, b3, b4, b5, b6, b7, b8, b9, b10, b11, b12, b13]))]
theorem dX12_visible_0 : decode cX12_visible 0 = .ok (.aload_n 0, 1) := by decide +kernel
theorem dX12_visible_1 : decode cX12_visible 1 = .ok (.iload_n 1, 1) := by decide +kernel
theorem dX12_visible_2 : decode cX12_visible 2 = .ok (.invokevirtual 172, 3) := by decide +kernel
def ww_X12_visible : List Cond := [.methodLink RX12 172 yX12_needOutput, .instanceMethod yX12_needOutput, .selects RX12 yX12_needOutput yX12_needOutput, .initialized RX12]
def wv_X12_visible : List Cond := .code yX12_visible cX12_visible 2 (some .int) :: (ww_X12_visible ++ (wv_X12_needOutput ++ []))
theorem wm_X12_visible {w : Cond} (i : Nat) (h : ww_X12_visible[i]? = some w) : w ∈ wv_X12_visible := List.mem_cons_of_mem _ (List.mem_append_left _ (List.mem_of_getElem? h))
set_option maxRecDepth 100000 in
theorem gw_X12_visible : wv_X12_visible.all goodWord = true := by decide +kernel
theorem wg_X12_visible_X12_needOutput : GoodIn wv_X12_visible wv_X12_needOutput := goodIn_sub (fun w h => List.mem_cons_of_mem _ (List.mem_append_right _ (List.mem_append_left _ h))) gw_X12_needOutput
theorem wV_X12_visible_X12_needOutput : GoodIn wv_X12_visible (wsV RX12 172 RX12 yX12_needOutput wv_X12_needOutput) := goodIn_app (goodIn_sub (fun w h => by simp only [List.mem_cons, List.not_mem_nil, or_false] at h; rcases h with rfl | rfl | rfl | rfl <;> first | exact wm_X12_visible 0 rfl | exact wm_X12_visible 1 rfl | exact wm_X12_visible 2 rfl | exact wm_X12_visible 3 rfl) (by decide +kernel)) wg_X12_visible_X12_needOutput
set_option maxHeartbeats 4000000 in
set_option maxRecDepth 100000 in
/-- visible(k) where there is no job: IndexOutOfBoundsException -/
theorem x_X12_visible (l : Launch) (hl0 : l.stackTraces = false) (dC : Nat → ClassId) (dI : Nat → Nat → Nat) (h0 h4 : Nat) (k1 : Int32) (a0 a1 a2 a3 a5 a6 a7 a8 b0 b1 b3 b4 b5 b6 b7 b8 b9 b10 b11 b12 b13 : Value) (sz : Nat) : vx_Met l yX12_visible wv_X12_visible ({ frames := 7, cells := 1, slots := 6, locals := 102 }) (va_Pc [.ref h0, .int k1] (fun U => U.heap.size = sz ∧ va_P (dC, dI) vwCl [(h0, .inr (12, [a0, a1, a2, a3, .ref h4, a5, a6, a7, a8])), (h4, .inr (4, [b0, b1, .int 0, b3, b4, b5, b6, b7, b8, b9, b10, b11, b12, b13]))] U.heap ∧ va_K (dC, dI) vwCl [] U ∧ va_D (fun _ => True) [(h0, .inr (12, [a0, a1, a2, a3, .ref h4, a5, a6, a7, a8])), (h4, .inr (4, [b0, b1, .int 0, b3, b4, b5, b6, b7, b8, b9, b10, b11, b12, b13]))] ∧ xz_F U ∧ xz_Z (va_A [(h0, .inr (12, [a0, a1, a2, a3, .ref h4, a5, a6, a7, a8])), (h4, .inr (4, [b0, b1, .int 0, b3, b4, b5, b6, b7, b8, b9, b10, b11, b12, b13]))] sz) U U.heap)) (va_Qi (fun _ (_ : Unit) => False) (fun _ _ => True) (va_A [(h0, .inr (12, [a0, a1, a2, a3, .ref h4, a5, a6, a7, a8])), (h4, .inr (4, [b0, b1, .int 0, b3, b4, b5, b6, b7, b8, b9, b10, b11, b12, b13]))] sz)) (vx_X (fun _ : Unit => True) (ax_X12_visible dC dI (va_A [(h0, .inr (12, [a0, a1, a2, a3, .ref h4, a5, a6, a7, a8])), (h4, .inr (4, [b0, b1, .int 0, b3, b4, b5, b6, b7, b8, b9, b10, b11, b12, b13]))] sz) h0 h4 k1 a0 a1 a2 a3 a5 a6 a7 a8 b0 b1 b3 b4 b5 b6 b7 b8 b9 b10 b11 b12 b13) (va_A [(h0, .inr (12, [a0, a1, a2, a3, .ref h4, a5, a6, a7, a8])), (h4, .inr (4, [b0, b1, .int 0, b3, b4, b5, b6, b7, b8, b9, b10, b11, b12, b13]))] sz)) 1 6 (va_A [(h0, .inr (12, [a0, a1, a2, a3, .ref h4, a5, a6, a7, a8])), (h4, .inr (4, [b0, b1, .int 0, b3, b4, b5, b6, b7, b8, b9, b10, b11, b12, b13]))] sz) := by
  refine vx_ofW (cc := cX12_visible) (maxL := 2) (ret := (some .int)) (by decide) rfl ?_
  intro p e s m args below meth c s₁ B hml hex hv
  obtain ⟨rfl, hsz, hP, hK, hD0, hF9, hZ9⟩ := hv
  have hx := B.exec
  have hb := B.bytes
  have hr := B.returns
  have hts := atoms_spec (ws := wv_X12_visible) B.pre
  have hown : s.vm.findClass RX12 = some m.cls := findClass_of_methodNamed B.named
  have hlocks := B.notSynchronized
  subst hsz
  have hD := hD0.self (sz := s.heap.size)
  generalize hAe : va_A [(h0, .inr (12, [a0, a1, a2, a3, .ref h4, a5, a6, a7, a8])), (h4, .inr (4, [b0, b1, .int 0, b3, b4, b5, b6, b7, b8, b9, b10, b11, b12, b13]))] s.heap.size = A at hD hZ9 ⊢
  have hA : ∀ q : Nat, s.heap.size ≤ q → A q := fun q h => by rw [← hAe]; exact Or.inr h
  have hS : va_S A s.heap s.heap [] := va_S.rf
  have hP : va_P (dC, dI) vwCl [(h0, .inr (12, [a0, a1, a2, a3, .ref h4, a5, a6, a7, a8])), (h4, .inr (4, [b0, b1, .int 0, b3, b4, b5, b6, b7, b8, b9, b10, b11, b12, b13]))] s.heap := hP
  have hl := lv_entry ([.ref h0, .int k1]) (n := 2) (Nat.le_of_ble_eq_true rfl)
  rw [lg_entry_eq]
  generalize (lg_sl ([.ref h0, .int k1]) ++ List.replicate (2 - (lg_sl ([.ref h0, .int k1])).length) Slot.unset).toArray = ls at hl ⊢
  have hl : lv_has ls 2 [(0, .ref h0), (1, .int k1)] := hl
  have hout : ∀ {k : Nat}, ∀ x ∈ c.exceptionTable.toList, covers x k = false := fun x h => (hex x h).elim
  refine lv_aload_n hx hb dX12_visible_0 rfl (lv_at hl 0 rfl) ?_
  refine lv_iload_n hx hb dX12_visible_1 rfl (lv_at hl 1 rfl) ?_
  have h_1 : 1 ≤ 1 := by decide
  have h_2 : 6 ≤ 6 := by decide
  have hPc := hP.sub (ws' := [(h0, .inr (12, [a0, a1, a2, a3, .ref h4, a5, a6, a7, a8])), (h4, .inr (4, [b0, b1, .int 0, b3, b4, b5, b6, b7, b8, b9, b10, b11, b12, b13]))]) [0, 1] rfl
  have hDc := hD.sub (ws' := [(h0, .inr (12, [a0, a1, a2, a3, .ref h4, a5, a6, a7, a8])), (h4, .inr (4, [b0, b1, .int 0, b3, b4, b5, b6, b7, b8, b9, b10, b11, b12, b13]))]) [0, 1] (by decide) rfl
  have hKc := hK.sub (tys' := []) [] rfl
  have hFc := va_free (wc := [(h0, .inr (12, [a0, a1, a2, a3, .ref h4, a5, a6, a7, a8])), (h4, .inr (4, [b0, b1, .int 0, b3, b4, b5, b6, b7, b8, b9, b10, b11, b12, b13]))]) hD hS hA [0, 1] rfl
  refine xz_callX (vx_runV (As := [.int k1]) (rest := []) ⟨hx, hb, hml, hown, hts⟩ (x_X12_needOutput l hl0 dC dI h0 h4 k1 a0 a1 a2 a3 a5 a6 a7 a8 b0 b1 b3 b4 b5 b6 b7 b8 b9 b10 b11 b12 b13 _) (cwV 1 hts wV_X12_visible_X12_needOutput rfl rfl rfl (by decide +kernel) ⟨Nat.le_of_ble_eq_true rfl, Nat.le_of_ble_eq_true rfl⟩) ⟨fun a U g mk q => by obtain ⟨q0, q1, qP, qK, qD, qF, qZ⟩ := q; exact ⟨q0, q1, qP, va_K.moved (u := U) (U := U.calling g mk a) (Vm.Alike.refl U.vm) qK, qD, xz_F.same rfl qF, xz_Z.same (Vm.Alike.refl U.vm) rfl qZ⟩, va_recv hKc hPc (ci := 12) (q0 := 0) rfl rfl, fun U hU hW => ⟨rfl, by rw [hU], by rw [hU]; exact hPc, va_K.moved hW.alike hKc, hDc.weaken (fun _ _ _ _ => trivial), xz_F.warm hW hF9, hZ9.to hS hFc hW.alike hU⟩⟩ rfl rfl hl.1 rfl (lv_room (Nat.le_of_ble_eq_true rfl)) dX12_visible_2 ⟨h_1, h_2⟩) (fun _ _ _ h9 => by obtain ⟨⟨_, h9⟩, _⟩ := h9; simp at h9) hS hFc (fun q _ h => hFc q h) (fun E ce q9 u t H1 locs ht hvm hw hB hz1 hk1 hS hce hcv hcl => ?_)
  obtain ⟨hE, hP1, hK1, hD1⟩ := hB
  subst hE
  rw [ht] at hP1
  have hK1 := va_K.moved hvm.symm hK1
  obtain ⟨hP, hD⟩ := va_join (wr := []) (w1 := [(h0, .inr (12, [a0, a1, a2, a3, .ref h4, a5, a6, a7, a8])), (h4, .inr (4, [b0, b1, .int 0, b3, b4, b5, b6, b7, b8, b9, b10, b11, b12, b13]))]) hP hD [0, 1] [] rfl rfl (by decide) (by decide) hk1 hFc hP1 hD1
  have hP9 := hP.sub (ws' := [(h0, .inr (12, [a0, a1, a2, a3, .ref h4, a5, a6, a7, a8])), (h4, .inr (4, [b0, b1, .int 0, b3, b4, b5, b6, b7, b8, b9, b10, b11, b12, b13]))]) [0, 1] rfl
  have hD9 := hD.sub (ws' := [(h0, .inr (12, [a0, a1, a2, a3, .ref h4, a5, a6, a7, a8])), (h4, .inr (4, [b0, b1, .int 0, b3, b4, b5, b6, b7, b8, b9, b10, b11, b12, b13]))]) [0, 1] (by decide) rfl
  have hK9 := hK.sub (tys' := []) [] rfl
  exact vx_out hout hlocks hce hcv hcl (fun t9 e9 a9 => ⟨(), trivial, ⟨rfl, by rw [e9]; exact hP9, va_K.moved a9 hK9, hD9⟩, hS.F e9⟩) hS.2.2 (by decide) (by decide)

abbrev ax_X12_visibleRow (dC : Nat → ClassId) (dI : Nat → Nat → Nat) (A : Nat → Prop) (h0 h4 : Nat) (k1 k2 : Int32) (a0 a1 a2 a3 a5 a6 a7 a8 b0 b1 b3 b4 b5 b6 b7 b8 b9 b10 b11 b12 b13 : Value) (E : String) (_ : Unit) (t : State) : Prop := E = "java/lang/IndexOutOfBoundsException" ∧ va_P (dC, dI) vwCl [(h0, .inr (12, [a0, a1, a2, a3, .ref h4, a5, a6, a7, a8])), (h4, .inr (4, [b0, b1, .int 0, b3, b4, b5, b6, b7, b8, b9, b10, b11, b12, b13]))] t.heap ∧ va_K (dC, dI) vwCl [] t ∧ va_D A [(h0, .inr (12, [a0, a1, a2, a3, .ref h4, a5, a6, a7, a8])), (h4, .inr (4, [b0, b1, .int 0, b3, b4, b5, b6, b7, b8, b9, b10, b11, b12, b13]))]
theorem dX12_visibleRow_0 : decode cX12_visibleRow 0 = .ok (.aload_n 0, 1) := by decide +kernel
theorem dX12_visibleRow_1 : decode cX12_visibleRow 1 = .ok (.iload_n 1, 1) := by decide +kernel
theorem dX12_visibleRow_2 : decode cX12_visibleRow 2 = .ok (.invokevirtual 172, 3) := by decide +kernel
def ww_X12_visibleRow : List Cond := [.methodLink RX12 172 yX12_needOutput, .instanceMethod yX12_needOutput, .selects RX12 yX12_needOutput yX12_needOutput, .initialized RX12]
def wv_X12_visibleRow : List Cond := .code yX12_visibleRow cX12_visibleRow 4 (some (.object "StreamHouse$Cell")) :: (ww_X12_visibleRow ++ (wv_X12_needOutput ++ []))
theorem wm_X12_visibleRow {w : Cond} (i : Nat) (h : ww_X12_visibleRow[i]? = some w) : w ∈ wv_X12_visibleRow := List.mem_cons_of_mem _ (List.mem_append_left _ (List.mem_of_getElem? h))
set_option maxRecDepth 100000 in
theorem gw_X12_visibleRow : wv_X12_visibleRow.all goodWord = true := by decide +kernel
theorem wg_X12_visibleRow_X12_needOutput : GoodIn wv_X12_visibleRow wv_X12_needOutput := goodIn_sub (fun w h => List.mem_cons_of_mem _ (List.mem_append_right _ (List.mem_append_left _ h))) gw_X12_needOutput
theorem wV_X12_visibleRow_X12_needOutput : GoodIn wv_X12_visibleRow (wsV RX12 172 RX12 yX12_needOutput wv_X12_needOutput) := goodIn_app (goodIn_sub (fun w h => by simp only [List.mem_cons, List.not_mem_nil, or_false] at h; rcases h with rfl | rfl | rfl | rfl <;> first | exact wm_X12_visibleRow 0 rfl | exact wm_X12_visibleRow 1 rfl | exact wm_X12_visibleRow 2 rfl | exact wm_X12_visibleRow 3 rfl) (by decide +kernel)) wg_X12_visibleRow_X12_needOutput
set_option maxHeartbeats 4000000 in
set_option maxRecDepth 100000 in
/-- visibleRow(k, i) where there is no job: IndexOutOfBoundsException -/
theorem x_X12_visibleRow (l : Launch) (hl0 : l.stackTraces = false) (dC : Nat → ClassId) (dI : Nat → Nat → Nat) (h0 h4 : Nat) (k1 k2 : Int32) (a0 a1 a2 a3 a5 a6 a7 a8 b0 b1 b3 b4 b5 b6 b7 b8 b9 b10 b11 b12 b13 : Value) (sz : Nat) : vx_Met l yX12_visibleRow wv_X12_visibleRow ({ frames := 7, cells := 1, slots := 6, locals := 102 }) (va_Pc [.ref h0, .int k1, .int k2] (fun U => U.heap.size = sz ∧ va_P (dC, dI) vwCl [(h0, .inr (12, [a0, a1, a2, a3, .ref h4, a5, a6, a7, a8])), (h4, .inr (4, [b0, b1, .int 0, b3, b4, b5, b6, b7, b8, b9, b10, b11, b12, b13]))] U.heap ∧ va_K (dC, dI) vwCl [] U ∧ va_D (fun _ => True) [(h0, .inr (12, [a0, a1, a2, a3, .ref h4, a5, a6, a7, a8])), (h4, .inr (4, [b0, b1, .int 0, b3, b4, b5, b6, b7, b8, b9, b10, b11, b12, b13]))] ∧ xz_F U ∧ xz_Z (va_A [(h0, .inr (12, [a0, a1, a2, a3, .ref h4, a5, a6, a7, a8])), (h4, .inr (4, [b0, b1, .int 0, b3, b4, b5, b6, b7, b8, b9, b10, b11, b12, b13]))] sz) U U.heap)) (va_Qr (fun _ : Unit => False) (fun _ _ _ => True) (va_A [(h0, .inr (12, [a0, a1, a2, a3, .ref h4, a5, a6, a7, a8])), (h4, .inr (4, [b0, b1, .int 0, b3, b4, b5, b6, b7, b8, b9, b10, b11, b12, b13]))] sz)) (vx_X (fun _ : Unit => True) (ax_X12_visibleRow dC dI (va_A [(h0, .inr (12, [a0, a1, a2, a3, .ref h4, a5, a6, a7, a8])), (h4, .inr (4, [b0, b1, .int 0, b3, b4, b5, b6, b7, b8, b9, b10, b11, b12, b13]))] sz) h0 h4 k1 k2 a0 a1 a2 a3 a5 a6 a7 a8 b0 b1 b3 b4 b5 b6 b7 b8 b9 b10 b11 b12 b13) (va_A [(h0, .inr (12, [a0, a1, a2, a3, .ref h4, a5, a6, a7, a8])), (h4, .inr (4, [b0, b1, .int 0, b3, b4, b5, b6, b7, b8, b9, b10, b11, b12, b13]))] sz)) 1 6 (va_A [(h0, .inr (12, [a0, a1, a2, a3, .ref h4, a5, a6, a7, a8])), (h4, .inr (4, [b0, b1, .int 0, b3, b4, b5, b6, b7, b8, b9, b10, b11, b12, b13]))] sz) := by
  refine vx_ofW (cc := cX12_visibleRow) (maxL := 4) (ret := (some (.object "StreamHouse$Cell"))) (by decide) rfl ?_
  intro p e s m args below meth c s₁ B hml hex hv
  obtain ⟨rfl, hsz, hP, hK, hD0, hF9, hZ9⟩ := hv
  have hx := B.exec
  have hb := B.bytes
  have hr := B.returns
  have hts := atoms_spec (ws := wv_X12_visibleRow) B.pre
  have hown : s.vm.findClass RX12 = some m.cls := findClass_of_methodNamed B.named
  have hlocks := B.notSynchronized
  subst hsz
  have hD := hD0.self (sz := s.heap.size)
  generalize hAe : va_A [(h0, .inr (12, [a0, a1, a2, a3, .ref h4, a5, a6, a7, a8])), (h4, .inr (4, [b0, b1, .int 0, b3, b4, b5, b6, b7, b8, b9, b10, b11, b12, b13]))] s.heap.size = A at hD hZ9 ⊢
  have hA : ∀ q : Nat, s.heap.size ≤ q → A q := fun q h => by rw [← hAe]; exact Or.inr h
  have hS : va_S A s.heap s.heap [] := va_S.rf
  have hP : va_P (dC, dI) vwCl [(h0, .inr (12, [a0, a1, a2, a3, .ref h4, a5, a6, a7, a8])), (h4, .inr (4, [b0, b1, .int 0, b3, b4, b5, b6, b7, b8, b9, b10, b11, b12, b13]))] s.heap := hP
  have hl := lv_entry ([.ref h0, .int k1, .int k2]) (n := 4) (Nat.le_of_ble_eq_true rfl)
  rw [lg_entry_eq]
  generalize (lg_sl ([.ref h0, .int k1, .int k2]) ++ List.replicate (4 - (lg_sl ([.ref h0, .int k1, .int k2])).length) Slot.unset).toArray = ls at hl ⊢
  have hl : lv_has ls 4 [(0, .ref h0), (1, .int k1), (2, .int k2)] := hl
  have hout : ∀ {k : Nat}, ∀ x ∈ c.exceptionTable.toList, covers x k = false := fun x h => (hex x h).elim
  refine lv_aload_n hx hb dX12_visibleRow_0 rfl (lv_at hl 0 rfl) ?_
  refine lv_iload_n hx hb dX12_visibleRow_1 rfl (lv_at hl 1 rfl) ?_
  have h_1 : 1 ≤ 1 := by decide
  have h_2 : 6 ≤ 6 := by decide
  have hPc := hP.sub (ws' := [(h0, .inr (12, [a0, a1, a2, a3, .ref h4, a5, a6, a7, a8])), (h4, .inr (4, [b0, b1, .int 0, b3, b4, b5, b6, b7, b8, b9, b10, b11, b12, b13]))]) [0, 1] rfl
  have hDc := hD.sub (ws' := [(h0, .inr (12, [a0, a1, a2, a3, .ref h4, a5, a6, a7, a8])), (h4, .inr (4, [b0, b1, .int 0, b3, b4, b5, b6, b7, b8, b9, b10, b11, b12, b13]))]) [0, 1] (by decide) rfl
  have hKc := hK.sub (tys' := []) [] rfl
  have hFc := va_free (wc := [(h0, .inr (12, [a0, a1, a2, a3, .ref h4, a5, a6, a7, a8])), (h4, .inr (4, [b0, b1, .int 0, b3, b4, b5, b6, b7, b8, b9, b10, b11, b12, b13]))]) hD hS hA [0, 1] rfl
  refine xz_callX (vx_runV (As := [.int k1]) (rest := []) ⟨hx, hb, hml, hown, hts⟩ (x_X12_needOutput l hl0 dC dI h0 h4 k1 a0 a1 a2 a3 a5 a6 a7 a8 b0 b1 b3 b4 b5 b6 b7 b8 b9 b10 b11 b12 b13 _) (cwV 1 hts wV_X12_visibleRow_X12_needOutput rfl rfl rfl (by decide +kernel) ⟨Nat.le_of_ble_eq_true rfl, Nat.le_of_ble_eq_true rfl⟩) ⟨fun a U g mk q => by obtain ⟨q0, q1, qP, qK, qD, qF, qZ⟩ := q; exact ⟨q0, q1, qP, va_K.moved (u := U) (U := U.calling g mk a) (Vm.Alike.refl U.vm) qK, qD, xz_F.same rfl qF, xz_Z.same (Vm.Alike.refl U.vm) rfl qZ⟩, va_recv hKc hPc (ci := 12) (q0 := 0) rfl rfl, fun U hU hW => ⟨rfl, by rw [hU], by rw [hU]; exact hPc, va_K.moved hW.alike hKc, hDc.weaken (fun _ _ _ _ => trivial), xz_F.warm hW hF9, hZ9.to hS hFc hW.alike hU⟩⟩ rfl rfl hl.1 rfl (lv_room (Nat.le_of_ble_eq_true rfl)) dX12_visibleRow_2 ⟨h_1, h_2⟩) (fun _ _ _ h9 => by obtain ⟨⟨_, h9⟩, _⟩ := h9; simp at h9) hS hFc (fun q _ h => hFc q h) (fun E ce q9 u t H1 locs ht hvm hw hB hz1 hk1 hS hce hcv hcl => ?_)
  obtain ⟨hE, hP1, hK1, hD1⟩ := hB
  subst hE
  rw [ht] at hP1
  have hK1 := va_K.moved hvm.symm hK1
  obtain ⟨hP, hD⟩ := va_join (wr := []) (w1 := [(h0, .inr (12, [a0, a1, a2, a3, .ref h4, a5, a6, a7, a8])), (h4, .inr (4, [b0, b1, .int 0, b3, b4, b5, b6, b7, b8, b9, b10, b11, b12, b13]))]) hP hD [0, 1] [] rfl rfl (by decide) (by decide) hk1 hFc hP1 hD1
  have hP9 := hP.sub (ws' := [(h0, .inr (12, [a0, a1, a2, a3, .ref h4, a5, a6, a7, a8])), (h4, .inr (4, [b0, b1, .int 0, b3, b4, b5, b6, b7, b8, b9, b10, b11, b12, b13]))]) [0, 1] rfl
  have hD9 := hD.sub (ws' := [(h0, .inr (12, [a0, a1, a2, a3, .ref h4, a5, a6, a7, a8])), (h4, .inr (4, [b0, b1, .int 0, b3, b4, b5, b6, b7, b8, b9, b10, b11, b12, b13]))]) [0, 1] (by decide) rfl
  have hK9 := hK.sub (tys' := []) [] rfl
  exact vx_out hout hlocks hce hcv hcl (fun t9 e9 a9 => ⟨(), trivial, ⟨rfl, by rw [e9]; exact hP9, va_K.moved a9 hK9, hD9⟩, hS.F e9⟩) hS.2.2 (by decide) (by decide)

abbrev ax_X12_row (dC : Nat → ClassId) (dI : Nat → Nat → Nat) (A : Nat → Prop) (h0 h4 : Nat) (k1 k2 k3 : Int32) (a0 a1 a2 a3 a5 a6 a7 a8 b0 b1 b3 b4 b5 b6 b7 b8 b9 b10 b11 b12 b13 : Value) (E : String) (_ : Unit) (t : State) : Prop := E = "java/lang/IndexOutOfBoundsException" ∧ va_P (dC, dI) vwCl [(h0, .inr (12, [a0, a1, a2, a3, .ref h4, a5, a6, a7, a8])), (h4, .inr (4, [b0, b1, .int 0, b3, b4, b5, b6, b7, b8, b9, b10, b11, b12, b13]))] t.heap ∧ va_K (dC, dI) vwCl [] t ∧ va_D A [(h0, .inr (12, [a0, a1, a2, a3, .ref h4, a5, a6, a7, a8])), (h4, .inr (4, [b0, b1, .int 0, b3, b4, b5, b6, b7, b8, b9, b10, b11, b12, b13]))]
theorem dX12_row_0 : decode cX12_row 0 = .ok (.aload_n 0, 1) := by decide +kernel
theorem dX12_row_1 : decode cX12_row 1 = .ok (.iload_n 1, 1) := by decide +kernel
theorem dX12_row_2 : decode cX12_row 2 = .ok (.iload_n 2, 1) := by decide +kernel
theorem dX12_row_3 : decode cX12_row 3 = .ok (.invokevirtual 184, 3) := by decide +kernel
def ww_X12_row : List Cond := [.methodLink RX12 184 yX12_visibleRow, .instanceMethod yX12_visibleRow, .selects RX12 yX12_visibleRow yX12_visibleRow, .initialized RX12]
def wv_X12_row : List Cond := .code yX12_row cX12_row 5 (some .long) :: (ww_X12_row ++ (wv_X12_visibleRow ++ []))
theorem wm_X12_row {w : Cond} (i : Nat) (h : ww_X12_row[i]? = some w) : w ∈ wv_X12_row := List.mem_cons_of_mem _ (List.mem_append_left _ (List.mem_of_getElem? h))
set_option maxRecDepth 100000 in
theorem gw_X12_row : wv_X12_row.all goodWord = true := by decide +kernel
theorem wg_X12_row_X12_visibleRow : GoodIn wv_X12_row wv_X12_visibleRow := goodIn_sub (fun w h => List.mem_cons_of_mem _ (List.mem_append_right _ (List.mem_append_left _ h))) gw_X12_visibleRow
theorem wV_X12_row_X12_visibleRow : GoodIn wv_X12_row (wsV RX12 184 RX12 yX12_visibleRow wv_X12_visibleRow) := goodIn_app (goodIn_sub (fun w h => by simp only [List.mem_cons, List.not_mem_nil, or_false] at h; rcases h with rfl | rfl | rfl | rfl <;> first | exact wm_X12_row 0 rfl | exact wm_X12_row 1 rfl | exact wm_X12_row 2 rfl | exact wm_X12_row 3 rfl) (by decide +kernel)) wg_X12_row_X12_visibleRow
set_option maxHeartbeats 4000000 in
set_option maxRecDepth 100000 in
/-- row(k, i, column) where there is no job: IndexOutOfBoundsException -/
theorem x_X12_row (l : Launch) (hl0 : l.stackTraces = false) (dC : Nat → ClassId) (dI : Nat → Nat → Nat) (h0 h4 : Nat) (k1 k2 k3 : Int32) (a0 a1 a2 a3 a5 a6 a7 a8 b0 b1 b3 b4 b5 b6 b7 b8 b9 b10 b11 b12 b13 : Value) (sz : Nat) : vx_Met l yX12_row wv_X12_row ({ frames := 8, cells := 1, slots := 6, locals := 125 }) (va_Pc [.ref h0, .int k1, .int k2, .int k3] (fun U => U.heap.size = sz ∧ va_P (dC, dI) vwCl [(h0, .inr (12, [a0, a1, a2, a3, .ref h4, a5, a6, a7, a8])), (h4, .inr (4, [b0, b1, .int 0, b3, b4, b5, b6, b7, b8, b9, b10, b11, b12, b13]))] U.heap ∧ va_K (dC, dI) vwCl [] U ∧ va_D (fun _ => True) [(h0, .inr (12, [a0, a1, a2, a3, .ref h4, a5, a6, a7, a8])), (h4, .inr (4, [b0, b1, .int 0, b3, b4, b5, b6, b7, b8, b9, b10, b11, b12, b13]))] ∧ xz_F U ∧ xz_Z (va_A [(h0, .inr (12, [a0, a1, a2, a3, .ref h4, a5, a6, a7, a8])), (h4, .inr (4, [b0, b1, .int 0, b3, b4, b5, b6, b7, b8, b9, b10, b11, b12, b13]))] sz) U U.heap)) (va_Ql (fun _ (_ : Unit) => False) (fun _ _ => True) (va_A [(h0, .inr (12, [a0, a1, a2, a3, .ref h4, a5, a6, a7, a8])), (h4, .inr (4, [b0, b1, .int 0, b3, b4, b5, b6, b7, b8, b9, b10, b11, b12, b13]))] sz)) (vx_X (fun _ : Unit => True) (ax_X12_row dC dI (va_A [(h0, .inr (12, [a0, a1, a2, a3, .ref h4, a5, a6, a7, a8])), (h4, .inr (4, [b0, b1, .int 0, b3, b4, b5, b6, b7, b8, b9, b10, b11, b12, b13]))] sz) h0 h4 k1 k2 k3 a0 a1 a2 a3 a5 a6 a7 a8 b0 b1 b3 b4 b5 b6 b7 b8 b9 b10 b11 b12 b13) (va_A [(h0, .inr (12, [a0, a1, a2, a3, .ref h4, a5, a6, a7, a8])), (h4, .inr (4, [b0, b1, .int 0, b3, b4, b5, b6, b7, b8, b9, b10, b11, b12, b13]))] sz)) 1 6 (va_A [(h0, .inr (12, [a0, a1, a2, a3, .ref h4, a5, a6, a7, a8])), (h4, .inr (4, [b0, b1, .int 0, b3, b4, b5, b6, b7, b8, b9, b10, b11, b12, b13]))] sz) := by
  refine vx_ofW (cc := cX12_row) (maxL := 5) (ret := (some .long)) (by decide) rfl ?_
  intro p e s m args below meth c s₁ B hml hex hv
  obtain ⟨rfl, hsz, hP, hK, hD0, hF9, hZ9⟩ := hv
  have hx := B.exec
  have hb := B.bytes
  have hr := B.returns
  have hts := atoms_spec (ws := wv_X12_row) B.pre
  have hown : s.vm.findClass RX12 = some m.cls := findClass_of_methodNamed B.named
  have hlocks := B.notSynchronized
  subst hsz
  have hD := hD0.self (sz := s.heap.size)
  generalize hAe : va_A [(h0, .inr (12, [a0, a1, a2, a3, .ref h4, a5, a6, a7, a8])), (h4, .inr (4, [b0, b1, .int 0, b3, b4, b5, b6, b7, b8, b9, b10, b11, b12, b13]))] s.heap.size = A at hD hZ9 ⊢
  have hA : ∀ q : Nat, s.heap.size ≤ q → A q := fun q h => by rw [← hAe]; exact Or.inr h
  have hS : va_S A s.heap s.heap [] := va_S.rf
  have hP : va_P (dC, dI) vwCl [(h0, .inr (12, [a0, a1, a2, a3, .ref h4, a5, a6, a7, a8])), (h4, .inr (4, [b0, b1, .int 0, b3, b4, b5, b6, b7, b8, b9, b10, b11, b12, b13]))] s.heap := hP
  have hl := lv_entry ([.ref h0, .int k1, .int k2, .int k3]) (n := 5) (Nat.le_of_ble_eq_true rfl)
  rw [lg_entry_eq]
  generalize (lg_sl ([.ref h0, .int k1, .int k2, .int k3]) ++ List.replicate (5 - (lg_sl ([.ref h0, .int k1, .int k2, .int k3])).length) Slot.unset).toArray = ls at hl ⊢
  have hl : lv_has ls 5 [(0, .ref h0), (1, .int k1), (2, .int k2), (3, .int k3)] := hl
  have hout : ∀ {k : Nat}, ∀ x ∈ c.exceptionTable.toList, covers x k = false := fun x h => (hex x h).elim
  refine lv_aload_n hx hb dX12_row_0 rfl (lv_at hl 0 rfl) ?_
  refine lv_iload_n hx hb dX12_row_1 rfl (lv_at hl 1 rfl) ?_
  refine lv_iload_n hx hb dX12_row_2 rfl (lv_at hl 2 rfl) ?_
  have h_1 : 1 ≤ 1 := by decide
  have h_2 : 6 ≤ 6 := by decide
  have hPc := hP.sub (ws' := [(h0, .inr (12, [a0, a1, a2, a3, .ref h4, a5, a6, a7, a8])), (h4, .inr (4, [b0, b1, .int 0, b3, b4, b5, b6, b7, b8, b9, b10, b11, b12, b13]))]) [0, 1] rfl
  have hDc := hD.sub (ws' := [(h0, .inr (12, [a0, a1, a2, a3, .ref h4, a5, a6, a7, a8])), (h4, .inr (4, [b0, b1, .int 0, b3, b4, b5, b6, b7, b8, b9, b10, b11, b12, b13]))]) [0, 1] (by decide) rfl
  have hKc := hK.sub (tys' := []) [] rfl
  have hFc := va_free (wc := [(h0, .inr (12, [a0, a1, a2, a3, .ref h4, a5, a6, a7, a8])), (h4, .inr (4, [b0, b1, .int 0, b3, b4, b5, b6, b7, b8, b9, b10, b11, b12, b13]))]) hD hS hA [0, 1] rfl
  refine xz_callX (vx_runV (As := [.int k1, .int k2]) (rest := []) ⟨hx, hb, hml, hown, hts⟩ (x_X12_visibleRow l hl0 dC dI h0 h4 k1 k2 a0 a1 a2 a3 a5 a6 a7 a8 b0 b1 b3 b4 b5 b6 b7 b8 b9 b10 b11 b12 b13 _) (cwV 2 hts wV_X12_row_X12_visibleRow rfl rfl rfl (by decide +kernel) ⟨Nat.le_of_ble_eq_true rfl, Nat.le_of_ble_eq_true rfl⟩) ⟨fun a U g mk q => by obtain ⟨q0, q1, qP, qK, qD, qF, qZ⟩ := q; exact ⟨q0, q1, qP, va_K.moved (u := U) (U := U.calling g mk a) (Vm.Alike.refl U.vm) qK, qD, xz_F.same rfl qF, xz_Z.same (Vm.Alike.refl U.vm) rfl qZ⟩, va_recv hKc hPc (ci := 12) (q0 := 0) rfl rfl, fun U hU hW => ⟨rfl, by rw [hU], by rw [hU]; exact hPc, va_K.moved hW.alike hKc, hDc.weaken (fun _ _ _ _ => trivial), xz_F.warm hW hF9, hZ9.to hS hFc hW.alike hU⟩⟩ rfl rfl hl.1 rfl (lv_room (Nat.le_of_ble_eq_true rfl)) dX12_row_3 ⟨h_1, h_2⟩) (fun _ _ _ h9 => by obtain ⟨⟨_, h9⟩, _⟩ := h9; simp at h9) hS hFc (fun q _ h => hFc q h) (fun E ce q9 u t H1 locs ht hvm hw hB hz1 hk1 hS hce hcv hcl => ?_)
  obtain ⟨hE, hP1, hK1, hD1⟩ := hB
  subst hE
  rw [ht] at hP1
  have hK1 := va_K.moved hvm.symm hK1
  obtain ⟨hP, hD⟩ := va_join (wr := []) (w1 := [(h0, .inr (12, [a0, a1, a2, a3, .ref h4, a5, a6, a7, a8])), (h4, .inr (4, [b0, b1, .int 0, b3, b4, b5, b6, b7, b8, b9, b10, b11, b12, b13]))]) hP hD [0, 1] [] rfl rfl (by decide) (by decide) hk1 hFc hP1 hD1
  have hP9 := hP.sub (ws' := [(h0, .inr (12, [a0, a1, a2, a3, .ref h4, a5, a6, a7, a8])), (h4, .inr (4, [b0, b1, .int 0, b3, b4, b5, b6, b7, b8, b9, b10, b11, b12, b13]))]) [0, 1] rfl
  have hD9 := hD.sub (ws' := [(h0, .inr (12, [a0, a1, a2, a3, .ref h4, a5, a6, a7, a8])), (h4, .inr (4, [b0, b1, .int 0, b3, b4, b5, b6, b7, b8, b9, b10, b11, b12, b13]))]) [0, 1] (by decide) rfl
  have hK9 := hK.sub (tys' := []) [] rfl
  exact vx_out hout hlocks hce hcv hcl (fun t9 e9 a9 => ⟨(), trivial, ⟨rfl, by rw [e9]; exact hP9, va_K.moved a9 hK9, hD9⟩, hS.F e9⟩) hS.2.2 (by decide) (by decide)

abbrev ax_X12_lineage (dC : Nat → ClassId) (dI : Nat → Nat → Nat) (A : Nat → Prop) (h0 h4 : Nat) (k1 k2 k3 : Int32) (a0 a1 a2 a3 a5 a6 a7 a8 b0 b1 b3 b4 b5 b6 b7 b8 b9 b10 b11 b12 b13 : Value) (E : String) (_ : Unit) (t : State) : Prop := E = "java/lang/IndexOutOfBoundsException" ∧ va_P (dC, dI) vwCl [(h0, .inr (12, [a0, a1, a2, a3, .ref h4, a5, a6, a7, a8])), (h4, .inr (4, [b0, b1, .int 0, b3, b4, b5, b6, b7, b8, b9, b10, b11, b12, b13]))] t.heap ∧ va_K (dC, dI) vwCl [] t ∧ va_D A [(h0, .inr (12, [a0, a1, a2, a3, .ref h4, a5, a6, a7, a8])), (h4, .inr (4, [b0, b1, .int 0, b3, b4, b5, b6, b7, b8, b9, b10, b11, b12, b13]))]
theorem dX12_lineage_0 : decode cX12_lineage 0 = .ok (.aload_n 0, 1) := by decide +kernel
theorem dX12_lineage_1 : decode cX12_lineage 1 = .ok (.iload_n 1, 1) := by decide +kernel
theorem dX12_lineage_2 : decode cX12_lineage 2 = .ok (.iload_n 2, 1) := by decide +kernel
theorem dX12_lineage_3 : decode cX12_lineage 3 = .ok (.invokevirtual 184, 3) := by decide +kernel
def ww_X12_lineage : List Cond := [.methodLink RX12 184 yX12_visibleRow, .instanceMethod yX12_visibleRow, .selects RX12 yX12_visibleRow yX12_visibleRow, .initialized RX12]
def wv_X12_lineage : List Cond := .code yX12_lineage cX12_lineage 6 (some .int) :: (ww_X12_lineage ++ (wv_X12_visibleRow ++ []))
theorem wm_X12_lineage {w : Cond} (i : Nat) (h : ww_X12_lineage[i]? = some w) : w ∈ wv_X12_lineage := List.mem_cons_of_mem _ (List.mem_append_left _ (List.mem_of_getElem? h))
set_option maxRecDepth 100000 in
theorem gw_X12_lineage : wv_X12_lineage.all goodWord = true := by decide +kernel
theorem wg_X12_lineage_X12_visibleRow : GoodIn wv_X12_lineage wv_X12_visibleRow := goodIn_sub (fun w h => List.mem_cons_of_mem _ (List.mem_append_right _ (List.mem_append_left _ h))) gw_X12_visibleRow
theorem wV_X12_lineage_X12_visibleRow : GoodIn wv_X12_lineage (wsV RX12 184 RX12 yX12_visibleRow wv_X12_visibleRow) := goodIn_app (goodIn_sub (fun w h => by simp only [List.mem_cons, List.not_mem_nil, or_false] at h; rcases h with rfl | rfl | rfl | rfl <;> first | exact wm_X12_lineage 0 rfl | exact wm_X12_lineage 1 rfl | exact wm_X12_lineage 2 rfl | exact wm_X12_lineage 3 rfl) (by decide +kernel)) wg_X12_lineage_X12_visibleRow
set_option maxHeartbeats 4000000 in
set_option maxRecDepth 100000 in
/-- lineage(k, i, n) where there is no job: IndexOutOfBoundsException -/
theorem x_X12_lineage (l : Launch) (hl0 : l.stackTraces = false) (dC : Nat → ClassId) (dI : Nat → Nat → Nat) (h0 h4 : Nat) (k1 k2 k3 : Int32) (a0 a1 a2 a3 a5 a6 a7 a8 b0 b1 b3 b4 b5 b6 b7 b8 b9 b10 b11 b12 b13 : Value) (sz : Nat) : vx_Met l yX12_lineage wv_X12_lineage ({ frames := 8, cells := 1, slots := 6, locals := 125 }) (va_Pc [.ref h0, .int k1, .int k2, .int k3] (fun U => U.heap.size = sz ∧ va_P (dC, dI) vwCl [(h0, .inr (12, [a0, a1, a2, a3, .ref h4, a5, a6, a7, a8])), (h4, .inr (4, [b0, b1, .int 0, b3, b4, b5, b6, b7, b8, b9, b10, b11, b12, b13]))] U.heap ∧ va_K (dC, dI) vwCl [] U ∧ va_D (fun _ => True) [(h0, .inr (12, [a0, a1, a2, a3, .ref h4, a5, a6, a7, a8])), (h4, .inr (4, [b0, b1, .int 0, b3, b4, b5, b6, b7, b8, b9, b10, b11, b12, b13]))] ∧ xz_F U ∧ xz_Z (va_A [(h0, .inr (12, [a0, a1, a2, a3, .ref h4, a5, a6, a7, a8])), (h4, .inr (4, [b0, b1, .int 0, b3, b4, b5, b6, b7, b8, b9, b10, b11, b12, b13]))] sz) U U.heap)) (va_Qi (fun _ (_ : Unit) => False) (fun _ _ => True) (va_A [(h0, .inr (12, [a0, a1, a2, a3, .ref h4, a5, a6, a7, a8])), (h4, .inr (4, [b0, b1, .int 0, b3, b4, b5, b6, b7, b8, b9, b10, b11, b12, b13]))] sz)) (vx_X (fun _ : Unit => True) (ax_X12_lineage dC dI (va_A [(h0, .inr (12, [a0, a1, a2, a3, .ref h4, a5, a6, a7, a8])), (h4, .inr (4, [b0, b1, .int 0, b3, b4, b5, b6, b7, b8, b9, b10, b11, b12, b13]))] sz) h0 h4 k1 k2 k3 a0 a1 a2 a3 a5 a6 a7 a8 b0 b1 b3 b4 b5 b6 b7 b8 b9 b10 b11 b12 b13) (va_A [(h0, .inr (12, [a0, a1, a2, a3, .ref h4, a5, a6, a7, a8])), (h4, .inr (4, [b0, b1, .int 0, b3, b4, b5, b6, b7, b8, b9, b10, b11, b12, b13]))] sz)) 1 6 (va_A [(h0, .inr (12, [a0, a1, a2, a3, .ref h4, a5, a6, a7, a8])), (h4, .inr (4, [b0, b1, .int 0, b3, b4, b5, b6, b7, b8, b9, b10, b11, b12, b13]))] sz) := by
  refine vx_ofW (cc := cX12_lineage) (maxL := 6) (ret := (some .int)) (by decide) rfl ?_
  intro p e s m args below meth c s₁ B hml hex hv
  obtain ⟨rfl, hsz, hP, hK, hD0, hF9, hZ9⟩ := hv
  have hx := B.exec
  have hb := B.bytes
  have hr := B.returns
  have hts := atoms_spec (ws := wv_X12_lineage) B.pre
  have hown : s.vm.findClass RX12 = some m.cls := findClass_of_methodNamed B.named
  have hlocks := B.notSynchronized
  subst hsz
  have hD := hD0.self (sz := s.heap.size)
  generalize hAe : va_A [(h0, .inr (12, [a0, a1, a2, a3, .ref h4, a5, a6, a7, a8])), (h4, .inr (4, [b0, b1, .int 0, b3, b4, b5, b6, b7, b8, b9, b10, b11, b12, b13]))] s.heap.size = A at hD hZ9 ⊢
  have hA : ∀ q : Nat, s.heap.size ≤ q → A q := fun q h => by rw [← hAe]; exact Or.inr h
  have hS : va_S A s.heap s.heap [] := va_S.rf
  have hP : va_P (dC, dI) vwCl [(h0, .inr (12, [a0, a1, a2, a3, .ref h4, a5, a6, a7, a8])), (h4, .inr (4, [b0, b1, .int 0, b3, b4, b5, b6, b7, b8, b9, b10, b11, b12, b13]))] s.heap := hP
  have hl := lv_entry ([.ref h0, .int k1, .int k2, .int k3]) (n := 6) (Nat.le_of_ble_eq_true rfl)
  rw [lg_entry_eq]
  generalize (lg_sl ([.ref h0, .int k1, .int k2, .int k3]) ++ List.replicate (6 - (lg_sl ([.ref h0, .int k1, .int k2, .int k3])).length) Slot.unset).toArray = ls at hl ⊢
  have hl : lv_has ls 6 [(0, .ref h0), (1, .int k1), (2, .int k2), (3, .int k3)] := hl
  have hout : ∀ {k : Nat}, ∀ x ∈ c.exceptionTable.toList, covers x k = false := fun x h => (hex x h).elim
  refine lv_aload_n hx hb dX12_lineage_0 rfl (lv_at hl 0 rfl) ?_
  refine lv_iload_n hx hb dX12_lineage_1 rfl (lv_at hl 1 rfl) ?_
  refine lv_iload_n hx hb dX12_lineage_2 rfl (lv_at hl 2 rfl) ?_
  have h_1 : 1 ≤ 1 := by decide
  have h_2 : 6 ≤ 6 := by decide
  have hPc := hP.sub (ws' := [(h0, .inr (12, [a0, a1, a2, a3, .ref h4, a5, a6, a7, a8])), (h4, .inr (4, [b0, b1, .int 0, b3, b4, b5, b6, b7, b8, b9, b10, b11, b12, b13]))]) [0, 1] rfl
  have hDc := hD.sub (ws' := [(h0, .inr (12, [a0, a1, a2, a3, .ref h4, a5, a6, a7, a8])), (h4, .inr (4, [b0, b1, .int 0, b3, b4, b5, b6, b7, b8, b9, b10, b11, b12, b13]))]) [0, 1] (by decide) rfl
  have hKc := hK.sub (tys' := []) [] rfl
  have hFc := va_free (wc := [(h0, .inr (12, [a0, a1, a2, a3, .ref h4, a5, a6, a7, a8])), (h4, .inr (4, [b0, b1, .int 0, b3, b4, b5, b6, b7, b8, b9, b10, b11, b12, b13]))]) hD hS hA [0, 1] rfl
  refine xz_callX (vx_runV (As := [.int k1, .int k2]) (rest := []) ⟨hx, hb, hml, hown, hts⟩ (x_X12_visibleRow l hl0 dC dI h0 h4 k1 k2 a0 a1 a2 a3 a5 a6 a7 a8 b0 b1 b3 b4 b5 b6 b7 b8 b9 b10 b11 b12 b13 _) (cwV 2 hts wV_X12_lineage_X12_visibleRow rfl rfl rfl (by decide +kernel) ⟨Nat.le_of_ble_eq_true rfl, Nat.le_of_ble_eq_true rfl⟩) ⟨fun a U g mk q => by obtain ⟨q0, q1, qP, qK, qD, qF, qZ⟩ := q; exact ⟨q0, q1, qP, va_K.moved (u := U) (U := U.calling g mk a) (Vm.Alike.refl U.vm) qK, qD, xz_F.same rfl qF, xz_Z.same (Vm.Alike.refl U.vm) rfl qZ⟩, va_recv hKc hPc (ci := 12) (q0 := 0) rfl rfl, fun U hU hW => ⟨rfl, by rw [hU], by rw [hU]; exact hPc, va_K.moved hW.alike hKc, hDc.weaken (fun _ _ _ _ => trivial), xz_F.warm hW hF9, hZ9.to hS hFc hW.alike hU⟩⟩ rfl rfl hl.1 rfl (lv_room (Nat.le_of_ble_eq_true rfl)) dX12_lineage_3 ⟨h_1, h_2⟩) (fun _ _ _ h9 => by obtain ⟨⟨_, h9⟩, _⟩ := h9; simp at h9) hS hFc (fun q _ h => hFc q h) (fun E ce q9 u t H1 locs ht hvm hw hB hz1 hk1 hS hce hcv hcl => ?_)
  obtain ⟨hE, hP1, hK1, hD1⟩ := hB
  subst hE
  rw [ht] at hP1
  have hK1 := va_K.moved hvm.symm hK1
  obtain ⟨hP, hD⟩ := va_join (wr := []) (w1 := [(h0, .inr (12, [a0, a1, a2, a3, .ref h4, a5, a6, a7, a8])), (h4, .inr (4, [b0, b1, .int 0, b3, b4, b5, b6, b7, b8, b9, b10, b11, b12, b13]))]) hP hD [0, 1] [] rfl rfl (by decide) (by decide) hk1 hFc hP1 hD1
  have hP9 := hP.sub (ws' := [(h0, .inr (12, [a0, a1, a2, a3, .ref h4, a5, a6, a7, a8])), (h4, .inr (4, [b0, b1, .int 0, b3, b4, b5, b6, b7, b8, b9, b10, b11, b12, b13]))]) [0, 1] rfl
  have hD9 := hD.sub (ws' := [(h0, .inr (12, [a0, a1, a2, a3, .ref h4, a5, a6, a7, a8])), (h4, .inr (4, [b0, b1, .int 0, b3, b4, b5, b6, b7, b8, b9, b10, b11, b12, b13]))]) [0, 1] (by decide) rfl
  have hK9 := hK.sub (tys' := []) [] rfl
  exact vx_out hout hlocks hce hcv hcl (fun t9 e9 a9 => ⟨(), trivial, ⟨rfl, by rw [e9]; exact hP9, va_K.moved a9 hK9, hD9⟩, hS.F e9⟩) hS.2.2 (by decide) (by decide)


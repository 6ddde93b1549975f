/-! the law: two worlds, the array between, the script -/
def A0 (s : State) : Nat → Prop := fun q => s.heap.size ≤ q
def AX (s : State) (σ : Sg) (o : Nat) : Nat → Prop := fun q => s.heap.size ≤ q ∧ q ∉ gD σ ∧ q ≠ o
def LSt (D : va_G) (cA : Nat → ClassId) (s : State) (σc σr : Sg) (o : Nat) (v : Int64) (H : Heap) (locs : List Loc) : Prop :=
  (va_P D vwCl (wd cA σc) H ∧ va_P D vwCl (wd cA σr) H ∧ oAt D cA o v H) ∧ ((gD σc).Nodup ∧ (gD σr).Nodup ∧ (∀ a ∈ gD σc, s.heap.size ≤ a ∧ a ∉ gD σr ∧ a ≠ o) ∧ (∀ a ∈ gD σr, s.heap.size ≤ a ∧ a ≠ o) ∧ s.heap.size ≤ o) ∧ va_S (A0 s) s.heap H locs ∧ (H.size ≤ s.heap.size + gc σc ∧ tot H ≤ tot s.heap + gs σc) ∧ (gc σc ≤ BC ∧ gs σc ≤ BS) ∧ (589000 ≤ gc σr ∧ gc σr ≤ BC ∧ 6900000 ≤ gs σr ∧ gs σr ≤ BS)
theorem ZX.narrow {cA : Nat → ClassId} {A B : Nat → Prop} {U : State} {H : Heap} (h : ZX cA A U H) (hAB : ∀ q, B q → A q) : ZX cA B U H := by
  obtain ⟨h1, h2, h3, h4, h5, h6, f, h7⟩ := h
  exact ⟨h1.narrow hAB, h2.narrow hAB, fun q hq => ⟨(h3 q hq).1, (h3 q hq).2.1.narrow hAB, (h3 q hq).2.2.1.narrow hAB, (h3 q hq).2.2.2.1.narrow hAB, (h3 q hq).2.2.2.2.narrow hAB⟩, h4.narrow hAB, h5.narrow hAB, h6.narrow hAB, f, h7.narrow hAB⟩
section LAW
variable {p : Program} {l : Launch} {e : Env} {s : State} {m : MethodId} {args : Array Value} {below : List Frame} {meth : Method} {c : Code} {D : va_G} {cA : Nat → ClassId} {tys : List (ClassId × FieldType)} {Q : State → Prop} {σc σr : Sg} {o : Nat} {v : Int64} {H : Heap} {locs : List Loc} {ls : Array Slot} {pc : Nat} {lo : List (Nat × Value)} {st0 rest : List Value}
def JLw (p : Program) (l : Launch) (e : Env) (s : State) (m : MethodId) (args : Array Value) (below : List Frame) (meth : Method) (c : Code) (D : va_G) (cA : Nat → ClassId) (o : Nat) (Q : State → Prop) (σc σr : Sg) (v : Int64) (pc : Nat) (lo : List (Nat × Value)) (st : List Value) : Prop :=
  ∀ (H : Heap) (locs : List Loc) (ls : Array Slot), LSt D cA s σc σr o v H locs → lv_has ls 8 lo → W p l e room_1 s m args below meth c H locs (gc σc) (gs σc) Q (F0 m pc ls st)
theorem l_run {R : Room} {mc ms cells slots : Nat} {Qa : State → Outcome → State → Prop} {XC : String → State → State → Prop} {free : Addr → Prop} {A9 : Nat → Prop} (hr : vx_Run p l e R s m args below meth c H locs cells slots mc ms (F0 m pc ls st0) rest Qa XC free) (hnx : ∀ E st t, ¬ XC E st t) (hfr : ∀ q, free q → A0 s q) (hF : ∀ st w t, Qa st (.returned w) t → va_F A9 st t) (hA9 : ∀ q, A9 q → A0 s q) (hS : va_S (A0 s) s.heap H locs)
    (kk : ∀ (w : Option Value) (st t : State) (locs' : List Loc), st.heap = H → Qa st (.returned w) t → H.size ≤ t.heap.size → (∀ q, q < H.size → ¬ A9 q → t.heap[q]? = H[q]?) → va_S (A0 s) s.heap t.heap locs' → ∃ k n, t.heap.size ≤ s.heap.size + k ∧ tot t.heap ≤ tot s.heap + n ∧ W p l e R s m args below meth c t.heap locs' k n Q (F0 m (pc + 3) ls (w.toList ++ rest))) : W p l e R s m args below meth c H locs cells slots Q (F0 m pc ls st0) := by
  intro T hT X
  rcases hr T hT X with ⟨w, st₀, t, T', L, e0, X', hL, e1, e2, hq, st⟩ | ⟨q, st₀, t, T', L, E, ce, e0, X', hL, e1, e2, hq, -⟩
  · obtain ⟨z1, z2, hS'⟩ := vx_keep (A1 := A9) e0 e1 hS (fun q _ h => hA9 q h) hfr hL (hF _ _ _ hq)
    rw [e1] at z1 z2 hS'
    obtain ⟨k, n, b1, b2, hw⟩ := kk w st₀ t (locs ++ L) e0 hq z1 z2 hS'
    obtain ⟨t2, a1, c1⟩ := hw T' e1 (st_re X' (by rw [e1]; exact b1) (by rw [e1]; exact b2))
    exact ⟨t2, st _ a1, c1⟩
  · exact (hnx _ _ _ hq).elim
theorem LSt.lt (h : LSt D cA s σc σr o v H locs) {a : Nat} (ha : a ∈ gD σr) : a < H.size := (wdP.mp h.1.2.1 a ha).lt
theorem LSt.ltc (h : LSt D cA s σc σr o v H locs) {a : Nat} (ha : a ∈ gD σc) : a < H.size := (wdP.mp h.1.1 a ha).lt
theorem oAt.lt (h : oAt D cA o v H) : o < H.size := by
  obtain ⟨f, _, h⟩ := h
  exact va_at.lt h
theorem oAt.kept {H1 : Heap} (h : oAt D cA o v H) (e : H1[o]? = H[o]?) : oAt D cA o v H1 := by
  obtain ⟨f, q, h⟩ := h
  exact ⟨f, q, va_at.kept h e⟩
theorem wd_kept {σ : Sg} {H1 : Heap} (h : va_P D vwCl (wd cA σ) H) (k : ∀ a ∈ gD σ, H1[a]? = H[a]?) : va_P D vwCl (wd cA σ) H1 := wdP.mpr (fun a ha => va_at.kept (wdP.mp h a ha) (k a ha))
theorem pw_C (B : Cx p s m args c code 8 RL D cA tys (A0 s)) (h : LSt D cA s σc σr o v H locs) (U : State) (hU : U.heap = H) (hW : s.WarmedH U.vm) : Pw D cA tys (AX s σr o) σc U := by
  obtain ⟨⟨a1, a2, a3⟩, ⟨b1, b2, b3, b4, b5⟩, hS, _, ⟨d1, d2⟩, _⟩ := id h
  refine ⟨by rw [hU]; exact a1, wdD.mpr ⟨b1, b3⟩, va_K.moved hW.alike B.2.2.2.2.1, fun q hq => ?_, FX.warm hW B.2.2.2.2.2.2.2.1, (ZX.to B.2.2.2.2.2.2.2.2 hS hW hU).narrow (fun q w => w.1), d1, d2⟩
  rw [hU] at hq
  have z := hS.1
  exact ⟨by omega, fun w => by have := h.lt w; omega, fun w => by have := a3.lt; omega⟩
theorem pw_R (B : Cx p s m args c code 8 RL D cA tys (A0 s)) (h : LSt D cA s σc σr o v H locs) (U : State) (hU : U.heap = H) (hW : s.WarmedH U.vm) : Pw D cA tys (AX s σc o) σr U := by
  obtain ⟨⟨a1, a2, a3⟩, ⟨b1, b2, b3, b4, b5⟩, hS, _, _, ⟨d1, d2, d3, d4⟩⟩ := id h
  refine ⟨by rw [hU]; exact a2, wdD.mpr ⟨b2, fun a ha => ⟨(b4 a ha).1, fun w => (b3 a w).2.1 ha, (b4 a ha).2⟩⟩, va_K.moved hW.alike B.2.2.2.2.1, fun q hq => ?_, FX.warm hW B.2.2.2.2.2.2.2.1, (ZX.to B.2.2.2.2.2.2.2.2 hS hW hU).narrow (fun q w => w.1), d2, d4⟩
  rw [hU] at hq
  have z := hS.1
  exact ⟨by omega, fun w => by have := h.ltc w; omega, fun w => by have := a3.lt; omega⟩
/-- behind a call of the class's side -/
theorem ls_C (h : LSt D cA s σc σr o v H locs) {σ' : Sg} {v' : Int64} {H1 : Heap} {locs1 : List Loc} (tP : va_P D vwCl (wd cA σ') H1) (tD : va_D (AX s σr o) (wd cA σ')) (tO : oAt D cA o v' H1) (hc : gc σc ≤ gc σ' ∧ gs σc ≤ gs σ' ∧ gc σ' ≤ BC ∧ gs σ' ≤ BS) (z1 : H1.size ≤ H.size + (gc σ' - gc σc)) (z2 : tot H1 ≤ tot H + (gs σ' - gs σc)) (hk : ∀ a ∈ gD σr, H1[a]? = H[a]?) (hS : va_S (A0 s) s.heap H1 locs1) : LSt D cA s σ' σr o v' H1 locs1 := by
  obtain ⟨⟨a1, a2, a3⟩, ⟨b1, b2, b3, b4, b5⟩, _, ⟨c1, c2⟩, _, d⟩ := h
  obtain ⟨t1, t2⟩ := wdD.mp tD
  exact ⟨⟨tP, wd_kept a2 hk, tO⟩, ⟨t1, b2, t2, b4, b5⟩, hS, ⟨by omega, by omega⟩, ⟨hc.2.2.1, hc.2.2.2⟩, d⟩
/-- behind a call of the reference -/
theorem ls_R (h : LSt D cA s σc σr o v H locs) {σ' : Sg} {H1 : Heap} {locs1 : List Loc} (e1 : σ'.1 = σr.1) (tP : va_P D vwCl (wd cA σ') H1) (z1 : H1.size ≤ H.size + (gc σ' - gc σr)) (z2 : tot H1 ≤ tot H + (gs σ' - gs σr)) (hk : ∀ a ∈ gD σc, H1[a]? = H[a]?) (ho : H1[o]? = H[o]?) (hS : va_S (A0 s) s.heap H1 locs1) : LSt D cA s σc σ' o v H1 locs1 := by
  obtain ⟨⟨a1, a2, a3⟩, ⟨b1, b2, b3, b4, b5⟩, _, ⟨c1, c2⟩, dc, d⟩ := h
  have eD : gD σ' = gD σr := by show σ'.1.1 = σr.1.1; rw [e1]
  have eC : gc σ' = gc σr := by show σ'.1.2.1 = σr.1.2.1; rw [e1]
  have eS : gs σ' = gs σr := by show σ'.1.2.2 = σr.1.2.2; rw [e1]
  rw [eC] at z1
  rw [eS] at z2
  exact ⟨⟨wd_kept a1 hk, tP, a3.kept ho⟩, ⟨b1, by rw [eD]; exact b2, by rw [eD]; exact b3, by rw [eD]; exact b4, b5⟩, hS, ⟨by omega, by omega⟩, dc, by rw [eC, eS]; exact d⟩
section CAL
variable {y : MethodName} {bytes : ByteArray} {maxL fr lw index n : Nat} {ret : Option FieldType} {As : List Value} {Qn : Sg → Option Value → Prop} {Qx : Sg → String → Prop} {th : Nat} {hh : List (Nat × Nat × Nat × Nat)}
theorem l_C (B : Cx p s m args c code 8 RL D cA tys (A0 s)) (hL : LSt D cA s σc σr o v H locs) (hl : lv_has ls 8 lo) (hO : Ok l D cA tys (AX s σr o) y (.code y bytes maxL ret) fr lw (.ref th :: As) σc Qn Qx) (hnx : ∀ σ' E, ¬ Qx σ' E) (hw : ∀ w ∈ [Cond.methodLink RL index y, .instanceMethod y, .selects RX12 y y, .initialized RX12, .code y bytes maxL ret], w ∈ WAL) (hd0 : y.cls = RX12 ∧ y.cls ≠ "java/lang/invoke/MethodHandle" ∧ y.cls ≠ "java/lang/invoke/VarHandle" ∧ (parseMethodDescriptor y.desc).map (fun d => d.parameters.length) = some n) (hrm : fr + 1 ≤ 2048 ∧ 8 + (maxL + 11) + lw ≤ 84000) (hk : kO σc th 12) (hn : As.length = n) (hst : st0 = As.reverse ++ .ref th :: rest) (hW : (rest.map fun v => v.category).sum ≤ 8) (hd : decode code pc = .ok (.invokevirtual index, 3))
    (k : ∀ (σ' : Sg) (w : Option Value), Qn σ' w → JLw p l e s m args below meth c D cA o Q σ' σr v (pc + 3) lo (w.toList ++ rest)) : W p l e room_1 s m args below meth c H locs (gc σc) (gs σc) Q (F0 m pc ls st0) := by
  subst hst
  obtain ⟨q0, hq⟩ := wd_get (cA := cA) hk.1
  rw [ent_obj (r := (RX12, TX12, 9)) hk.2 rfl (by decide)] at hq
  have hb := hL.2.2.2.2.1
  refine l_run (A9 := AX s σr o) (vx_runV (As := As) (rest := rest) (b := th) (C := RX12) ⟨B.1, B.2.1, B.2.2.2.2.2.1, B.2.2.1, B.2.2.2.1⟩ hO (cwV n B.2.2.2.1 (wal_good (wal_app (fun w h => hw w (by simp only [List.mem_cons, List.not_mem_nil, or_false] at h ⊢; rcases h with h | h | h | h <;> simp [h])) (wal_self (hw _ (by simp))))) rfl rfl rfl hd0 hrm) ⟨pw_blind _, va_recv B.2.2.2.2.1 hL.1.1 (ci := 12) (q0 := q0) rfl hq, fun U hU hW => ⟨rfl, pw_C B hL U hU hW⟩⟩ rfl hn hl.1 rfl (lv_room hW) hd ⟨by show gc σc + (590000 - gc σc) ≤ 601024; have : gc σc ≤ 590000 := hb.1; omega, by show gs σc + (7000000 - gs σc) ≤ 7293033; have : gs σc ≤ 7000000 := hb.2; omega⟩) (fun E st t h => by obtain ⟨σ', h1, -⟩ := h; exact hnx σ' E h1) (fun q w => w.1) (fun st w t h => by obtain ⟨σ', v', -, -, hT⟩ := h; exact hT.2.2.2.2.2) (fun q w => w.1) hL.2.2.1 (fun w st t locs' e0 h z1 z2 hS => ?_)
  obtain ⟨σ', v', ev, hq9, tP, tD, hcn, s1, s2, hF⟩ := h
  rw [e0] at s1 s2
  have ew : w = v' := by cases ev; rfl
  subst ew
  have hL' := ls_C hL (v' := v) tP tD (hL.1.2.2.kept (z2 o hL.1.2.2.lt (fun w => w.2.2 rfl))) hcn s1 s2 (fun a ha => z2 a (hL.lt ha) (fun w => w.2.1 ha)) hS
  exact ⟨gc σ', gs σ', hL'.2.2.2.1.1, hL'.2.2.2.1.2, k σ' w hq9 t.heap locs' ls hL' hl⟩
theorem l_W {r9 : Unit} {Qw9 : Sg → Int → Int64 → Prop} (B : Cx p s m args c code 8 RL D cA tys (A0 s)) (hL : LSt D cA s σc σr o v H locs) (hl : lv_has ls 8 lo) (hO : Okw l D cA tys (AX s σr o) o v y (.codeWith y bytes maxL (some .int) hh) fr lw As σc Qw9) (hw : ∀ w ∈ [Cond.methodLink RL index y, .static y, .initialized y.cls, .codeWith y bytes maxL (some .int) hh], w ∈ WAL) (hd0 : y.cls ≠ "java/lang/invoke/MethodHandle" ∧ y.cls ≠ "java/lang/invoke/VarHandle" ∧ (parseMethodDescriptor y.desc).map (fun d => d.parameters.length) = some n) (hrm : fr + 1 ≤ 2048 ∧ 8 + (maxL + 11) + lw ≤ 84000) (hn : As.length = n) (hst : st0 = As.reverse ++ rest) (hW : (rest.map fun v => v.category).sum ≤ 8) (hd : decode code pc = .ok (.invokestatic index, 3))
    (k : ∀ (σ' : Sg) (r : Int) (v' : Int64), rng r → Qw9 σ' r v' → JLw p l e s m args below meth c D cA o Q σ' σr v' (pc + 3) lo (.int (i32 r) :: rest)) : W p l e room_1 s m args below meth c H locs (gc σc) (gs σc) Q (F0 m pc ls st0) := by
  subst hst
  have hb := hL.2.2.2.2.1
  refine l_run (A9 := A1 (AX s σr o) o) (vx_runSX (As := As) (rest := rest) ⟨B.1, B.2.1, B.2.2.2.2.2.1, B.2.2.1, B.2.2.2.1⟩ hO (vx_cwSW n B.2.2.2.1 (wal_good (wal_app (fun w h => hw w (by simp only [List.mem_cons, List.not_mem_nil, or_false] at h ⊢; rcases h with h | h | h <;> simp [h])) (wal_self (hw _ (by simp))))) rfl rfl rfl hd0 hrm) ⟨fun a U g mk h => ⟨h.1, (pw_blind (as := As) (a := a) (U := U) (g := g) (mk := mk) ⟨h.1, h.2.1⟩).2, h.2.2⟩, fun U hU hW => ⟨rfl, pw_C B hL U hU hW, by rw [hU]; exact hL.1.2.2, fun w => w.2.2 rfl⟩⟩ rfl hn hl.1 rfl (lv_room hW) hd ⟨by show gc σc + (590000 - gc σc) ≤ 601024; have : gc σc ≤ 590000 := hb.1; omega, by show gs σc + (7000000 - gs σc) ≤ 7293033; have : gs σc ≤ 7000000 := hb.2; omega⟩) (fun E st t h => h) (fun q w => by rcases w with w | w; exact w.1; rw [w]; exact hL.2.1.2.2.2.2) (fun st w t h => by obtain ⟨σ', r, v', ⟨-, -, -, hp, -⟩, -, -⟩ := h; exact hp.2.2.2) (fun q w => by rcases w with w | w; exact w.1; rw [w]; exact hL.2.1.2.2.2.2) hL.2.2.1 (fun w st t locs' e0 h z1 z2 hS => ?_)
  obtain ⟨σ', r, v', ⟨ev, hr, hq9, ⟨tP, tD, tO, hF⟩, hcn⟩, s1, s2⟩ := h
  rw [e0] at s1 s2
  have ew : w = some (.int (i32 r)) := by cases ev; rfl
  subst ew
  have hL' := ls_C hL tP tD tO hcn s1 s2 (fun a ha => z2 a (hL.lt ha) (fun w => by rcases w with w | w; exact w.2.1 ha; exact (hL.2.1.2.2.2.1 a ha).2 w)) hS
  exact ⟨gc σ', gs σ', hL'.2.2.2.1.1, hL'.2.2.2.1.2, k σ' r v' hr hq9 t.heap locs' ls hL' hl⟩
/-- what is the same for each call of the reference -/
theorem l_R0 {rm : Nat} {XC : String → State → State → Prop} (hL : LSt D cA s σc σr o v H locs) (hl : lv_has ls 8 lo) (hdm : ∀ σ' w, Qn σ' w → σ'.1 = σr.1) (hnx : ∀ σ' E, ¬ Qx σ' E) {a : Array Value} (hr : vx_Run p l e room_1 s m args below meth c H locs (gc σc) (gs σc) (BC - gc σr) (BS - gs σr) (F0 m pc ls st0) rest (Qw D cA (AX s σc o) σr Qn a) (Xw D cA (AX s σc o) σr Qx) (AX s σc o))
    (k : ∀ (σ' : Sg) (w : Option Value), Qn σ' w → JLw p l e s m args below meth c D cA o Q σc σ' v (pc + 3) lo (w.toList ++ rest)) : W p l e room_1 s m args below meth c H locs (gc σc) (gs σc) Q (F0 m pc ls st0) := by
  refine l_run (A9 := AX s σc o) hr (fun E st t h => by obtain ⟨σ', h1, -⟩ := h; exact hnx σ' E h1) (fun q w => w.1) (fun st w t h => by obtain ⟨σ', v', -, -, hT⟩ := h; exact hT.2.2.2.2.2) (fun q w => w.1) hL.2.2.1 (fun w st t locs' e0 h z1 z2 hS => ?_)
  obtain ⟨σ', v', ev, hq9, tP, tD, hcn, s1, s2, hF⟩ := h
  rw [e0] at s1 s2
  have ew : w = v' := by cases ev; rfl
  subst ew
  have hL' := ls_R hL (hdm σ' w hq9) tP s1 s2 (fun a ha => z2 a (hL.ltc ha) (fun w => w.2.1 ha)) (z2 o hL.1.2.2.lt (fun w => w.2.2 rfl)) hS
  exact ⟨gc σc, gs σc, hL'.2.2.2.1.1, hL'.2.2.2.1.2, k σ' w hq9 t.heap locs' ls hL' hl⟩
theorem l_R (B : Cx p s m args c code 8 RL D cA tys (A0 s)) (hL : LSt D cA s σc σr o v H locs) (hl : lv_has ls 8 lo) (hO : Ok l D cA tys (AX s σc o) y (.code y bytes maxL ret) fr lw (.ref th :: As) σr Qn Qx) (hdm : ∀ σ' w, Qn σ' w → σ'.1 = σr.1) (hnx : ∀ σ' E, ¬ Qx σ' E) (hw : ∀ w ∈ [Cond.methodLink RL index y, .instanceMethod y, .selects RX16 y y, .initialized RX16, .code y bytes maxL ret], w ∈ WAL) (hd0 : y.cls = RX16 ∧ y.cls ≠ "java/lang/invoke/MethodHandle" ∧ y.cls ≠ "java/lang/invoke/VarHandle" ∧ (parseMethodDescriptor y.desc).map (fun d => d.parameters.length) = some n) (hrm : fr + 1 ≤ 2048 ∧ 8 + (maxL + 11) + lw ≤ 84000) (hk : kO σr th 16) (hn : As.length = n) (hst : st0 = As.reverse ++ .ref th :: rest) (hW : (rest.map fun v => v.category).sum ≤ 8) (hd : decode code pc = .ok (.invokevirtual index, 3))
    (k : ∀ (σ' : Sg) (w : Option Value), Qn σ' w → JLw p l e s m args below meth c D cA o Q σc σ' v (pc + 3) lo (w.toList ++ rest)) : W p l e room_1 s m args below meth c H locs (gc σc) (gs σc) Q (F0 m pc ls st0) := by
  subst hst
  obtain ⟨q0, hq⟩ := wd_get (cA := cA) hk.1
  rw [ent_obj (r := (RX16, TX16, 123)) hk.2 rfl (by decide)] at hq
  have hb := hL.2.2.2.2.1
  have hd9 := hL.2.2.2.2.2
  exact l_R0 (rm := th) (XC := fun _ _ _ => False) hL hl hdm hnx (a := (Value.ref th :: As).toArray) (vx_runV (As := As) (rest := rest) (b := th) (C := RX16) ⟨B.1, B.2.1, B.2.2.2.2.2.1, B.2.2.1, B.2.2.2.1⟩ hO (cwV n B.2.2.2.1 (wal_good (wal_app (fun w h => hw w (by simp only [List.mem_cons, List.not_mem_nil, or_false] at h ⊢; rcases h with h | h | h | h <;> simp [h])) (wal_self (hw _ (by simp))))) rfl rfl rfl hd0 hrm) ⟨pw_blind _, va_recv B.2.2.2.2.1 hL.1.2.1 (ci := 16) (q0 := q0) rfl hq, fun U hU hW => ⟨rfl, pw_R B hL U hU hW⟩⟩ rfl hn hl.1 rfl (lv_room hW) hd ⟨by show gc σc + (590000 - gc σr) ≤ 601024; have : gc σc ≤ 590000 := hb.1; omega, by show gs σc + (7000000 - gs σr) ≤ 7293033; have : gs σc ≤ 7000000 := hb.2; omega⟩) k
theorem l_RH (B : Cx p s m args c code 8 RL D cA tys (A0 s)) (hL : LSt D cA s σc σr o v H locs) (hl : lv_has ls 8 lo) (hO : Ok l D cA tys (AX s σc o) y (.codeWith y bytes maxL ret hh) fr lw (.ref th :: As) σr Qn Qx) (hdm : ∀ σ' w, Qn σ' w → σ'.1 = σr.1) (hnx : ∀ σ' E, ¬ Qx σ' E) (hw : ∀ w ∈ [Cond.methodLink RL index y, .instanceMethod y, .selects RX16 y y, .initialized RX16, .codeWith y bytes maxL ret hh], w ∈ WAL) (hd0 : y.cls = RX16 ∧ y.cls ≠ "java/lang/invoke/MethodHandle" ∧ y.cls ≠ "java/lang/invoke/VarHandle" ∧ (parseMethodDescriptor y.desc).map (fun d => d.parameters.length) = some n) (hrm : fr + 1 ≤ 2048 ∧ 8 + (maxL + 11) + lw ≤ 84000) (hk : kO σr th 16) (hn : As.length = n) (hst : st0 = As.reverse ++ .ref th :: rest) (hW : (rest.map fun v => v.category).sum ≤ 8) (hd : decode code pc = .ok (.invokevirtual index, 3))
    (k : ∀ (σ' : Sg) (w : Option Value), Qn σ' w → JLw p l e s m args below meth c D cA o Q σc σ' v (pc + 3) lo (w.toList ++ rest)) : W p l e room_1 s m args below meth c H locs (gc σc) (gs σc) Q (F0 m pc ls st0) := by
  subst hst
  obtain ⟨q0, hq⟩ := wd_get (cA := cA) hk.1
  rw [ent_obj (r := (RX16, TX16, 123)) hk.2 rfl (by decide)] at hq
  have hb := hL.2.2.2.2.1
  have hd9 := hL.2.2.2.2.2
  exact l_R0 (rm := th) (XC := fun _ _ _ => False) hL hl hdm hnx (a := (Value.ref th :: As).toArray) (vx_runVX (As := As) (rest := rest) (b := th) (C := RX16) ⟨B.1, B.2.1, B.2.2.2.2.2.1, B.2.2.1, B.2.2.2.1⟩ hO (vx_cwVW n B.2.2.2.1 (wal_good (wal_app (fun w h => hw w (by simp only [List.mem_cons, List.not_mem_nil, or_false] at h ⊢; rcases h with h | h | h | h <;> simp [h])) (wal_self (hw _ (by simp))))) rfl rfl rfl hd0 hrm) ⟨pw_blind _, va_recv B.2.2.2.2.1 hL.1.2.1 (ci := 16) (q0 := q0) rfl hq, fun U hU hW => ⟨rfl, pw_R B hL U hU hW⟩⟩ rfl hn hl.1 rfl (lv_room hW) hd ⟨by show gc σc + (590000 - gc σr) ≤ 601024; have : gc σc ≤ 590000 := hb.1; omega, by show gs σc + (7000000 - gs σr) ≤ 7293033; have : gs σc ≤ 7000000 := hb.2; omega⟩) k
end CAL
/-- the script -/
def sx (xs : Nat → Int32) (z : Int) : Int := (xs z.toNat).toInt
theorem rng_sx (xs : Nat → Int32) (z : Int) : rng (sx xs z) := rng_toInt _
theorem l_ld {b L : Nat} {xs : Nat → Int32} (B : Cx p s m args c code 8 RL D cA tys (A0 s)) (hX : va_X b L xs s s.heap) (hbl : b < s.heap.size) (hL : L ≤ 5632) (hS : va_S (A0 s) s.heap H locs) {cells slots : Nat} {z : Int} (hz : 0 ≤ z ∧ z < (L : Int)) (hd : decode code pc = .ok (.iaload, 1)) (kk : W p l e room_1 s m args below meth c H locs cells slots Q (F0 m (pc + 1) ls (.int (i32 (sx xs z)) :: rest))) : W p l e room_1 s m args below meth c H locs cells slots Q (F0 m pc ls (.int (i32 z) :: .ref b :: rest)) := by
  refine va_sld (A := A0 s) B.1 B.2.1 hX hbl (fun w => absurd (show s.heap.size ≤ b from w) (by omega)) hS (i32_in hz.1 hz.2 (by omega)) hd ?_
  rw [i32_clamp hz.1 (by omega)]
  unfold sx at kk
  rw [i32_self] at kk
  exact kk
theorem any_long {E : Int64} {cells slots : Nat} {R : Room} (h : ∀ w : Int64, W p l e R s m args below meth c H locs cells slots Q (F0 m pc ls (.long w :: rest))) : W p l e R s m args below meth c H locs cells slots Q (F0 m pc ls (.long E :: rest)) := h E
end LAW

theorem rb {x : Int} (h : rng x) : -2147483648 ≤ x ∧ x ≤ 2147483647 := by unfold rng at h; omega
theorem HV.later {σ : Sg} {th n : Nat} {t : Int} (h : HV σ th n t) : HV σ th (n + 1) t := by
  obtain ⟨pl, gq, ci, gr, nc, ot, LL, N, nu, J, S, R, D, W, i, ha, hu, hn, ht⟩ := h
  refine ⟨pl, gq, ci, gr, nc, ot, LL, N, nu, J, S, R, D, W, i, ha, hu, ?_, ht⟩
  unfold HN T3 at hn ⊢
  exact ⟨hn.1, hn.2.1, ⟨by have := hn.2.2.1.1; omega, by have := hn.2.2.1.2.1; omega, by have := hn.2.2.1.2.2; omega⟩, hn.2.2.2.1, by have := hn.2.2.2.2; omega⟩
def lw_P (b : Addr) (xs : List Int32) (args : Array Value) (s : State) : Prop := args = #[.ref b] ∧ s.IntsAt b xs ∧ xs.length ≤ 5632 ∧ (Jvm.Cond.and given_1 narrow_1).before args s = true
def lw_Q (_ : Array Value) (s : State) (o : Outcome) (t : State) : Prop := o = .returned (some (.int 1)) ∧ Framed s o t [] 601024 7293033
def lw_Z (below : List Frame) (a : Array Value) (s : State) : State → Prop := fun t => ∃ o, t.status = .running ∧ Ended t below o ∧ lw_Q a s o t
theorem lw_ret {p : Program} {l : Launch} {e : Env} {s : State} {m : MethodId} {below : List Frame} {meth : Method} {c : Code} {b : Nat} (hx : p.tables.exec = Jvm.exec) (hb : c.code = code) (hr : meth.sig.returnType = ret) (hlocks : meth.locks = false) {pc : Nat} {H : Heap} {ls : Array Slot} (hdg : decode code pc = .ok (.ireturn, 1)) : W p l e room_1 s m #[Value.ref b] below meth c H [] 601024 7293033 (lw_Z below #[Value.ref b] s) (F0 m pc ls [.int 1]) := by
  intro T hT X
  obtain ⟨fs, hret, hrun, hended, hW, hframe⟩ := X.leave (v := some (.int 1)) (hlocks := hlocks) (fun h => by rw [hr] at h; cases h)
  have hmeth' : T.vm.method? m = some meth := X.method'
  refine ⟨T.setFrames fs, ?_, .returned (some (.int 1)), hrun, hended, rfl, ⟨_, rfl⟩, hW, hframe⟩
  jvm_step X.here [X.here.top, hx, hb, hdg, hmeth', hr, ret, narrow_b1]
  (try refine ⟨rfl, ?_⟩); (try refine ⟨rfl, ?_⟩)
  first | (intro acts; rw [hret _ acts rfl rfl rfl]) | rw [hret _ _ rfl rfl rfl]
  exact Steps.refl _
def lw_At (p : Program) (s : State) (m : MethodId) (meth : Method) (c : Code) (b L : Nat) (xs : Nat → Int32) : Prop :=
  p.tables.exec = Jvm.exec ∧ c.code = code ∧ meth.sig.returnType = ret ∧ c.maxLocals = 8 ∧ s.vm.findClass R_law = some m.cls ∧ (∀ w ∈ lw_tbl, w.before #[Value.ref b] s = true) ∧ va_X b L xs s s.heap ∧ b < s.heap.size ∧ meth.locks = false ∧ (Jvm.Cond.and given_1 narrow_1).before #[Value.ref b] s = true
theorem lw_end {p : Program} {l : Launch} {e : Env} {s : State} {m : MethodId} {below : List Frame} {meth : Method} {c : Code} {b : Nat} (hx : p.tables.exec = Jvm.exec) (hb : c.code = code) (hr : meth.sig.returnType = ret) (hlocks : meth.locks = false) (H : Heap) (locs : List Loc) (ls : Array Slot) (a1 a2 : Nat) (hS : va_S (A0 s) s.heap H locs) (h1 : a1 ≤ 590000) (h2 : a2 ≤ 7000000) : W p l e room_1 s m #[Value.ref b] below meth c H locs a1 a2 (lw_Z below #[Value.ref b] s) (F0 m 1122 ls []) := by
  refine lv_iconst (v := 1) hx hb dLw_1122 (by decide) ?_
  refine va_forget (fun q hq => hS.2.2 q hq) ?_
  refine W.widen (k := 601024) (n := 7293033) (by omega) (by omega) ?_
  exact lw_ret hx hb hr hlocks dLw_1123
set_option maxHeartbeats 4000000 in
set_option maxRecDepth 20000 in
/-- from the entry, for every script of at most 5632 ints, the law comes to its end with true -/
theorem whole_start {p : Program} {e : Env} {s : State} {m : MethodId} {below : List Frame} {meth : Method} {c : Code} (l : Launch) (hl0 : l.stackTraces = false) {b L : Nat} {xs : Nat → Int32} (hL : L ≤ 5632) (C0 : lw_At p s m meth c b L xs) : W p l e room_1 s m #[Value.ref b] below meth c s.heap [] 0 0 (lw_Z below #[Value.ref b] s) (entryFrame m ([Value.ref b] : List Value).toArray 8) := by
  obtain ⟨hx, hb, hr, hml, hownR, htsT, hX, hbl, hlocks, hgv⟩ := C0
  obtain ⟨D, cA, tys, hT, B⟩ := cx_of hx hb hml hownR htsT (flat_of_before _ hgv)
  have hl := lv_entry ([.ref b]) (n := 8) (Nat.le_of_ble_eq_true rfl)
  rw [lg_entry_eq]
  generalize (lg_sl ([.ref b]) ++ List.replicate (8 - (lg_sl ([.ref b])).length) Slot.unset).toArray = ls at hl ⊢
  have hl : lv_has ls 8 [(0, .ref b)] := hl
  refine wh_start (b := b) (VH := HV) (VR := fun ra jx rm σ => Rg ra jx rm σ ∧ RI ra jx rm σ) B hl0 hT (fun σ th R h0 => n_X12_init R h0 ⟨by decide, by decide⟩ (fun σ' R' pf hG => HV_new R' hG ⟨by decide, by decide⟩ (pf 0 th h0))) (fun ra jx rm σ hG z1 z2 => init_pure hG z1 z2 (fun σ' r1 r2 r3 => ⟨⟨r1, r2⟩, r3⟩) (fun τ r => by simpa only [and_assoc] using (pub_clear hG r (X := fun _ _ => False)))) (fun th rm o dm ra jx hG σc σr v hI => ?_) hl
  exact l_loop (VH := HV) (VR := fun σ => Rg ra jx rm σ ∧ RI ra jx rm σ) B hl0 hT hX hbl hL
    (fun σ n t a0 a1 h hn g1 => v_X12_feed h hn (fun σ' r w w2 => ⟨w, w2⟩) (fun σ' E w w2 => ⟨w, w2⟩)) (fun σ a0 a1 h g1 => by simpa only [and_assoc] using (pub_feed hG h.1 h.2 (rb g1) (X := fun _ _ => False)))
    (fun σ n t h hn => v_X12_job h hn (fun σ' r w => w) (fun σ' E w w2 => ⟨w, w2⟩)) (fun σ h => by simpa only [and_assoc] using (pub_job hG h.1 h.2 (X := fun _ _ => False)))
    (fun σ n t h hn => v_X12_fault h hn (fun σ' r w => w)) (fun σ h => by simpa only [and_assoc] using (pub_fault hG h.1 h.2 (X := fun _ _ => False)))
    (fun σ n t a0 a1 h hn g0 g1 => v_X12_operator h hn (fun σ' r w => w) (fun σ' E w w2 => ⟨w, w2⟩)) (fun σ a0 a1 h g0 g1 => by simpa only [and_assoc] using (pub_operator_ hG h.1 h.2 (rb g0) (rb g1) (X := fun _ _ => False)))
    (fun σ n t a0 a1 a2 a3 a4 a5 h hn g0 g1 => v_X12_give h hn (fun σ' r w => w) (fun σ' E w w2 => ⟨w, w2⟩)) (fun σ a0 a1 a2 a3 a4 a5 h g0 g1 => by simpa only [and_assoc] using (pub_give hG h.1 h.2 (rb g0) (rb g1) (X := fun _ _ => False)))
    (fun σ n t a0 h hn g0 => v_X12_close h hn (fun σ' r w => w) (fun σ' E w w2 => ⟨w, w2⟩)) (fun σ a0 h g0 => by simpa only [and_assoc] using (pub_close hG h.1 h.2 (rb g0) (X := fun _ _ => False)))
    (fun σ n t a0 a1 a2 h hn g0 g1 => v_X12_start h hn (fun σ' r w => w) (fun σ' E w w2 => ⟨w, w2⟩)) (fun σ a0 a1 a2 h g0 g1 => by simpa only [and_assoc] using (pub_start hG h.1 h.2 (rb g0) (rb g1) (X := fun _ _ => False)))
    (fun σ n t a0 h hn g0 => v_X12_turn h hn (fun σ' r w => w) (fun σ' E w w2 => ⟨w, w2⟩)) (fun σ a0 h g0 => by simpa only [and_assoc] using (pub_turn hG h.1 h.2 (rb g0) (X := fun _ _ => False)))
    (fun σ n t h hn => v_X12_mark h hn (fun σ' r w => w) (fun σ' E w w2 => ⟨w, w2⟩)) (fun σ h => by simpa only [and_assoc] using (pub_mark hG h.1 h.2 (X := fun _ _ => False)))
    (fun σ n t h hn => v_X12_fail h hn (fun σ' r w => w) (fun σ' E w w2 => ⟨w, w2⟩)) (fun σ h => by simpa only [and_assoc] using (pub_fail_ hG h.1 h.2 (X := fun _ _ => False)))
    (fun σ n t a0 h hn g0 => v_X12_rescale h hn (fun σ' r w => w) (fun σ' E w w2 => ⟨w, w2⟩)) (fun σ a0 h g0 => by simpa only [and_assoc] using (pub_rescale hG h.1 h.2 (rb g0) (X := fun _ _ => False)))
    (fun σ n t a0 h hn g0 => v_X12_crash h hn g0 (fun σ' r w => w) (fun σ' E w w2 => ⟨w, w2⟩)) (fun σ a0 h g0 => by simpa only [and_assoc] using (pub_crash hG h.1 h.2 (rb g0) (X := fun _ _ => False)))
    (fun σ n t h hn => v_X12_reopen h hn (fun σ' r w => w) (fun σ' E w w2 => ⟨w, w2⟩)) (fun σ h => by simpa only [and_assoc] using (pub_reopen hG h.1 h.2 (X := fun _ _ => False)))
    (fun σ n t a0 h hn g0 => v_X12_visible h hn (fun σ' r w => w) (fun σ' E w w2 => ⟨w, w2⟩)) (fun σ a0 h g0 => by simpa only [and_assoc] using (pub_visible hG h.1 h.2 (rb g0) (X := fun _ _ => False)))
    (fun σ n t a0 a1 a2 h hn g0 g1 g2 => v_X12_row h hn g1 (fun σ' r w => w) (fun σ' E w w2 => ⟨w, w2⟩)) (fun σ a0 a1 a2 h g0 g1 g2 => by simpa only [and_assoc] using (pub_row hG h.1 h.2 (rb g0) (rb g1) (rb g2) (X := fun _ _ => False)))
    (fun σ n t a0 a1 a2 h hn g0 g1 g2 => v_X12_lineage h hn g1 (fun σ' r w => w) (fun σ' E w w2 => ⟨w, w2⟩)) (fun σ a0 a1 a2 h g0 g1 g2 => by simpa only [and_assoc] using (pub_lineage hG h.1 h.2 (rb g0) (rb g1) (rb g2) (X := fun _ _ => False)))
    (fun σ n t h hn => v_X12_onePass h hn (fun σ' r w => w) (fun σ' E w w2 => ⟨w, w2⟩)) (fun σ h => by simpa only [and_assoc] using (pub_onePass hG h.1 h.2 (X := fun _ _ => False)))
    (fun σ n t a0 a1 h hn g0 g1 => v_X12_task h hn (fun σ' r w => w) (fun σ' E w w2 => ⟨w, w2⟩)) (fun σ a0 a1 h g0 g1 => by simpa only [and_assoc] using (pub_task hG h.1 h.2 (rb g0) (rb g1) (X := fun _ _ => False)))
    (fun σ n t a0 a1 h hn g0 g1 => v_X12_channel h hn (fun σ' r w => w) (fun σ' E w w2 => ⟨w, w2⟩)) (fun σ a0 a1 h g0 g1 => by simpa only [and_assoc] using (pub_channel_ hG h.1 h.2 (rb g0) (rb g1) (X := fun _ _ => False)))
    (fun σ n t a0 a1 h hn g0 => v_X12_records h hn (fun σ' r w => w) (fun σ' E w w2 => ⟨w, w2⟩)) (fun σ a0 a1 h g0 => by simpa only [and_assoc] using (pub_records hG h.1 h.2 (rb g0) (X := fun _ _ => False)))
    (fun σ n t a0 h hn g0 => v_X12_told h hn (fun σ' r w => w)) (fun σ a0 h g0 => by simpa only [and_assoc] using (pub_told hG h.1 h.2 (rb g0) (X := fun _ _ => False)))
    (fun σ n t h hn => v_X12_clear h hn (fun σ' r w => w)) (fun σ h => by simpa only [and_assoc] using (pub_clear hG h.1 (X := fun _ _ => False)))
    (fun σ => pub_thrown ⟨rfl, rfl⟩) (fun σ n t h _ => h.later) (lw_end hx hb hr hlocks) 512 0 (by decide) (by omega) 0 σc σr v hI

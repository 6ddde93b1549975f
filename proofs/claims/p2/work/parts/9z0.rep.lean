section REQ
variable {σ σ' : Sg} {d : List Rc} {c0 s0 i j k n q a b : Nat} {v : Int}
/-- Arrays.fill -/
def fFill (i : Nat) (v : Int) : Nat → Nat → List Rc → List Rc
  | 0, _, d => d
  | c + 1, k, d => fFill i v c (k + 1) (dU d i (uI k v))
theorem fFill_len (i : Nat) (v : Int) (c : Nat) : ∀ (k : Nat) (d : List Rc), (fFill i v c k d).length = d.length := by
  induction c with
  | zero => intro k d; rfl
  | succ c ih => intro k d; show (fFill i v c (k + 1) (dU d i (uI k v))).length = _; rw [ih, dU_len]
theorem fFill_sz (i : Nat) (v : Int) (c : Nat) : ∀ (k : Nat) (d : List Rc), sz (fFill i v c k d) = sz d := by
  induction c with
  | zero => intro k d; rfl
  | succ c ih => intro k d; show sz (fFill i v c (k + 1) (dU d i (uI k v))) = _; rw [ih, dU_szI]
theorem fFill_get (i : Nat) (v : Int) (c : Nat) {x : Nat} (hx : x ≠ i) : ∀ (k : Nat) (d : List Rc), (fFill i v c k d)[x]? = d[x]? := by
  induction c with
  | zero => intro k d; rfl
  | succ c ih => intro k d; show (fFill i v c (k + 1) (dU d i (uI k v)))[x]? = _; rw [ih, dU_get, if_neg hx]
theorem n_fill {ar : Nat} {Q : Sg → Unit → Prop} {X : Sg → String → Prop} (R : Rep σ d c0 s0) (ha : (gD σ)[i]? = some ar) (hn : gn σ ar ≤ 1000) (hQ : ∀ σ', Rep σ' (fFill i v (gn σ ar) 0 d) c0 s0 → Pf σ σ' → Q σ' ()) : wpC_J7_fill_53178 (some ar) v σ Q X := by
  unfold wpC_J7_fill_53178 wC_J7_fill_53178_0
  refine ⟨ar, rfl, fun kar => ?_⟩
  have main : ∀ (m : Nat) (σ1 : Sg) (d1 : List Rc) (k : Nat), Rep σ1 d1 c0 s0 → gD σ1 = gD σ → gn σ1 = gn σ → k + m = gn σ ar → (∀ σ', Rep σ' (fFill i v m k d1) c0 s0 → Pf σ1 σ' → Q σ' ()) → wlC_J7_fill_53178_5 Q X (m + 1) σ1 (some ar) v (k : Int) (gn σ ar : Int) := by
    intro m
    induction m with
    | zero =>
      intro σ1 d1 k R1 e1 e2 hk hq
      show wC_J7_fill_53178_5 _ Q X σ1 (some ar) v (k : Int) (gn σ ar : Int)
      unfold wC_J7_fill_53178_5
      rw [if_pos (by omega)]
      exact hq σ1 R1 Pf.rf
    | succ m ih =>
      intro σ1 d1 k R1 e1 e2 hk hq
      show wC_J7_fill_53178_5 (wlC_J7_fill_53178_5 Q X (m + 1)) Q X σ1 (some ar) v (k : Int) (gn σ ar : Int)
      unfold wC_J7_fill_53178_5
      rw [if_neg (by omega)]
      unfold wC_J7_fill_53178_10
      refine ⟨ar, rfl, fun _ => ⟨⟨by omega, by rw [e2]; omega⟩, ?_⟩⟩
      intro σ6 e6
      rw [Int.toNat_natCast] at e6
      refine ⟨by unfold rng; omega, ?_⟩
      rw [show (k : Int) + 1 = ((k + 1 : Nat) : Int) by omega]
      exact ih σ6 _ (k + 1) (R1.pI e6 (by rw [e1]; exact ha)) (by rw [e6]; exact e1) (by rw [e6]; exact e2) (by omega) (fun σ' R' P' => hq σ' R' ((Pf.pI e6).tr P'))
  exact ⟨gn σ ar + 1, main _ σ d 0 R rfl rfl (by omega) hQ⟩
/-- newChains -/
def fNCs (m : Nat) : Nat → Nat → List Rc → List Rc
  | 0, _, d => d
  | c + 1, k, d => fNCs m c (k + 1) (dU (dN d 1 3) m (uP k d.length))
theorem fNCs_len (m c : Nat) : ∀ (k : Nat) (d : List Rc), (fNCs m c k d).length = d.length + c := by
  induction c with
  | zero => intro k d; rfl
  | succ c ih => intro k d; show (fNCs m c (k + 1) (dU (dN d 1 3) m (uP k d.length))).length = _; rw [ih, dU_len, dN_len]; omega
theorem fNCs_sz (m c : Nat) : ∀ (k : Nat) (d : List Rc), sz (fNCs m c k d) = sz d + 3 * c := by
  induction c with
  | zero => intro k d; rfl
  | succ c ih => intro k d; show sz (fNCs m c (k + 1) (dU (dN d 1 3) m (uP k d.length))) = _; rw [ih, dU_szP, dN_sz]; omega
theorem fNCs_get (m c : Nat) {x : Nat} (hx : x ≠ m) : ∀ (k : Nat) (d : List Rc), x < d.length → (fNCs m c k d)[x]? = d[x]? := by
  induction c with
  | zero => intro k d _; rfl
  | succ c ih =>
    intro k d hl
    show (fNCs m c (k + 1) (dU (dN d 1 3) m (uP k d.length)))[x]? = _
    rw [ih (k + 1) _ (by rw [dU_len, dN_len]; omega), dU_get, if_neg hx, dN_get hl]
def fNC (d : List Rc) (n : Nat) : List Rc := fNCs d.length n 0 (dN d 111 n)
theorem fNC_len (d : List Rc) (n : Nat) : (fNC d n).length = d.length + (n + 1) := by unfold fNC; rw [fNCs_len, dN_len]; omega
theorem fNC_sz (d : List Rc) (n : Nat) : sz (fNC d n) = sz d + 4 * n := by unfold fNC; rw [fNCs_sz, dN_sz]; omega
theorem fNC_get {d : List Rc} {x n : Nat} (hx : x < d.length) : (fNC d n)[x]? = d[x]? := by
  unfold fNC; rw [fNCs_get _ _ (by omega) _ _ (by rw [dN_len]; omega), dN_get hx]
theorem n_newChains {v0 : Int} {Q : Sg → Option Nat → Prop} {X : Sg → String → Prop} (R : Rep σ d c0 s0) (hv : v0 = (n : Int)) (hn : n ≤ 1000) (hc : c0 + d.length + (n + 1) ≤ BC ∧ s0 + sz d + 4 * n ≤ BS) (hQ : ∀ σ' a, Rep σ' (fNC d n) c0 s0 → Pf σ σ' → (gD σ')[d.length]? = some a → Q σ' (some a)) : wp_X12_newChains v0 σ Q X := by
  subst hv
  unfold wp_X12_newChains w_X12_newChains_0
  refine sC_maxI (fun r h1 h2 h3 => ?_)
  have er : r = (n : Int) := by omega
  subst er
  intro _
  have g1 := R.2.2.1
  refine ⟨by omega, ⟨by omega, by rw [Int.toNat_natCast]; omega⟩, ?_⟩
  intro q hq s1 e1
  rw [Int.toNat_natCast] at e1
  have R1 := R.newA hq e1
  have a1 : (gD s1)[d.length]? = some q := At.newA R e1 rfl
  have gn1 : gn s1 q = n := by rw [e1]; show va_up (gn σ) q n q = n; unfold va_up; rw [if_pos rfl]
  have main : ∀ (c : Nat) (τ : Sg) (d1 : List Rc) (k : Nat), Rep τ d1 c0 s0 → (gD τ)[d.length]? = some q → gn τ q = n → k + c = n → d1.length = d.length + 1 + k → sz d1 = sz d + n + 3 * k → (∀ σ', Rep σ' (fNCs d.length c k d1) c0 s0 → Pf τ σ' → Q σ' (some q)) → wl_X12_newChains_11 Q X (c + 1) τ (some q) (k : Int) := by
    intro c
    induction c with
    | zero =>
      intro τ d1 k R1 aq gq1 hk hl hs hq1
      show w_X12_newChains_11 _ Q X τ (some q) (k : Int)
      unfold w_X12_newChains_11
      refine ⟨q, rfl, fun _ => ?_⟩
      rw [if_pos (by omega)]
      exact hq1 τ R1 Pf.rf
    | succ c ih =>
      intro τ d1 k R1 aq gq1 hk hl hs hq1
      show w_X12_newChains_11 (wl_X12_newChains_11 Q X (c + 1)) Q X τ (some q) (k : Int)
      unfold w_X12_newChains_11
      refine ⟨q, rfl, fun _ => ?_⟩
      rw [if_neg (by omega)]
      unfold w_X12_newChains_17
      have g2 := R1.2.2.1
      refine ⟨⟨by omega, by omega⟩, ?_⟩
      intro q2 hq2 s2 e2
      have R2 := R1.new1 hq2 (by decide) e2
      unfold wp_X1_init w_X1_init_0
      intro _
      refine ⟨q, rfl, fun _ => ⟨⟨by omega, by rw [e2]; show (k : Int) < (gn τ q : Int); omega⟩, ?_⟩⟩
      intro s3 e3
      rw [Int.toNat_natCast] at e3
      refine ⟨by unfold rng; omega, ?_⟩
      have aq2 := Pf.new1 e2 _ _ aq
      have R3 := R2.pP e3 aq2 (At.new1 R1 e2 rfl)
      rw [show (k : Int) + 1 = ((k + 1 : Nat) : Int) by omega]
      refine ih s3 _ (k + 1) R3 (Pf.pP e3 _ _ aq2) ?_ (by omega) (by rw [dU_len, dN_len]; omega) (by rw [dU_szP, dN_sz]; omega) (fun σ' R' P' => hq1 σ' R' (((Pf.new1 e2).tr (Pf.pP e3)).tr P'))
      rw [e3]; show gn s2 q = n; rw [e2]; exact gq1
  exact ⟨n + 1, main n s1 _ 0 R1 a1 gn1 (by omega) (by rw [dN_len]) (by rw [dN_sz]; omega) (fun σ' R' P' => hQ σ' q R' ((Pf.newA e1).tr P') (P' _ _ a1))⟩
/-- new long[4][320] -/
def dM (d : List Rc) : List Rc := d ++ [(200, 4, 0, [], [(0, d.length + 1), (1, d.length + 2), (2, d.length + 3), (3, d.length + 4)]), rN 101 320, rN 101 320, rN 101 320, rN 101 320]
theorem dM_len (d : List Rc) : (dM d).length = d.length + 5 := by unfold dM; rw [List.length_append]; rfl
theorem dM_sz (d : List Rc) : sz (dM d) = sz d + 1284 := by unfold dM; rw [sz_app]; rfl
theorem dM_get {d : List Rc} (h : i < d.length) : (dM d)[i]? = d[i]? := by unfold dM; exact List.getElem?_append_left h
theorem Rep.mna {f : Nat → Nat} (R : Rep σ d c0 s0) (hq : q ∉ gD σ ∧ ∀ i, i < 4 → f i ∉ gD σ ∧ f i ≠ q ∧ ∀ j, j < i → f j ≠ f i) (e : σ' = mnaJ σ q f 4 320) : Rep σ' (dM d) c0 s0 ∧ Pf σ σ' ∧ (gD σ')[d.length]? = some q := by
  obtain ⟨h1, h2, ⟨h3, h4⟩, h5⟩ := R
  obtain ⟨hq0, hf⟩ := hq
  have f0 := hf 0 (by decide); have f1 := hf 1 (by decide); have f2 := hf 2 (by decide); have f3 := hf 3 (by decide)
  have g10 := f1.2.2 0 (by decide); have g20 := f2.2.2 0 (by decide); have g21 := f2.2.2 1 (by decide)
  have g30 := f3.2.2 0 (by decide); have g31 := f3.2.2 1 (by decide); have g32 := f3.2.2 2 (by decide)
  have eD : gD σ' = gD σ ++ [q, f 0, f 1, f 2, f 3] := by rw [e]; rfl
  have eC : gc σ' = gc σ + 5 := by rw [e]; rfl
  have eS : gs σ' = gs σ + 1284 := by rw [e]; rfl
  have em : ∀ b, b ∈ (List.range 4).map f ↔ b = f 0 ∨ b = f 1 ∨ b = f 2 ∨ b = f 3 := fun b => by
    rw [show (List.range 4).map f = [f 0, f 1, f 2, f 3] from rfl]; simp
  have nw : ∀ i, i < 5 → (gD σ')[d.length + i]? = [q, f 0, f 1, f 2, f 3][i]? := fun i hi => by
    rw [eD, List.getElem?_append_right (by omega), h1, Nat.add_sub_cancel_left]
  have pf : Pf σ σ' := fun i a h => by rw [eD, List.getElem?_append_left (get_lt h)]; exact h
  have arr : ∀ b, b ≠ q → (b = f 0 ∨ b = f 1 ∨ b = f 2 ∨ b = f 3) → RcO σ' (rN 101 320) b := fun b hb hm => by
    have m9 := (em b).mpr hm
    refine ⟨?_, fun _ => ?_, fun k => ?_, fun k => ?_, fun k => ?_⟩
    · rw [e]; show (if b = q then 200 else if b ∈ (List.range 4).map f then 101 else gk σ b) = 101; rw [if_neg hb, if_pos m9]
    · rw [e]; show (if b = q then 4 else if b ∈ (List.range 4).map f then 320 else gn σ b) = 320; rw [if_neg hb, if_pos m9]
    · rw [e]; show (if b = q ∨ b ∈ (List.range 4).map f then 0 else gI σ b k) = 0; rw [if_pos (Or.inr m9)]
    · rw [e]; show (if b = q ∨ b ∈ (List.range 4).map f then 0 else gJ σ b k) = 0; rw [if_pos (Or.inr m9)]
    · rw [e]; show (if b = q then (if k < 4 then some (f k) else none) else if b ∈ (List.range 4).map f then none else gP σ b k) = none; rw [if_neg hb, if_pos m9]
  refine ⟨⟨by rw [eD, List.length_append, h1, dM_len]; rfl, ?_, ⟨by rw [eC, h3, dM_len]; omega, by rw [eS, h4, dM_sz]; omega⟩, fun i r hr => ?_⟩, pf, by have := nw 0 (by decide); exact this⟩
  · rw [eD, List.nodup_append]
    refine ⟨h2, ?_, fun x hx y hy => ?_⟩
    · simp only [List.nodup_cons, List.mem_cons, List.mem_nil_iff, or_false, not_or, List.nodup_nil, and_true, not_false_eq_true]
      exact ⟨⟨fun w => f0.2.1 w.symm, fun w => f1.2.1 w.symm, fun w => f2.2.1 w.symm, fun w => f3.2.1 w.symm⟩, ⟨g10, g20, g30⟩, ⟨g21, g31⟩, g32⟩
    · simp only [List.mem_cons, List.mem_nil_iff, or_false] at hy
      intro w
      rcases hy with y0 | y0 | y0 | y0 | y0
      · exact hq0 (y0 ▸ w ▸ hx)
      · exact f0.1 (y0 ▸ w ▸ hx)
      · exact f1.1 (y0 ▸ w ▸ hx)
      · exact f2.1 (y0 ▸ w ▸ hx)
      · exact f3.1 (y0 ▸ w ▸ hx)
  · by_cases hi : i < d.length
    · rw [dM_get hi] at hr
      obtain ⟨p1, a, ha, o1, o2, o3, o4, o5⟩ := h5 i r hr
      have ma := get_mem ha
      have na : a ≠ q := fun w => hq0 (w ▸ ma)
      have nm : a ∉ (List.range 4).map f := fun w => by
        rcases (em a).mp w with w | w | w | w
        · exact f0.1 (w ▸ ma)
        · exact f1.1 (w ▸ ma)
        · exact f2.1 (w ▸ ma)
        · exact f3.1 (w ▸ ma)
      refine ⟨fun k j w => by have := p1 k j w; rw [dM_len]; omega, a, pf _ _ ha, ?_, fun w => ?_, fun k => ?_, fun k => ?_, fun k => ?_⟩
      · rw [e]; show (if a = q then 200 else if a ∈ (List.range 4).map f then 101 else gk σ a) = _; rw [if_neg na, if_neg nm]; exact o1
      · rw [e]; show (if a = q then 4 else if a ∈ (List.range 4).map f then 320 else gn σ a) = _; rw [if_neg na, if_neg nm]; exact o2 w
      · rw [e]; show (if a = q ∨ a ∈ (List.range 4).map f then 0 else gI σ a k) = _; rw [if_neg (fun w => w.elim na nm)]; exact o3 k
      · rw [e]; show (if a = q ∨ a ∈ (List.range 4).map f then 0 else gJ σ a k) = _; rw [if_neg (fun w => w.elim na nm)]; exact o4 k
      · have x1 : gP σ' a k = gP σ a k := by rw [e]; show (if a = q then (if k < 4 then some (f k) else none) else if a ∈ (List.range 4).map f then none else gP σ a k) = _; rw [if_neg na, if_neg nm]
        rw [x1, o5 k]
        cases er : rP r k with
        | none => rfl
        | some j =>
          have lj := p1 k j er
          show (gD σ)[j]? = (gD σ')[j]?
          rw [eD, List.getElem?_append_left (by omega)]
    · have hr2 : [((200, 4, 0, [], [(0, d.length + 1), (1, d.length + 2), (2, d.length + 3), (3, d.length + 4)]) : Rc), rN 101 320, rN 101 320, rN 101 320, rN 101 320][i - d.length]? = some r := by
        unfold dM at hr; rw [List.getElem?_append_right (by omega)] at hr; exact hr
      have hl : i - d.length < 5 := by
        apply Classical.byContradiction; intro w
        rw [List.getElem?_eq_none (by show 5 ≤ _; omega)] at hr2; cases hr2
      obtain ⟨m, hm⟩ : ∃ m, m = i - d.length := ⟨_, rfl⟩
      have ei : i = d.length + m := by omega
      rw [← hm] at hr2 hl
      subst ei
      have nwm := nw m hl
      match m, hl with
      | 0, _ =>
        have er : r = (200, 4, 0, [], [(0, d.length + 1), (1, d.length + 2), (2, d.length + 3), (3, d.length + 4)]) := (Option.some.inj hr2).symm
        subst er
        refine ⟨fun k j w => ?_, q, nwm, ?_, fun _ => ?_, fun k => ?_, fun k => ?_, fun k => ?_⟩
        · rw [dM_len]
          have w2 : [((0 : Nat), d.length + 1), (1, d.length + 2), (2, d.length + 3), (3, d.length + 4)].lookup k = some j := w
          match k with
          | 0 => cases w2; omega
          | 1 => cases w2; omega
          | 2 => cases w2; omega
          | 3 => cases w2; omega
          | k + 4 => cases w2
        · rw [e]; show (if q = q then 200 else _) = 200; rw [if_pos rfl]
        · rw [e]; show (if q = q then 4 else _) = 4; rw [if_pos rfl]
        · rw [e]; show (if q = q ∨ q ∈ (List.range 4).map f then 0 else gI σ q k) = 0; rw [if_pos (Or.inl rfl)]
        · rw [e]; show (if q = q ∨ q ∈ (List.range 4).map f then 0 else gJ σ q k) = 0; rw [if_pos (Or.inl rfl)]
        · have x1 : gP σ' q k = if k < 4 then some (f k) else none := by rw [e]; show (if q = q then (if k < 4 then some (f k) else none) else _) = _; rw [if_pos rfl]
          rw [x1]
          match k with
          | 0 => rw [if_pos (by decide)]; exact (nw 1 (by decide)).symm
          | 1 => rw [if_pos (by decide)]; exact (nw 2 (by decide)).symm
          | 2 => rw [if_pos (by decide)]; exact (nw 3 (by decide)).symm
          | 3 => rw [if_pos (by decide)]; exact (nw 4 (by decide)).symm
          | k + 4 => rw [if_neg (by omega)]; rfl
      | 1, _ => have er : r = rN 101 320 := (Option.some.inj hr2).symm; subst er; exact ⟨fun k j w => (by cases w), f 0, nwm, arr _ f0.2.1 (Or.inl rfl)⟩
      | 2, _ => have er : r = rN 101 320 := (Option.some.inj hr2).symm; subst er; exact ⟨fun k j w => (by cases w), f 1, nwm, arr _ f1.2.1 (Or.inr (Or.inl rfl))⟩
      | 3, _ => have er : r = rN 101 320 := (Option.some.inj hr2).symm; subst er; exact ⟨fun k j w => (by cases w), f 2, nwm, arr _ f2.2.1 (Or.inr (Or.inr (Or.inl rfl)))⟩
      | 4, _ => have er : r = rN 101 320 := (Option.some.inj hr2).symm; subst er; exact ⟨fun k j w => (by cases w), f 3, nwm, arr _ f3.2.1 (Or.inr (Or.inr (Or.inr rfl)))⟩
end REQ

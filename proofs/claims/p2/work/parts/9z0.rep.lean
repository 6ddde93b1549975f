/-! the start: what the constructors make, as data -/
/-- kind, length, what the ints are, but for these; the references, by place -/
abbrev Rc : Type := Nat × Nat × Int × List (Nat × Int) × List (Nat × Nat)
def rI (r : Rc) (k : Nat) : Int := (r.2.2.2.1.lookup k).getD r.2.2.1
def rP (r : Rc) (k : Nat) : Option Nat := r.2.2.2.2.lookup k
def rN (k n : Nat) : Rc := (k, n, 0, [], [])
def uP (k j : Nat) (r : Rc) : Rc := (r.1, r.2.1, r.2.2.1, r.2.2.2.1, (k, j) :: r.2.2.2.2)
def uI (k : Nat) (v : Int) (r : Rc) : Rc := (r.1, r.2.1, r.2.2.1, (k, v) :: r.2.2.2.1, r.2.2.2.2)
def dN (d : List Rc) (k n : Nat) : List Rc := d ++ [rN k n]
def dU : List Rc → Nat → (Rc → Rc) → List Rc
  | [], _, _ => []
  | r :: d, 0, f => f r :: d
  | r :: d, i + 1, f => r :: dU d i f
def sz : List Rc → Nat
  | [] => 0
  | r :: d => r.2.1 + sz d
theorem dU_len (d : List Rc) (i : Nat) (f : Rc → Rc) : (dU d i f).length = d.length := by
  induction d generalizing i with
  | nil => rfl
  | cons r d ih => cases i with
    | zero => rfl
    | succ i => show (dU d i f).length + 1 = d.length + 1; rw [ih]
theorem dN_len (d : List Rc) (k n : Nat) : (dN d k n).length = d.length + 1 := by unfold dN; rw [List.length_append]; rfl
theorem dU_get (d : List Rc) (i j : Nat) (f : Rc → Rc) : (dU d i f)[j]? = if j = i then d[j]?.map f else d[j]? := by
  induction d generalizing i j with
  | nil => show ([] : List Rc)[j]? = _; by_cases e : j = i <;> simp [e]
  | cons r d ih => cases i with
    | zero => cases j with
      | zero => simp [dU]
      | succ j => simp [dU]
    | succ i => cases j with
      | zero => simp [dU]
      | succ j => simp only [dU, List.getElem?_cons_succ]; rw [ih]; by_cases e : j = i <;> simp [e]
theorem sz_app (d e : List Rc) : sz (d ++ e) = sz d + sz e := by
  induction d with
  | nil => show sz e = 0 + sz e; omega
  | cons r d ih => show r.2.1 + sz (d ++ e) = r.2.1 + sz d + sz e; omega
theorem dN_sz (d : List Rc) (k n : Nat) : sz (dN d k n) = sz d + n := by unfold dN; rw [sz_app]; rfl
theorem dU_sz (d : List Rc) (i : Nat) (f : Rc → Rc) (hf : ∀ r, (f r).2.1 = r.2.1) : sz (dU d i f) = sz d := by
  induction d generalizing i with
  | nil => rfl
  | cons r d ih => cases i with
    | zero => show (f r).2.1 + sz d = r.2.1 + sz d; rw [hf]
    | succ i => show r.2.1 + sz (dU d i f) = r.2.1 + sz d; rw [ih]
/-- the thing a is what the record says -/
def RcO (σ : Sg) (r : Rc) (a : Nat) : Prop := gk σ a = r.1 ∧ (100 ≤ r.1 → gn σ a = r.2.1) ∧ (∀ k, gI σ a k = rI r k) ∧ (∀ k, gJ σ a k = 0) ∧ ∀ k, gP σ a k = (rP r k).bind (fun j => (gD σ)[j]?)
def Rep (σ : Sg) (d : List Rc) (c0 s0 : Nat) : Prop :=
  (gD σ).length = d.length ∧ (gD σ).Nodup ∧ (gc σ = c0 + d.length ∧ gs σ = s0 + sz d) ∧
  ∀ (i : Nat) (r : Rc), d[i]? = some r → (∀ k j, rP r k = some j → j < d.length) ∧ ∃ a, (gD σ)[i]? = some a ∧ RcO σ r a
def Pf (σ σ' : Sg) : Prop := ∀ i a : Nat, (gD σ)[i]? = some a → (gD σ')[i]? = some a
section REP
variable {σ σ' : Sg} {d : List Rc} {c0 s0 i j k n q a b : Nat} {v : Int}
theorem Pf.rf : Pf σ σ := fun _ _ h => h
theorem Pf.tr {σ'' : Sg} (h : Pf σ σ') (h2 : Pf σ' σ'') : Pf σ σ'' := fun i a w => h2 i a (h i a w)
theorem get_mem {l : List Nat} {i a : Nat} (h : l[i]? = some a) : a ∈ l := List.mem_of_getElem? h
theorem get_lt {l : List Nat} {i a : Nat} (h : l[i]? = some a) : i < l.length := by
  apply Classical.byContradiction; intro w; rw [List.getElem?_eq_none (by omega)] at h; cases h
theorem nd_inj {l : List Nat} (hn : l.Nodup) {i j a : Nat} (hi : l[i]? = some a) (hj : l[j]? = some a) : i = j := by
  have li := get_lt hi; have lj := get_lt hj
  rw [List.getElem?_eq_getElem li] at hi; rw [List.getElem?_eq_getElem lj] at hj
  exact (List.getElem_inj hn).mp ((Option.some.inj hi).trans (Option.some.inj hj).symm)
theorem app_get {l : List Nat} {i a q : Nat} (h : l[i]? = some a) : (l ++ [q])[i]? = some a := by rw [List.getElem?_append_left (get_lt h)]; exact h
theorem app_last {l : List Nat} {q m : Nat} (h : l.length = m) : (l ++ [q])[m]? = some q := by rw [List.getElem?_append_right (by omega), h, Nat.sub_self]; rfl
theorem Rep.new (R : Rep σ d c0 s0) (hq : q ∉ gD σ) (eD : gD σ' = gD σ ++ [q]) (ec : gc σ' = gc σ + 1) (es : gs σ' = gs σ + n) (ek : ∀ b, gk σ' b = if b = q then k else gk σ b) (en : ∀ b, b ≠ q → gn σ' b = gn σ b) (enq : 100 ≤ k → gn σ' q = n) (eI : ∀ b j, gI σ' b j = if b = q then 0 else gI σ b j) (eJ : ∀ b j, gJ σ' b j = if b = q then 0 else gJ σ b j) (eP : ∀ b j, gP σ' b j = if b = q then none else gP σ b j) :
    Rep σ' (dN d k n) c0 s0 := by
  obtain ⟨h1, h2, ⟨h3, h4⟩, h5⟩ := R
  refine ⟨by rw [eD, List.length_append, h1, dN_len]; rfl, ?_, ⟨by rw [ec, h3, dN_len]; omega, by rw [es, h4, dN_sz]; omega⟩, fun i r hr => ?_⟩
  · rw [eD, List.nodup_append]
    exact ⟨h2, by simp, fun x hx y hy => by rw [List.mem_singleton.mp hy]; exact fun e => hq (e ▸ hx)⟩
  · unfold dN at hr
    by_cases hi : i < d.length
    · rw [List.getElem?_append_left hi] at hr
      obtain ⟨p1, a, ha, o1, o2, o3, o4, o5⟩ := h5 i r hr
      have na : a ≠ q := fun e => hq (e ▸ get_mem ha)
      refine ⟨fun k j e => by have := p1 k j e; rw [dN_len]; omega, a, by rw [eD]; exact app_get ha, by rw [ek, if_neg na]; exact o1, fun w => by rw [en a na]; exact o2 w, fun k => by rw [eI, if_neg na]; exact o3 k, fun k => by rw [eJ, if_neg na]; exact o4 k, fun k => ?_⟩
      rw [eP, if_neg na, o5 k, eD]
      cases e : rP r k with
      | none => rfl
      | some j =>
        have lj := p1 k j e
        show (gD σ)[j]? = (gD σ ++ [q])[j]?
        rw [List.getElem?_append_left (by omega)]
    · rw [List.getElem?_append_right (by omega)] at hr
      have e0 : i - d.length = 0 := by
        apply Classical.byContradiction; intro w
        rw [List.getElem?_eq_none (by show 1 ≤ _; omega)] at hr; cases hr
      rw [e0] at hr
      have er : r = rN k n := (Option.some.inj hr).symm
      subst er
      refine ⟨fun k j e => (by cases e), q, by rw [eD]; exact app_last (by omega), by rw [ek, if_pos rfl]; rfl, enq, fun k => by rw [eI, if_pos rfl]; rfl, fun k => by rw [eJ, if_pos rfl], fun k => by rw [eP, if_pos rfl]; rfl⟩
theorem Rep.newA (R : Rep σ d c0 s0) (hq : q ∉ gD σ) (e : σ' = newA σ q k n) : Rep σ' (dN d k n) c0 s0 := by
  subst e
  exact R.new hq rfl rfl rfl (fun b => rfl) (fun b hb => by show va_up (gn σ) q n b = gn σ b; unfold va_up; rw [if_neg hb]) (fun _ => by show va_up (gn σ) q n q = n; unfold va_up; rw [if_pos rfl]) (fun _ _ => rfl) (fun _ _ => rfl) (fun _ _ => rfl)
theorem Rep.new1 (R : Rep σ d c0 s0) (hq : q ∉ gD σ) (hk : k < 100) (e : σ' = new1 σ q k n) : Rep σ' (dN d k n) c0 s0 := by
  subst e
  exact R.new hq rfl rfl rfl (fun b => rfl) (fun b hb => rfl) (fun w => by omega) (fun _ _ => rfl) (fun _ _ => rfl) (fun _ _ => rfl)
theorem Pf.newA (e : σ' = newA σ q k n) : Pf σ σ' := by subst e; exact fun _ _ h => app_get h
theorem Pf.new1 (e : σ' = new1 σ q k n) : Pf σ σ' := by subst e; exact fun _ _ h => app_get h
theorem At.newA (R : Rep σ d c0 s0) (e : σ' = newA σ q k n) (hm : d.length = i) : (gD σ')[i]? = some q := by subst e; exact app_last (R.1.trans hm)
theorem At.new1 (R : Rep σ d c0 s0) (e : σ' = new1 σ q k n) (hm : d.length = i) : (gD σ')[i]? = some q := by subst e; exact app_last (R.1.trans hm)
theorem Rep.upd (R : Rep σ d c0 s0) (ha : (gD σ)[i]? = some a) (f : Rc → Rc) (hk : ∀ r, (f r).1 = r.1 ∧ (f r).2.1 = r.2.1) (hj : ∀ r k j, rP (f r) k = some j → rP r k = some j ∨ j < d.length) (eD : gD σ' = gD σ) (ec : gc σ' = gc σ) (es : gs σ' = gs σ) (ek : gk σ' = gk σ) (en : gn σ' = gn σ) (eJ : gJ σ' = gJ σ)
    (eI : ∀ b k, b ≠ a → gI σ' b k = gI σ b k) (eP : ∀ b k, b ≠ a → gP σ' b k = gP σ b k) (fI : ∀ r, (∀ k, gI σ a k = rI r k) → ∀ k, gI σ' a k = rI (f r) k) (fP : ∀ r, (∀ k, gP σ a k = (rP r k).bind (fun j => (gD σ)[j]?)) → ∀ k, gP σ' a k = (rP (f r) k).bind (fun j => (gD σ)[j]?)) : Rep σ' (dU d i f) c0 s0 := by
  obtain ⟨h1, h2, ⟨h3, h4⟩, h5⟩ := R
  refine ⟨by rw [eD, dU_len]; exact h1, by rw [eD]; exact h2, ⟨by rw [ec, dU_len]; exact h3, by rw [es, dU_sz _ _ _ (fun r => (hk r).2)]; exact h4⟩, fun m r hr => ?_⟩
  rw [dU_get] at hr
  by_cases e : m = i
  · subst e
    rw [if_pos rfl] at hr
    cases er : d[m]? with
    | none => rw [er] at hr; cases hr
    | some r0 =>
      rw [er] at hr
      have e2 : r = f r0 := (Option.some.inj hr).symm
      subst e2
      obtain ⟨p1, b, hb, o1, o2, o3, o4, o5⟩ := h5 m r0 er
      have eb : b = a := Option.some.inj (hb.symm.trans ha)
      subst eb
      refine ⟨fun k j w => by rw [dU_len]; rcases hj r0 k j w with w | w; exact p1 k j w; exact w, b, by rw [eD]; exact hb, by rw [ek, (hk r0).1]; exact o1, fun w => by rw [en, (hk r0).2]; exact o2 (by rw [← (hk r0).1]; exact w), fI r0 o3, fun k => by rw [eJ]; exact o4 k, fun k => by rw [eD]; exact fP r0 o5 k⟩
  · rw [if_neg e] at hr
    obtain ⟨p1, b, hb, o1, o2, o3, o4, o5⟩ := h5 m r hr
    have nb : b ≠ a := fun w => e (nd_inj h2 hb (w ▸ ha))
    exact ⟨fun k j w => by rw [dU_len]; exact p1 k j w, b, by rw [eD]; exact hb, by rw [ek]; exact o1, fun w => by rw [en]; exact o2 w, fun k => by rw [eI b k nb]; exact o3 k, fun k => by rw [eJ]; exact o4 k, fun k => by rw [eP b k nb, eD]; exact o5 k⟩
theorem Rep.pI (R : Rep σ d c0 s0) (e : σ' = pI σ a k v) (ha : (gD σ)[i]? = some a) : Rep σ' (dU d i (uI k v)) c0 s0 := by
  subst e
  refine R.upd ha (uI k v) (fun r => ⟨rfl, rfl⟩) (fun r k j w => Or.inl w) rfl rfl rfl rfl rfl rfl (fun b k nb => by rw [gI_pI]; exact up2_n _ _ (fun z => nb z.1)) (fun _ _ _ => rfl) (fun r hr m => ?_) (fun r hr m => hr m)
  rw [gI_pI]
  by_cases e : m = k
  · subst e; rw [up2_s]; show v = ((((m, v) :: r.2.2.2.1).lookup m).getD r.2.2.1); rw [List.lookup_cons, beq_self_eq_true]; rfl
  · rw [up2_n _ _ (fun z => e z.2), hr m]
    show (r.2.2.2.1.lookup m).getD r.2.2.1 = ((((k, v) :: r.2.2.2.1).lookup m).getD r.2.2.1)
    rw [List.lookup_cons, beq_false_of_ne e]
theorem Rep.pP (R : Rep σ d c0 s0) (e : σ' = pP σ a k (some b)) (ha : (gD σ)[i]? = some a) (hb : (gD σ)[j]? = some b) : Rep σ' (dU d i (uP k j)) c0 s0 := by
  subst e
  have lj : j < d.length := by rw [← R.1]; exact get_lt hb
  refine R.upd ha (uP k j) (fun r => ⟨rfl, rfl⟩) (fun r m x w => ?_) rfl rfl rfl rfl rfl rfl (fun _ _ _ => rfl) (fun b k nb => by rw [gP_pP]; exact up2_n _ _ (fun z => nb z.1)) (fun r hr m => hr m) (fun r hr m => ?_)
  · have w2 : ((k, j) :: r.2.2.2.2).lookup m = some x := w
    by_cases e : m = k
    · subst e; rw [List.lookup_cons, beq_self_eq_true] at w2; cases w2; exact Or.inr lj
    · rw [List.lookup_cons, beq_false_of_ne e] at w2; exact Or.inl w2
  · rw [gP_pP]
    show _ = (((k, j) :: r.2.2.2.2).lookup m).bind _
    by_cases e : m = k
    · subst e; rw [up2_s, List.lookup_cons, beq_self_eq_true]; exact hb.symm
    · rw [up2_n _ _ (fun z => e z.2), hr m, List.lookup_cons, beq_false_of_ne e]; rfl
theorem Pf.pI (e : σ' = pI σ a k v) : Pf σ σ' := by subst e; exact fun _ _ h => h
theorem Pf.pP {w : Option Nat} (e : σ' = pP σ a k w) : Pf σ σ' := by subst e; exact fun _ _ h => h
theorem Rep.kO (R : Rep σ d c0 s0) (ha : (gD σ)[i]? = some a) {r : Rc} (hr : d[i]? = some r) : kO σ a r.1 := by
  obtain ⟨_, b, hb, o1, _⟩ := R.2.2.2 i r hr
  have e : b = a := Option.some.inj (hb.symm.trans ha)
  exact ⟨get_mem ha, by rw [← e]; exact o1⟩
theorem dN_get {d : List Rc} (h : i < d.length) : (dN d k n)[i]? = d[i]? := by unfold dN; exact List.getElem?_append_left h
theorem dU_szI (d : List Rc) (i k : Nat) (v : Int) : sz (dU d i (uI k v)) = sz d := dU_sz d i _ (fun _ => rfl)
theorem dU_szP (d : List Rc) (i k j : Nat) : sz (dU d i (uP k j)) = sz d := dU_sz d i _ (fun _ => rfl)
theorem Rep.at (R : Rep σ d c0 s0) (ha : (gD σ)[i]? = some a) {r : Rc} (hr : d[i]? = some r) : RcO σ r a := by
  obtain ⟨_, b, hb, o⟩ := R.2.2.2 i r hr
  have e : b = a := Option.some.inj (hb.symm.trans ha)
  rw [← e]; exact o
theorem Rep.gP1 (R : Rep σ d c0 s0) (ha : (gD σ)[i]? = some a) {r : Rc} (hr : d[i]? = some r) (hp : rP r k = some j) (hb : (gD σ)[j]? = some b) : gP σ a k = some b := by
  rw [(R.at ha hr).2.2.2.2 k, hp]; exact hb
/-- Arrays.fill -/
def fFill (i : Nat) (v : Int) : Nat → Nat → List Rc → List Rc
  | 0, _, d => d
  | c + 1, k, d => fFill i v c (k + 1) (dU d i (uI k v))
theorem fFill_len (i : Nat) (v : Int) (c : Nat) : ∀ (k : Nat) (d : List Rc), (fFill i v c k d).length = d.length := by
  induction c with
  | zero => intro k d; rfl
  | succ c ih => intro k d; show (fFill i v c (k + 1) (dU d i (uI k v))).length = _; rw [ih, dU_len]
theorem fFill_sz (i : Nat) (v : Int) (c : Nat) : ∀ (k : Nat) (d : List Rc), sz (fFill i v c k d) = sz d := by
  induction c with
  | zero => intro k d; rfl
  | succ c ih => intro k d; show sz (fFill i v c (k + 1) (dU d i (uI k v))) = _; rw [ih, dU_szI]
theorem fFill_get (i : Nat) (v : Int) (c : Nat) {x : Nat} (hx : x ≠ i) : ∀ (k : Nat) (d : List Rc), (fFill i v c k d)[x]? = d[x]? := by
  induction c with
  | zero => intro k d; rfl
  | succ c ih => intro k d; show (fFill i v c (k + 1) (dU d i (uI k v)))[x]? = _; rw [ih, dU_get, if_neg hx]
theorem n_fill {ar : Nat} {Q : Sg → Unit → Prop} {X : Sg → String → Prop} (R : Rep σ d c0 s0) (ha : (gD σ)[i]? = some ar) (hn : gn σ ar ≤ 1000) (hQ : ∀ σ', Rep σ' (fFill i v (gn σ ar) 0 d) c0 s0 → Pf σ σ' → Q σ' ()) : wpC_J7_fill_53178 (some ar) v σ Q X := by
  unfold wpC_J7_fill_53178 wC_J7_fill_53178_0
  refine ⟨ar, rfl, fun kar => ?_⟩
  have main : ∀ (m : Nat) (σ1 : Sg) (d1 : List Rc) (k : Nat), Rep σ1 d1 c0 s0 → gD σ1 = gD σ → gn σ1 = gn σ → k + m = gn σ ar → (∀ σ', Rep σ' (fFill i v m k d1) c0 s0 → Pf σ1 σ' → Q σ' ()) → wlC_J7_fill_53178_5 Q X (m + 1) σ1 (some ar) v (k : Int) (gn σ ar : Int) := by
    intro m
    induction m with
    | zero =>
      intro σ1 d1 k R1 e1 e2 hk hq
      show wC_J7_fill_53178_5 _ Q X σ1 (some ar) v (k : Int) (gn σ ar : Int)
      unfold wC_J7_fill_53178_5
      rw [if_pos (by omega)]
      exact hq σ1 R1 Pf.rf
    | succ m ih =>
      intro σ1 d1 k R1 e1 e2 hk hq
      show wC_J7_fill_53178_5 (wlC_J7_fill_53178_5 Q X (m + 1)) Q X σ1 (some ar) v (k : Int) (gn σ ar : Int)
      unfold wC_J7_fill_53178_5
      rw [if_neg (by omega)]
      unfold wC_J7_fill_53178_10
      refine ⟨ar, rfl, fun _ => ⟨⟨by omega, by rw [e2]; omega⟩, ?_⟩⟩
      intro σ6 e6
      rw [Int.toNat_natCast] at e6
      refine ⟨by unfold rng; omega, ?_⟩
      rw [show (k : Int) + 1 = ((k + 1 : Nat) : Int) by omega]
      exact ih σ6 _ (k + 1) (R1.pI e6 (by rw [e1]; exact ha)) (by rw [e6]; exact e1) (by rw [e6]; exact e2) (by omega) (fun σ' R' P' => hq σ' R' ((Pf.pI e6).tr P'))
  exact ⟨gn σ ar + 1, main _ σ d 0 R rfl rfl (by omega) hQ⟩
/-- newChains -/
def fNCs (m : Nat) : Nat → Nat → List Rc → List Rc
  | 0, _, d => d
  | c + 1, k, d => fNCs m c (k + 1) (dU (dN d 1 3) m (uP k d.length))
theorem fNCs_len (m c : Nat) : ∀ (k : Nat) (d : List Rc), (fNCs m c k d).length = d.length + c := by
  induction c with
  | zero => intro k d; rfl
  | succ c ih => intro k d; show (fNCs m c (k + 1) (dU (dN d 1 3) m (uP k d.length))).length = _; rw [ih, dU_len, dN_len]; omega
theorem fNCs_sz (m c : Nat) : ∀ (k : Nat) (d : List Rc), sz (fNCs m c k d) = sz d + 3 * c := by
  induction c with
  | zero => intro k d; rfl
  | succ c ih => intro k d; show sz (fNCs m c (k + 1) (dU (dN d 1 3) m (uP k d.length))) = _; rw [ih, dU_szP, dN_sz]; omega
theorem fNCs_get (m c : Nat) {x : Nat} (hx : x ≠ m) : ∀ (k : Nat) (d : List Rc), x < d.length → (fNCs m c k d)[x]? = d[x]? := by
  induction c with
  | zero => intro k d _; rfl
  | succ c ih =>
    intro k d hl
    show (fNCs m c (k + 1) (dU (dN d 1 3) m (uP k d.length)))[x]? = _
    rw [ih (k + 1) _ (by rw [dU_len, dN_len]; omega), dU_get, if_neg hx, dN_get hl]
def fNC (d : List Rc) (n : Nat) : List Rc := fNCs d.length n 0 (dN d 111 n)
theorem fNC_len (d : List Rc) (n : Nat) : (fNC d n).length = d.length + (n + 1) := by unfold fNC; rw [fNCs_len, dN_len]; omega
theorem fNC_sz (d : List Rc) (n : Nat) : sz (fNC d n) = sz d + 4 * n := by unfold fNC; rw [fNCs_sz, dN_sz]; omega
theorem fNC_get {d : List Rc} {x n : Nat} (hx : x < d.length) : (fNC d n)[x]? = d[x]? := by
  unfold fNC; rw [fNCs_get _ _ (by omega) _ _ (by rw [dN_len]; omega), dN_get hx]
theorem n_newChains {v0 : Int} {Q : Sg → Option Nat → Prop} {X : Sg → String → Prop} (R : Rep σ d c0 s0) (hv : v0 = (n : Int)) (hn : n ≤ 1000) (hc : c0 + d.length + (n + 1) ≤ BC ∧ s0 + sz d + 4 * n ≤ BS) (hQ : ∀ σ' a, Rep σ' (fNC d n) c0 s0 → Pf σ σ' → (gD σ')[d.length]? = some a → Q σ' (some a)) : wp_X12_newChains v0 σ Q X := by
  subst hv
  unfold wp_X12_newChains w_X12_newChains_0
  refine sC_maxI (fun r h1 h2 h3 => ?_)
  have er : r = (n : Int) := by omega
  subst er
  intro _
  have g1 := R.2.2.1
  refine ⟨by omega, ⟨by omega, by rw [Int.toNat_natCast]; omega⟩, ?_⟩
  intro q hq s1 e1
  rw [Int.toNat_natCast] at e1
  have R1 := R.newA hq e1
  have a1 : (gD s1)[d.length]? = some q := At.newA R e1 rfl
  have gn1 : gn s1 q = n := by rw [e1]; show va_up (gn σ) q n q = n; unfold va_up; rw [if_pos rfl]
  have main : ∀ (c : Nat) (τ : Sg) (d1 : List Rc) (k : Nat), Rep τ d1 c0 s0 → (gD τ)[d.length]? = some q → gn τ q = n → k + c = n → d1.length = d.length + 1 + k → sz d1 = sz d + n + 3 * k → (∀ σ', Rep σ' (fNCs d.length c k d1) c0 s0 → Pf τ σ' → Q σ' (some q)) → wl_X12_newChains_11 Q X (c + 1) τ (some q) (k : Int) := by
    intro c
    induction c with
    | zero =>
      intro τ d1 k R1 aq gq1 hk hl hs hq1
      show w_X12_newChains_11 _ Q X τ (some q) (k : Int)
      unfold w_X12_newChains_11
      refine ⟨q, rfl, fun _ => ?_⟩
      rw [if_pos (by omega)]
      exact hq1 τ R1 Pf.rf
    | succ c ih =>
      intro τ d1 k R1 aq gq1 hk hl hs hq1
      show w_X12_newChains_11 (wl_X12_newChains_11 Q X (c + 1)) Q X τ (some q) (k : Int)
      unfold w_X12_newChains_11
      refine ⟨q, rfl, fun _ => ?_⟩
      rw [if_neg (by omega)]
      unfold w_X12_newChains_17
      have g2 := R1.2.2.1
      refine ⟨⟨by omega, by omega⟩, ?_⟩
      intro q2 hq2 s2 e2
      have R2 := R1.new1 hq2 (by decide) e2
      unfold wp_X1_init w_X1_init_0
      intro _
      refine ⟨q, rfl, fun _ => ⟨⟨by omega, by rw [e2]; show (k : Int) < (gn τ q : Int); omega⟩, ?_⟩⟩
      intro s3 e3
      rw [Int.toNat_natCast] at e3
      refine ⟨by unfold rng; omega, ?_⟩
      have aq2 := Pf.new1 e2 _ _ aq
      have R3 := R2.pP e3 aq2 (At.new1 R1 e2 rfl)
      rw [show (k : Int) + 1 = ((k + 1 : Nat) : Int) by omega]
      refine ih s3 _ (k + 1) R3 (Pf.pP e3 _ _ aq2) ?_ (by omega) (by rw [dU_len, dN_len]; omega) (by rw [dU_szP, dN_sz]; omega) (fun σ' R' P' => hq1 σ' R' (((Pf.new1 e2).tr (Pf.pP e3)).tr P'))
      rw [e3]; show gn s2 q = n; rw [e2]; exact gq1
  exact ⟨n + 1, main n s1 _ 0 R1 a1 gn1 (by omega) (by rw [dN_len]) (by rw [dN_sz]; omega) (fun σ' R' P' => hQ σ' q R' ((Pf.newA e1).tr P') (P' _ _ a1))⟩
/-- new long[4][320] -/
def dM (d : List Rc) : List Rc := d ++ [(200, 4, 0, [], [(0, d.length + 1), (1, d.length + 2), (2, d.length + 3), (3, d.length + 4)]), rN 101 320, rN 101 320, rN 101 320, rN 101 320]
theorem dM_len (d : List Rc) : (dM d).length = d.length + 5 := by unfold dM; rw [List.length_append]; rfl
theorem dM_sz (d : List Rc) : sz (dM d) = sz d + 1284 := by unfold dM; rw [sz_app]; rfl
theorem dM_get {d : List Rc} (h : i < d.length) : (dM d)[i]? = d[i]? := by unfold dM; exact List.getElem?_append_left h
theorem Rep.mna {f : Nat → Nat} (R : Rep σ d c0 s0) (hq : q ∉ gD σ ∧ ∀ i, i < 4 → f i ∉ gD σ ∧ f i ≠ q ∧ ∀ j, j < i → f j ≠ f i) (e : σ' = mnaJ σ q f 4 320) : Rep σ' (dM d) c0 s0 ∧ Pf σ σ' ∧ (gD σ')[d.length]? = some q := by
  obtain ⟨h1, h2, ⟨h3, h4⟩, h5⟩ := R
  obtain ⟨hq0, hf⟩ := hq
  have f0 := hf 0 (by decide); have f1 := hf 1 (by decide); have f2 := hf 2 (by decide); have f3 := hf 3 (by decide)
  have g10 := f1.2.2 0 (by decide); have g20 := f2.2.2 0 (by decide); have g21 := f2.2.2 1 (by decide)
  have g30 := f3.2.2 0 (by decide); have g31 := f3.2.2 1 (by decide); have g32 := f3.2.2 2 (by decide)
  have eD : gD σ' = gD σ ++ [q, f 0, f 1, f 2, f 3] := by rw [e]; rfl
  have eC : gc σ' = gc σ + 5 := by rw [e]; rfl
  have eS : gs σ' = gs σ + 1284 := by rw [e]; rfl
  have em : ∀ b, b ∈ (List.range 4).map f ↔ b = f 0 ∨ b = f 1 ∨ b = f 2 ∨ b = f 3 := fun b => by
    rw [show (List.range 4).map f = [f 0, f 1, f 2, f 3] from rfl]; simp
  have nw : ∀ i, i < 5 → (gD σ')[d.length + i]? = [q, f 0, f 1, f 2, f 3][i]? := fun i hi => by
    rw [eD, List.getElem?_append_right (by omega), h1, Nat.add_sub_cancel_left]
  have pf : Pf σ σ' := fun i a h => by rw [eD, List.getElem?_append_left (get_lt h)]; exact h
  have arr : ∀ b, b ≠ q → (b = f 0 ∨ b = f 1 ∨ b = f 2 ∨ b = f 3) → RcO σ' (rN 101 320) b := fun b hb hm => by
    have m9 := (em b).mpr hm
    refine ⟨?_, fun _ => ?_, fun k => ?_, fun k => ?_, fun k => ?_⟩
    · rw [e]; show (if b = q then 200 else if b ∈ (List.range 4).map f then 101 else gk σ b) = 101; rw [if_neg hb, if_pos m9]
    · rw [e]; show (if b = q then 4 else if b ∈ (List.range 4).map f then 320 else gn σ b) = 320; rw [if_neg hb, if_pos m9]
    · rw [e]; show (if b = q ∨ b ∈ (List.range 4).map f then 0 else gI σ b k) = 0; rw [if_pos (Or.inr m9)]
    · rw [e]; show (if b = q ∨ b ∈ (List.range 4).map f then 0 else gJ σ b k) = 0; rw [if_pos (Or.inr m9)]
    · rw [e]; show (if b = q then (if k < 4 then some (f k) else none) else if b ∈ (List.range 4).map f then none else gP σ b k) = none; rw [if_neg hb, if_pos m9]
  refine ⟨⟨by rw [eD, List.length_append, h1, dM_len]; rfl, ?_, ⟨by rw [eC, h3, dM_len]; omega, by rw [eS, h4, dM_sz]; omega⟩, fun i r hr => ?_⟩, pf, by have := nw 0 (by decide); exact this⟩
  · rw [eD, List.nodup_append]
    refine ⟨h2, ?_, fun x hx y hy => ?_⟩
    · simp only [List.nodup_cons, List.mem_cons, List.mem_nil_iff, or_false, not_or, List.nodup_nil, and_true, not_false_eq_true]
      exact ⟨⟨fun w => f0.2.1 w.symm, fun w => f1.2.1 w.symm, fun w => f2.2.1 w.symm, fun w => f3.2.1 w.symm⟩, ⟨g10, g20, g30⟩, ⟨g21, g31⟩, g32⟩
    · simp only [List.mem_cons, List.mem_nil_iff, or_false] at hy
      intro w
      rcases hy with y0 | y0 | y0 | y0 | y0
      · exact hq0 (y0 ▸ w ▸ hx)
      · exact f0.1 (y0 ▸ w ▸ hx)
      · exact f1.1 (y0 ▸ w ▸ hx)
      · exact f2.1 (y0 ▸ w ▸ hx)
      · exact f3.1 (y0 ▸ w ▸ hx)
  · by_cases hi : i < d.length
    · rw [dM_get hi] at hr
      obtain ⟨p1, a, ha, o1, o2, o3, o4, o5⟩ := h5 i r hr
      have ma := get_mem ha
      have na : a ≠ q := fun w => hq0 (w ▸ ma)
      have nm : a ∉ (List.range 4).map f := fun w => by
        rcases (em a).mp w with w | w | w | w
        · exact f0.1 (w ▸ ma)
        · exact f1.1 (w ▸ ma)
        · exact f2.1 (w ▸ ma)
        · exact f3.1 (w ▸ ma)
      refine ⟨fun k j w => by have := p1 k j w; rw [dM_len]; omega, a, pf _ _ ha, ?_, fun w => ?_, fun k => ?_, fun k => ?_, fun k => ?_⟩
      · rw [e]; show (if a = q then 200 else if a ∈ (List.range 4).map f then 101 else gk σ a) = _; rw [if_neg na, if_neg nm]; exact o1
      · rw [e]; show (if a = q then 4 else if a ∈ (List.range 4).map f then 320 else gn σ a) = _; rw [if_neg na, if_neg nm]; exact o2 w
      · rw [e]; show (if a = q ∨ a ∈ (List.range 4).map f then 0 else gI σ a k) = _; rw [if_neg (fun w => w.elim na nm)]; exact o3 k
      · rw [e]; show (if a = q ∨ a ∈ (List.range 4).map f then 0 else gJ σ a k) = _; rw [if_neg (fun w => w.elim na nm)]; exact o4 k
      · have x1 : gP σ' a k = gP σ a k := by rw [e]; show (if a = q then (if k < 4 then some (f k) else none) else if a ∈ (List.range 4).map f then none else gP σ a k) = _; rw [if_neg na, if_neg nm]
        rw [x1, o5 k]
        cases er : rP r k with
        | none => rfl
        | some j =>
          have lj := p1 k j er
          show (gD σ)[j]? = (gD σ')[j]?
          rw [eD, List.getElem?_append_left (by omega)]
    · have hr2 : [((200, 4, 0, [], [(0, d.length + 1), (1, d.length + 2), (2, d.length + 3), (3, d.length + 4)]) : Rc), rN 101 320, rN 101 320, rN 101 320, rN 101 320][i - d.length]? = some r := by
        unfold dM at hr; rw [List.getElem?_append_right (by omega)] at hr; exact hr
      have hl : i - d.length < 5 := by
        apply Classical.byContradiction; intro w
        rw [List.getElem?_eq_none (by show 5 ≤ _; omega)] at hr2; cases hr2
      obtain ⟨m, hm⟩ : ∃ m, m = i - d.length := ⟨_, rfl⟩
      have ei : i = d.length + m := by omega
      rw [← hm] at hr2 hl
      subst ei
      have nwm := nw m hl
      match m, hl with
      | 0, _ =>
        have er : r = (200, 4, 0, [], [(0, d.length + 1), (1, d.length + 2), (2, d.length + 3), (3, d.length + 4)]) := (Option.some.inj hr2).symm
        subst er
        refine ⟨fun k j w => ?_, q, nwm, ?_, fun _ => ?_, fun k => ?_, fun k => ?_, fun k => ?_⟩
        · rw [dM_len]
          have w2 : [((0 : Nat), d.length + 1), (1, d.length + 2), (2, d.length + 3), (3, d.length + 4)].lookup k = some j := w
          match k with
          | 0 => cases w2; omega
          | 1 => cases w2; omega
          | 2 => cases w2; omega
          | 3 => cases w2; omega
          | k + 4 => cases w2
        · rw [e]; show (if q = q then 200 else _) = 200; rw [if_pos rfl]
        · rw [e]; show (if q = q then 4 else _) = 4; rw [if_pos rfl]
        · rw [e]; show (if q = q ∨ q ∈ (List.range 4).map f then 0 else gI σ q k) = 0; rw [if_pos (Or.inl rfl)]
        · rw [e]; show (if q = q ∨ q ∈ (List.range 4).map f then 0 else gJ σ q k) = 0; rw [if_pos (Or.inl rfl)]
        · have x1 : gP σ' q k = if k < 4 then some (f k) else none := by rw [e]; show (if q = q then (if k < 4 then some (f k) else none) else _) = _; rw [if_pos rfl]
          rw [x1]
          match k with
          | 0 => rw [if_pos (by decide)]; exact (nw 1 (by decide)).symm
          | 1 => rw [if_pos (by decide)]; exact (nw 2 (by decide)).symm
          | 2 => rw [if_pos (by decide)]; exact (nw 3 (by decide)).symm
          | 3 => rw [if_pos (by decide)]; exact (nw 4 (by decide)).symm
          | k + 4 => rw [if_neg (by omega)]; rfl
      | 1, _ => have er : r = rN 101 320 := (Option.some.inj hr2).symm; subst er; exact ⟨fun k j w => (by cases w), f 0, nwm, arr _ f0.2.1 (Or.inl rfl)⟩
      | 2, _ => have er : r = rN 101 320 := (Option.some.inj hr2).symm; subst er; exact ⟨fun k j w => (by cases w), f 1, nwm, arr _ f1.2.1 (Or.inr (Or.inl rfl))⟩
      | 3, _ => have er : r = rN 101 320 := (Option.some.inj hr2).symm; subst er; exact ⟨fun k j w => (by cases w), f 2, nwm, arr _ f2.2.1 (Or.inr (Or.inr (Or.inl rfl)))⟩
      | 4, _ => have er : r = rN 101 320 := (Option.some.inj hr2).symm; subst er; exact ⟨fun k j w => (by cases w), f 3, nwm, arr _ f3.2.1 (Or.inr (Or.inr (Or.inr rfl)))⟩
end REP

/-! the start: what the constructors make, as data -/
/-- kind, length, what the ints are, but for these; the references, by place -/
abbrev Rc : Type := Nat × Nat × Int × List (Nat × Int) × List (Nat × Nat)
def rI (r : Rc) (k : Nat) : Int := (r.2.2.2.1.lookup k).getD r.2.2.1
def rP (r : Rc) (k : Nat) : Option Nat := r.2.2.2.2.lookup k
def rN (k n : Nat) : Rc := (k, n, 0, [], [])
def uP (k j : Nat) (r : Rc) : Rc := (r.1, r.2.1, r.2.2.1, r.2.2.2.1, (k, j) :: r.2.2.2.2)
def uI (k : Nat) (v : Int) (r : Rc) : Rc := (r.1, r.2.1, r.2.2.1, (k, v) :: r.2.2.2.1, r.2.2.2.2)
def dN (d : List Rc) (k n : Nat) : List Rc := d ++ [rN k n]
def dU : List Rc → Nat → (Rc → Rc) → List Rc
  | [], _, _ => []
  | r :: d, 0, f => f r :: d
  | r :: d, i + 1, f => r :: dU d i f
def sz : List Rc → Nat
  | [] => 0
  | r :: d => r.2.1 + sz d
theorem dU_len (d : List Rc) (i : Nat) (f : Rc → Rc) : (dU d i f).length = d.length := by
  induction d generalizing i with
  | nil => rfl
  | cons r d ih => cases i with
    | zero => rfl
    | succ i => show (dU d i f).length + 1 = d.length + 1; rw [ih]
theorem dN_len (d : List Rc) (k n : Nat) : (dN d k n).length = d.length + 1 := by unfold dN; rw [List.length_append]; rfl
theorem dU_get (d : List Rc) (i j : Nat) (f : Rc → Rc) : (dU d i f)[j]? = if j = i then d[j]?.map f else d[j]? := by
  induction d generalizing i j with
  | nil => show ([] : List Rc)[j]? = _; by_cases e : j = i <;> simp [e]
  | cons r d ih => cases i with
    | zero => cases j with
      | zero => simp [dU]
      | succ j => simp [dU]
    | succ i => cases j with
      | zero => simp [dU]
      | succ j => simp only [dU, List.getElem?_cons_succ]; rw [ih]; by_cases e : j = i <;> simp [e]
theorem sz_app (d e : List Rc) : sz (d ++ e) = sz d + sz e := by
  induction d with
  | nil => show sz e = 0 + sz e; omega
  | cons r d ih => show r.2.1 + sz (d ++ e) = r.2.1 + sz d + sz e; omega
theorem dN_sz (d : List Rc) (k n : Nat) : sz (dN d k n) = sz d + n := by unfold dN; rw [sz_app]; rfl
theorem dU_sz (d : List Rc) (i : Nat) (f : Rc → Rc) (hf : ∀ r, (f r).2.1 = r.2.1) : sz (dU d i f) = sz d := by
  induction d generalizing i with
  | nil => rfl
  | cons r d ih => cases i with
    | zero => show (f r).2.1 + sz d = r.2.1 + sz d; rw [hf]
    | succ i => show r.2.1 + sz (dU d i f) = r.2.1 + sz d; rw [ih]
/-- the thing a is what the record says -/
def RcO (σ : Sg) (r : Rc) (a : Nat) : Prop := gk σ a = r.1 ∧ (100 ≤ r.1 → gn σ a = r.2.1) ∧ (∀ k, gI σ a k = rI r k) ∧ (∀ k, gJ σ a k = 0) ∧ ∀ k, gP σ a k = (rP r k).bind (fun j => (gD σ)[j]?)
def Rep (σ : Sg) (d : List Rc) (c0 s0 : Nat) : Prop :=
  (gD σ).length = d.length ∧ (gD σ).Nodup ∧ (gc σ = c0 + d.length ∧ gs σ = s0 + sz d) ∧
  ∀ (i : Nat) (r : Rc), d[i]? = some r → (∀ k j, rP r k = some j → j < d.length) ∧ ∃ a, (gD σ)[i]? = some a ∧ RcO σ r a
def Pf (σ σ' : Sg) : Prop := ∀ i a : Nat, (gD σ)[i]? = some a → (gD σ')[i]? = some a
section REP
variable {σ σ' : Sg} {d : List Rc} {c0 s0 i j k n q a b : Nat} {v : Int}
theorem Pf.rf : Pf σ σ := fun _ _ h => h
theorem Pf.tr {σ'' : Sg} (h : Pf σ σ') (h2 : Pf σ' σ'') : Pf σ σ'' := fun i a w => h2 i a (h i a w)
theorem get_mem {l : List Nat} {i a : Nat} (h : l[i]? = some a) : a ∈ l := List.mem_of_getElem? h
theorem get_lt {l : List Nat} {i a : Nat} (h : l[i]? = some a) : i < l.length := by
  apply Classical.byContradiction; intro w; rw [List.getElem?_eq_none (by omega)] at h; cases h
theorem nd_inj {l : List Nat} (hn : l.Nodup) {i j a : Nat} (hi : l[i]? = some a) (hj : l[j]? = some a) : i = j := by
  have li := get_lt hi; have lj := get_lt hj
  rw [List.getElem?_eq_getElem li] at hi; rw [List.getElem?_eq_getElem lj] at hj
  exact (List.getElem_inj hn).mp ((Option.some.inj hi).trans (Option.some.inj hj).symm)
theorem app_get {l : List Nat} {i a q : Nat} (h : l[i]? = some a) : (l ++ [q])[i]? = some a := by rw [List.getElem?_append_left (get_lt h)]; exact h
theorem app_last {l : List Nat} {q m : Nat} (h : l.length = m) : (l ++ [q])[m]? = some q := by rw [List.getElem?_append_right (by omega), h, Nat.sub_self]; rfl
theorem Rep.new (R : Rep σ d c0 s0) (hq : q ∉ gD σ) (eD : gD σ' = gD σ ++ [q]) (ec : gc σ' = gc σ + 1) (es : gs σ' = gs σ + n) (ek : ∀ b, gk σ' b = if b = q then k else gk σ b) (en : ∀ b, b ≠ q → gn σ' b = gn σ b) (enq : 100 ≤ k → gn σ' q = n) (eI : ∀ b j, gI σ' b j = if b = q then 0 else gI σ b j) (eJ : ∀ b j, gJ σ' b j = if b = q then 0 else gJ σ b j) (eP : ∀ b j, gP σ' b j = if b = q then none else gP σ b j) :
    Rep σ' (dN d k n) c0 s0 := by
  obtain ⟨h1, h2, ⟨h3, h4⟩, h5⟩ := R
  refine ⟨by rw [eD, List.length_append, h1, dN_len]; rfl, ?_, ⟨by rw [ec, h3, dN_len]; omega, by rw [es, h4, dN_sz]; omega⟩, fun i r hr => ?_⟩
  · rw [eD, List.nodup_append]
    exact ⟨h2, by simp, fun x hx y hy => by rw [List.mem_singleton.mp hy]; exact fun e => hq (e ▸ hx)⟩
  · unfold dN at hr
    by_cases hi : i < d.length
    · rw [List.getElem?_append_left hi] at hr
      obtain ⟨p1, a, ha, o1, o2, o3, o4, o5⟩ := h5 i r hr
      have na : a ≠ q := fun e => hq (e ▸ get_mem ha)
      refine ⟨fun k j e => by have := p1 k j e; rw [dN_len]; omega, a, by rw [eD]; exact app_get ha, by rw [ek, if_neg na]; exact o1, fun w => by rw [en a na]; exact o2 w, fun k => by rw [eI, if_neg na]; exact o3 k, fun k => by rw [eJ, if_neg na]; exact o4 k, fun k => ?_⟩
      rw [eP, if_neg na, o5 k, eD]
      cases e : rP r k with
      | none => rfl
      | some j =>
        have lj := p1 k j e
        show (gD σ)[j]? = (gD σ ++ [q])[j]?
        rw [List.getElem?_append_left (by omega)]
    · rw [List.getElem?_append_right (by omega)] at hr
      have e0 : i - d.length = 0 := by
        apply Classical.byContradiction; intro w
        rw [List.getElem?_eq_none (by show 1 ≤ _; omega)] at hr; cases hr
      rw [e0] at hr
      have er : r = rN k n := (Option.some.inj hr).symm
      subst er
      refine ⟨fun k j e => (by cases e), q, by rw [eD]; exact app_last (by omega), by rw [ek, if_pos rfl]; rfl, enq, fun k => by rw [eI, if_pos rfl]; rfl, fun k => by rw [eJ, if_pos rfl], fun k => by rw [eP, if_pos rfl]; rfl⟩
theorem Rep.newA (R : Rep σ d c0 s0) (hq : q ∉ gD σ) (e : σ' = newA σ q k n) : Rep σ' (dN d k n) c0 s0 := by
  subst e
  exact R.new hq rfl rfl rfl (fun b => rfl) (fun b hb => by show va_up (gn σ) q n b = gn σ b; unfold va_up; rw [if_neg hb]) (fun _ => by show va_up (gn σ) q n q = n; unfold va_up; rw [if_pos rfl]) (fun _ _ => rfl) (fun _ _ => rfl) (fun _ _ => rfl)
theorem Rep.new1 (R : Rep σ d c0 s0) (hq : q ∉ gD σ) (hk : k < 100) (e : σ' = new1 σ q k n) : Rep σ' (dN d k n) c0 s0 := by
  subst e
  exact R.new hq rfl rfl rfl (fun b => rfl) (fun b hb => rfl) (fun w => by omega) (fun _ _ => rfl) (fun _ _ => rfl) (fun _ _ => rfl)
theorem Pf.newA (e : σ' = newA σ q k n) : Pf σ σ' := by subst e; exact fun _ _ h => app_get h
theorem Pf.new1 (e : σ' = new1 σ q k n) : Pf σ σ' := by subst e; exact fun _ _ h => app_get h
theorem At.newA (R : Rep σ d c0 s0) (e : σ' = newA σ q k n) (hm : d.length = i) : (gD σ')[i]? = some q := by subst e; exact app_last (R.1.trans hm)
theorem At.new1 (R : Rep σ d c0 s0) (e : σ' = new1 σ q k n) (hm : d.length = i) : (gD σ')[i]? = some q := by subst e; exact app_last (R.1.trans hm)
theorem Rep.upd (R : Rep σ d c0 s0) (ha : (gD σ)[i]? = some a) (f : Rc → Rc) (hk : ∀ r, (f r).1 = r.1 ∧ (f r).2.1 = r.2.1) (hj : ∀ r k j, rP (f r) k = some j → rP r k = some j ∨ j < d.length) (eD : gD σ' = gD σ) (ec : gc σ' = gc σ) (es : gs σ' = gs σ) (ek : gk σ' = gk σ) (en : gn σ' = gn σ) (eJ : gJ σ' = gJ σ)
    (eI : ∀ b k, b ≠ a → gI σ' b k = gI σ b k) (eP : ∀ b k, b ≠ a → gP σ' b k = gP σ b k) (fI : ∀ r, (∀ k, gI σ a k = rI r k) → ∀ k, gI σ' a k = rI (f r) k) (fP : ∀ r, (∀ k, gP σ a k = (rP r k).bind (fun j => (gD σ)[j]?)) → ∀ k, gP σ' a k = (rP (f r) k).bind (fun j => (gD σ)[j]?)) : Rep σ' (dU d i f) c0 s0 := by
  obtain ⟨h1, h2, ⟨h3, h4⟩, h5⟩ := R
  refine ⟨by rw [eD, dU_len]; exact h1, by rw [eD]; exact h2, ⟨by rw [ec, dU_len]; exact h3, by rw [es, dU_sz _ _ _ (fun r => (hk r).2)]; exact h4⟩, fun m r hr => ?_⟩
  rw [dU_get] at hr
  by_cases e : m = i
  · subst e
    rw [if_pos rfl] at hr
    cases er : d[m]? with
    | none => rw [er] at hr; cases hr
    | some r0 =>
      rw [er] at hr
      have e2 : r = f r0 := (Option.some.inj hr).symm
      subst e2
      obtain ⟨p1, b, hb, o1, o2, o3, o4, o5⟩ := h5 m r0 er
      have eb : b = a := Option.some.inj (hb.symm.trans ha)
      subst eb
      refine ⟨fun k j w => by rw [dU_len]; rcases hj r0 k j w with w | w; exact p1 k j w; exact w, b, by rw [eD]; exact hb, by rw [ek, (hk r0).1]; exact o1, fun w => by rw [en, (hk r0).2]; exact o2 (by rw [← (hk r0).1]; exact w), fI r0 o3, fun k => by rw [eJ]; exact o4 k, fun k => by rw [eD]; exact fP r0 o5 k⟩
  · rw [if_neg e] at hr
    obtain ⟨p1, b, hb, o1, o2, o3, o4, o5⟩ := h5 m r hr
    have nb : b ≠ a := fun w => e (nd_inj h2 hb (w ▸ ha))
    exact ⟨fun k j w => by rw [dU_len]; exact p1 k j w, b, by rw [eD]; exact hb, by rw [ek]; exact o1, fun w => by rw [en]; exact o2 w, fun k => by rw [eI b k nb]; exact o3 k, fun k => by rw [eJ]; exact o4 k, fun k => by rw [eP b k nb, eD]; exact o5 k⟩
theorem Rep.pI (R : Rep σ d c0 s0) (e : σ' = pI σ a k v) (ha : (gD σ)[i]? = some a) : Rep σ' (dU d i (uI k v)) c0 s0 := by
  subst e
  refine R.upd ha (uI k v) (fun r => ⟨rfl, rfl⟩) (fun r k j w => Or.inl w) rfl rfl rfl rfl rfl rfl (fun b k nb => by rw [gI_pI]; exact up2_n _ _ (fun z => nb z.1)) (fun _ _ _ => rfl) (fun r hr m => ?_) (fun r hr m => hr m)
  rw [gI_pI]
  by_cases e : m = k
  · subst e; rw [up2_s]; show v = ((((m, v) :: r.2.2.2.1).lookup m).getD r.2.2.1); rw [List.lookup_cons, beq_self_eq_true]; rfl
  · rw [up2_n _ _ (fun z => e z.2), hr m]
    show (r.2.2.2.1.lookup m).getD r.2.2.1 = ((((k, v) :: r.2.2.2.1).lookup m).getD r.2.2.1)
    rw [List.lookup_cons, beq_false_of_ne e]
theorem Rep.pP (R : Rep σ d c0 s0) (e : σ' = pP σ a k (some b)) (ha : (gD σ)[i]? = some a) (hb : (gD σ)[j]? = some b) : Rep σ' (dU d i (uP k j)) c0 s0 := by
  subst e
  have lj : j < d.length := by rw [← R.1]; exact get_lt hb
  refine R.upd ha (uP k j) (fun r => ⟨rfl, rfl⟩) (fun r m x w => ?_) rfl rfl rfl rfl rfl rfl (fun _ _ _ => rfl) (fun b k nb => by rw [gP_pP]; exact up2_n _ _ (fun z => nb z.1)) (fun r hr m => hr m) (fun r hr m => ?_)
  · have w2 : ((k, j) :: r.2.2.2.2).lookup m = some x := w
    by_cases e : m = k
    · subst e; rw [List.lookup_cons, beq_self_eq_true] at w2; cases w2; exact Or.inr lj
    · rw [List.lookup_cons, beq_false_of_ne e] at w2; exact Or.inl w2
  · rw [gP_pP]
    show _ = (((k, j) :: r.2.2.2.2).lookup m).bind _
    by_cases e : m = k
    · subst e; rw [up2_s, List.lookup_cons, beq_self_eq_true]; exact hb.symm
    · rw [up2_n _ _ (fun z => e z.2), hr m, List.lookup_cons, beq_false_of_ne e]; rfl
theorem Pf.pI (e : σ' = pI σ a k v) : Pf σ σ' := by subst e; exact fun _ _ h => h
theorem Pf.pP {w : Option Nat} (e : σ' = pP σ a k w) : Pf σ σ' := by subst e; exact fun _ _ h => h
theorem Rep.kO (R : Rep σ d c0 s0) (ha : (gD σ)[i]? = some a) {r : Rc} (hr : d[i]? = some r) : kO σ a r.1 := by
  obtain ⟨_, b, hb, o1, _⟩ := R.2.2.2 i r hr
  have e : b = a := Option.some.inj (hb.symm.trans ha)
  exact ⟨get_mem ha, by rw [← e]; exact o1⟩
theorem dN_get {d : List Rc} (h : i < d.length) : (dN d k n)[i]? = d[i]? := by unfold dN; exact List.getElem?_append_left h
theorem dU_szI (d : List Rc) (i k : Nat) (v : Int) : sz (dU d i (uI k v)) = sz d := dU_sz d i _ (fun _ => rfl)
theorem dU_szP (d : List Rc) (i k j : Nat) : sz (dU d i (uP k j)) = sz d := dU_sz d i _ (fun _ => rfl)
theorem Rep.at (R : Rep σ d c0 s0) (ha : (gD σ)[i]? = some a) {r : Rc} (hr : d[i]? = some r) : RcO σ r a := by
  obtain ⟨_, b, hb, o⟩ := R.2.2.2 i r hr
  have e : b = a := Option.some.inj (hb.symm.trans ha)
  rw [← e]; exact o
theorem Rep.gP1 (R : Rep σ d c0 s0) (ha : (gD σ)[i]? = some a) {r : Rc} (hr : d[i]? = some r) (hp : rP r k = some j) (hb : (gD σ)[j]? = some b) : gP σ a k = some b := by
  rw [(R.at ha hr).2.2.2.2 k, hp]; exact hb
end REP

/-! the shape of a new reference -/
def plR : List (Nat × Nat) := [(1, 1), (2, 2), (14, 3), (15, 4), (16, 21), (20, 38), (22, 39), (23, 40), (24, 41), (25, 42), (26, 43), (28, 44), (29, 45), (37, 46), (38, 47), (39, 48), (40, 49), (41, 50), (42, 51), (43, 52), (44, 53), (45, 54), (46, 55), (47, 56), (48, 57), (49, 58), (51, 59), (52, 60), (53, 61), (54, 62), (55, 63), (56, 64), (57, 65), (58, 66), (59, 67), (60, 68), (61, 69), (62, 70), (63, 71), (64, 72), (65, 73), (68, 74), (69, 75), (70, 76), (71, 77), (72, 78), (73, 79), (74, 80), (75, 81), (76, 82), (77, 83), (78, 84), (81, 85), (82, 86), (83, 87), (84, 88), (85, 89), (86, 90), (87, 91), (88, 92), (89, 93), (97, 94), (98, 95), (99, 96), (100, 97), (101, 98), (102, 99), (103, 100), (104, 101), (105, 102), (106, 103), (107, 104), (108, 105), (109, 106), (114, 107), (115, 108), (116, 109), (118, 110), (119, 111), (120, 112), (121, 113), (122, 114)]
def plJ : List (Nat × Nat) := [(2, 1), (3, 2), (4, 3), (5, 4), (6, 5), (7, 6), (8, 7), (9, 8), (10, 9), (11, 10), (12, 11), (13, 12), (14, 13), (15, 14), (16, 15), (18, 16)]
def prr (a k : Nat) : Nat := (a + k) * (a + k) + a
theorem prr_inj {a k b j : Nat} (h : prr a k = prr b j) : a = b ∧ k = j := by
  unfold prr at h
  have lt : ∀ s t x y : Nat, x ≤ s → s < t → s * s + x = t * t + y → False := fun s t x y hx hst e => by
    have m : (s + 1) * (s + 1) ≤ t * t := Nat.mul_le_mul hst hst
    have e2 : (s + 1) * (s + 1) = s * s + 2 * s + 1 := by rw [Nat.add_mul, Nat.mul_add]; omega
    omega
  rcases Nat.lt_trichotomy (a + k) (b + j) with w | w | w
  · exact (lt _ _ a b (by omega) w h).elim
  · rw [w] at h; omega
  · exact (lt _ _ b a (by omega) w h.symm).elim
/-- the thing by its number: one of those made, or none -/
def nmA (σ : Sg) (M c : Nat) : Nat := if c < 115 then (gD σ).getD c 0 else M + c
def crA (i : Nat) : Nat := match plR.lookup i with
  | some j => j
  | none => 115 + 3 * i
def cjA (x y a k : Nat) : Nat := if a = x then (match plJ.lookup k with | some o => 4 + o | none => 116 + 3 * prr a k) else if a = y then (match plJ.lookup k with | some o => 21 + o | none => 116 + 3 * prr a k) else 116 + 3 * prr a k
set_option maxRecDepth 100000 in
theorem plR_ok : (∀ q ∈ plR, q.2 < 115 ∧ q.2 ≠ 0 ∧ plR.lookup q.1 = some q.2) ∧ (∀ q ∈ plR, ∀ w ∈ plR, q.2 = w.2 → q.1 = w.1) ∧ (∀ q ∈ plR, ∀ o ∈ plJ, q.2 ≠ 4 + o.2 ∧ q.2 ≠ 21 + o.2) ∧ (∀ o ∈ plJ, (4 + o.2 < 115 ∧ 21 + o.2 < 115) ∧ 4 + o.2 ≠ 0 ∧ 21 + o.2 ≠ 0 ∧ plJ.lookup o.1 = some o.2) ∧ (∀ o ∈ plJ, ∀ w ∈ plJ, (o.2 = w.2 → o.1 = w.1) ∧ 4 + o.2 ≠ 21 + w.2) := by decide +kernel
theorem lk_mem {l : List (Nat × Nat)} {k v : Nat} (h : l.lookup k = some v) : (k, v) ∈ l := by
  induction l with
  | nil => cases h
  | cons p l ih =>
    obtain ⟨x, y⟩ := p
    by_cases e : k = x
    · subst e; rw [List.lookup_cons, beq_self_eq_true] at h; cases h; exact List.mem_cons_self
    · rw [List.lookup_cons, beq_false_of_ne e] at h; exact List.mem_cons_of_mem _ (ih h)
theorem crA_inj {i j : Nat} (h : crA i = crA j) : i = j := by
  unfold crA at h
  cases e1 : plR.lookup i with
  | none => cases e2 : plR.lookup j with
    | none => rw [e1, e2] at h; have h : 115 + 3 * i = 115 + 3 * j := h; omega
    | some b => rw [e1, e2] at h; have h : 115 + 3 * i = b := h; have := (plR_ok.1 _ (lk_mem e2)).1; simp only at this; omega
  | some a => cases e2 : plR.lookup j with
    | none => rw [e1, e2] at h; have h : a = 115 + 3 * j := h; have := (plR_ok.1 _ (lk_mem e1)).1; simp only at this; omega
    | some b => rw [e1, e2] at h; have h : a = b := h; exact plR_ok.2.1 _ (lk_mem e1) _ (lk_mem e2) h
theorem crA_0 (i : Nat) : crA i ≠ 0 := by
  unfold crA
  cases e1 : plR.lookup i with
  | none => show 115 + 3 * i ≠ 0; omega
  | some a => exact (plR_ok.1 _ (lk_mem e1)).2.1
theorem cjA_0 (x y a k : Nat) : cjA x y a k ≠ 0 := by
  unfold cjA
  split
  · cases e1 : plJ.lookup k with
    | none => show 116 + 3 * prr a k ≠ 0; omega
    | some o => exact (plR_ok.2.2.2.1 _ (lk_mem e1)).2.1
  · split
    · cases e1 : plJ.lookup k with
      | none => show 116 + 3 * prr a k ≠ 0; omega
      | some o => exact (plR_ok.2.2.2.1 _ (lk_mem e1)).2.2.1
    · omega
theorem cjA_cr (x y a k i : Nat) : cjA x y a k ≠ crA i := by
  have big : 116 + 3 * prr a k ≠ crA i := by
    unfold crA
    cases e1 : plR.lookup i with
    | none => show 116 + 3 * prr a k ≠ 115 + 3 * i; omega
    | some b => show 116 + 3 * prr a k ≠ b; have := (plR_ok.1 _ (lk_mem e1)).1; simp only at this; omega
  have small : ∀ o, plJ.lookup k = some o → 4 + o ≠ crA i ∧ 21 + o ≠ crA i := fun o eo => by
    have z := plR_ok.2.2.2.1 _ (lk_mem eo)
    unfold crA
    cases e1 : plR.lookup i with
    | none => show 4 + o ≠ 115 + 3 * i ∧ 21 + o ≠ 115 + 3 * i; have := z.1; simp only at this; omega
    | some b => have := plR_ok.2.2.1 _ (lk_mem e1) _ (lk_mem eo); exact ⟨fun w => this.1 w.symm, fun w => this.2 w.symm⟩
  unfold cjA
  split
  · cases e1 : plJ.lookup k with
    | none => exact big
    | some o => exact (small o e1).1
  · split
    · cases e1 : plJ.lookup k with
      | none => exact big
      | some o => exact (small o e1).2
    · exact big
/-- which of the jobs' arrays it is, or a number beyond -/
theorem cjA_of (x y a k : Nat) : (∃ o, (k, o) ∈ plJ ∧ a = x ∧ cjA x y a k = 4 + o) ∨ (∃ o, (k, o) ∈ plJ ∧ a ≠ x ∧ a = y ∧ cjA x y a k = 21 + o) ∨ cjA x y a k = 116 + 3 * prr a k := by
  unfold cjA
  split
  · rename_i e
    cases e1 : plJ.lookup k with
    | none => exact Or.inr (Or.inr rfl)
    | some o => exact Or.inl ⟨o, lk_mem e1, e, rfl⟩
  · rename_i e
    split
    · rename_i e2
      cases e1 : plJ.lookup k with
      | none => exact Or.inr (Or.inr rfl)
      | some o => exact Or.inr (Or.inl ⟨o, lk_mem e1, e, e2, rfl⟩)
    · exact Or.inr (Or.inr rfl)
theorem cjA_inj {x y a k b j : Nat} (h : cjA x y a k = cjA x y b j) : a = b ∧ k = j := by
  have lim : ∀ o : Nat × Nat, o ∈ plJ → 4 + o.2 < 115 ∧ 21 + o.2 < 115 := fun o ho => (plR_ok.2.2.2.1 o ho).1
  rcases cjA_of x y a k with ⟨o, m1, e1, h1⟩ | ⟨o, m1, e0, e1, h1⟩ | h1 <;> rcases cjA_of x y b j with ⟨w, m2, f1, h2⟩ | ⟨w, m2, f0, f1, h2⟩ | h2 <;> rw [h1, h2] at h
  · exact ⟨e1.trans f1.symm, (plR_ok.2.2.2.2 _ m1 _ m2).1 (by show o = w; omega)⟩
  · exact absurd h (plR_ok.2.2.2.2 _ m1 _ m2).2
  · have := (lim _ m1).1; simp only at this; omega
  · exact absurd h.symm (plR_ok.2.2.2.2 _ m2 _ m1).2
  · exact ⟨e1.trans f1.symm, (plR_ok.2.2.2.2 _ m1 _ m2).1 (by show o = w; omega)⟩
  · have := (lim _ m1).2; simp only at this; omega
  · have := (lim _ m2).1; simp only at this; omega
  · have := (lim _ m2).2; simp only at this; omega
  · exact prr_inj (by omega)
section SHA
variable {σ : Sg} {M : Nat}
theorem nmA_inj (hn : (gD σ).Nodup) (hl : (gD σ).length = 115) (hM : ∀ a ∈ gD σ, a < M) {c c' : Nat} (h : nmA σ M c = nmA σ M c') : c = c' := by
  have g : ∀ x, x < 115 → ∃ hx : x < (gD σ).length, (gD σ).getD x 0 = (gD σ)[x] := fun x hx => by
    have hx' : x < (gD σ).length := by omega
    exact ⟨hx', by rw [List.getD_eq_getElem?_getD, List.getElem?_eq_getElem hx']; rfl⟩
  unfold nmA at h
  by_cases w : c < 115 <;> by_cases w' : c' < 115
  · rw [if_pos w, if_pos w'] at h
    obtain ⟨h1, e1⟩ := g c w
    obtain ⟨h2, e2⟩ := g c' w'
    rw [e1, e2] at h
    exact (List.getElem_inj hn).mp h
  · rw [if_pos w, if_neg w'] at h
    obtain ⟨h1, e1⟩ := g c w
    have := hM _ (List.getElem_mem h1)
    omega
  · rw [if_neg w, if_pos w'] at h
    obtain ⟨h1, e1⟩ := g c' w'
    have := hM _ (List.getElem_mem h1)
    omega
  · rw [if_neg w, if_neg w'] at h; omega
theorem geo_of (hn : (gD σ).Nodup) (hl : (gD σ).length = 115) (hM : ∀ a ∈ gD σ, a < M) (x y : Nat) : Geo (fun i => nmA σ M (crA i)) (fun a k => nmA σ M (cjA x y a k)) (nmA σ M 0) := by
  have inj := fun {c c' : Nat} (h : nmA σ M c = nmA σ M c') => nmA_inj hn hl hM h
  refine ⟨fun i j => ⟨fun h => crA_inj (inj h), fun h => by rw [h]⟩, fun i h => crA_0 i (inj h), fun i h => crA_0 i (inj h).symm, fun a k i h => cjA_cr x y a k i (inj h), fun a k i h => cjA_cr x y a k i (inj h).symm, fun a k h => cjA_0 x y a k (inj h), fun a k h => cjA_0 x y a k (inj h).symm, fun a k b j => ⟨fun h => cjA_inj (inj h), fun h => by rw [h.1, h.2]⟩⟩
theorem big_of (l : List Nat) : ∃ M, ∀ a ∈ l, a < M := by
  induction l with
  | nil => exact ⟨0, fun a h => by cases h⟩
  | cons x l ih =>
    obtain ⟨M, h⟩ := ih
    refine ⟨M + x + 1, fun a ha => ?_⟩
    rcases List.mem_cons.mp ha with w | w
    · omega
    · have := h a w; omega
set_option maxRecDepth 100000 in
theorem sh_pl : (∀ q ∈ plR, (mr_84[0]?).bind (fun r => rP r q.1) = some q.2) ∧ (∀ o ∈ plJ, (mr_84[4]?).bind (fun r => rP r o.1) = some (4 + o.2) ∧ (mr_84[21]?).bind (fun r => rP r o.1) = some (21 + o.2)) := by decide +kernel
set_option maxRecDepth 100000 in
theorem sh_ar : (∀ q ∈ rArr, ∃ v ∈ plR, v.1 = q.1 ∧ (mr_84[v.2]?).map (fun r => (r.1, r.2.1)) = some (q.2.1, q.2.2)) ∧ (∀ q ∈ rObj, ∃ v ∈ plR, v.1 = q.1 ∧ (mr_84[v.2]?).map (fun r => r.1) = some q.2) ∧ (∀ q ∈ jArr, ∃ o ∈ plJ, o.1 = q.1 ∧ (mr_84[4 + o.2]?).map (fun r => (r.1, r.2.1)) = some (q.2.1, q.2.2) ∧ (mr_84[21 + o.2]?).map (fun r => (r.1, r.2.1)) = some (q.2.1, q.2.2)) := by decide +kernel
set_option maxRecDepth 100000 in
theorem sh_ra : (crA 15 = 4 ∧ crA 16 = 21) ∧ (mr_84[0]?).map (fun r => r.2.2.2.1) = some [(96, -1)] ∧ (∀ r ∈ mr_84.drop 1, r.2.2.2.1 = []) ∧ (∀ r ∈ mr_84, r.2.2.1 = 0) ∧ (∀ q ∈ rArr, 100 ≤ q.2.1) ∧ (∀ q ∈ jArr, 100 ≤ q.2.1) := by decide +kernel
theorem mk_shape {c9 s9 rm : Nat} (X : ST σ mr_84 c9 s9 0 rm 16) : ∃ (ra : Nat → Nat) (jx : Nat → Nat → Nat), Geo ra jx rm ∧ Shp σ.1 ra jx rm σ ∧ (∀ a k, gI σ a k = if a = rm ∧ k = 96 then -1 else 0) ∧ (∀ a k, gJ σ a k = 0) := by
  obtain ⟨R, Z, hG, h0, k0⟩ := X
  obtain ⟨M, hM⟩ := big_of (gD σ)
  have hl : (gD σ).length = 115 := R.1.trans ml_84.1
  have nm : ∀ c a, c < 115 → (gD σ)[c]? = some a → nmA σ M c = a := fun c a hc h => by
    unfold nmA; rw [if_pos hc, List.getD_eq_getElem?_getD, h]; rfl
  have at9 : ∀ c, c < 115 → (gD σ)[c]? = some (nmA σ M c) := fun c hc => by
    have hc' : c < (gD σ).length := by omega
    rw [nm c _ hc (List.getElem?_eq_getElem hc')]; exact List.getElem?_eq_getElem hc'
  have erm : nmA σ M 0 = rm := nm 0 rm (by decide) h0
  have cr : ∀ q ∈ plR, crA q.1 = q.2 := fun q hq => by unfold crA; rw [(plR_ok.1 q hq).2.2]
  have recA : ∀ c (v : Nat × Nat), c < 115 → (mr_84[c]?).map (fun r => (r.1, r.2.1)) = some v → 100 ≤ v.1 → aOK σ (nmA σ M c) v.1 v.2 := fun c v hc h h1 => by
    cases e : mr_84[c]? with
    | none => rw [e] at h; cases h
    | some r =>
      rw [e] at h
      have hv : (r.1, r.2.1) = v := Option.some.inj h
      have o := R.at (at9 c hc) e
      rw [← hv] at h1 ⊢
      exact ⟨get_mem (at9 c hc), o.1, o.2.1 h1⟩
  have kin : ∀ c v, c < 115 → (mr_84[c]?).map (fun r => r.1) = some v → nmA σ M c ∈ gD σ ∧ gk σ (nmA σ M c) = v := fun c v hc h => by
    cases e : mr_84[c]? with
    | none => rw [e] at h; cases h
    | some r =>
      rw [e] at h
      exact ⟨get_mem (at9 c hc), (R.at (at9 c hc) e).1.trans (Option.some.inj h)⟩
  have fld : ∀ c c' k, c < 115 → c' < 115 → (mr_84[c]?).bind (fun r => rP r k) = some c' → gP σ (nmA σ M c) k = some (nmA σ M c') := fun c c' k hc hc' h => by
    obtain ⟨b, hb, hv⟩ := R.gP2 (at9 c hc) h
    rw [hv, nm c' b hc' hb]
  refine ⟨fun i => nmA σ M (crA i), fun a k => nmA σ M (cjA (nmA σ M 4) (nmA σ M 21) a k), ?_, ⟨⟨k0.1, k0.2⟩, fun q hq => ?_, fun q hq => ?_, fun a ha q hq => ?_, rfl⟩, fun a k => ?_, fun a k => ?_⟩
  · have := geo_of R.2.1 hl hM (nmA σ M 4) (nmA σ M 21)
    rw [erm] at this; exact this
  · obtain ⟨v, hv, e1, e2⟩ := sh_ar.1 q hq
    have hc := (plR_ok.1 v hv).1
    have ec : crA q.1 = v.2 := by rw [← e1]; exact cr v hv
    refine ⟨?_, ?_⟩
    · show gP σ rm q.1 = some (nmA σ M (crA q.1))
      rw [ec, ← erm, ← e1]; exact fld 0 v.2 v.1 (by decide) hc (sh_pl.1 v hv)
    · show aOK σ (nmA σ M (crA q.1)) q.2.1 q.2.2
      rw [ec]; exact recA v.2 (q.2.1, q.2.2) hc e2 (sh_ra.2.2.2.2.1 q hq)
  · obtain ⟨v, hv, e1, e2⟩ := sh_ar.2.1 q hq
    have hc := (plR_ok.1 v hv).1
    have ec : crA q.1 = v.2 := by rw [← e1]; exact cr v hv
    refine ⟨?_, ?_⟩
    · show gP σ rm q.1 = some (nmA σ M (crA q.1))
      rw [ec, ← erm, ← e1]; exact fld 0 v.2 v.1 (by decide) hc (sh_pl.1 v hv)
    · show nmA σ M (crA q.1) ∈ gD σ ∧ gk σ (nmA σ M (crA q.1)) = q.2
      rw [ec]; exact kin v.2 q.2 hc e2
  · obtain ⟨o, ho, e1, e2, e3⟩ := sh_ar.2.2 q hq
    obtain ⟨⟨l1, l2⟩, _, _, lo⟩ := plR_ok.2.2.2.1 o ho
    have f := sh_pl.2 o ho
    have ha : a = nmA σ M 4 ∨ a = nmA σ M 21 := by
      have ha : a = nmA σ M (crA 15) ∨ a = nmA σ M (crA 16) := ha
      rw [sh_ra.1.1, sh_ra.1.2] at ha; exact ha
    have ne : nmA σ M 4 ≠ nmA σ M 21 := fun w => absurd (nmA_inj R.2.1 hl hM w) (by decide)
    rcases ha with ha | ha
    · have ec : cjA (nmA σ M 4) (nmA σ M 21) a q.1 = 4 + o.2 := by unfold cjA; rw [if_pos ha, ← e1, lo]
      refine ⟨?_, ?_⟩
      · show gP σ a q.1 = some (nmA σ M (cjA (nmA σ M 4) (nmA σ M 21) a q.1))
        rw [ec, ha, ← e1]; exact fld 4 _ o.1 (by decide) l1 f.1
      · show aOK σ (nmA σ M (cjA (nmA σ M 4) (nmA σ M 21) a q.1)) q.2.1 q.2.2
        rw [ec]; exact recA _ (q.2.1, q.2.2) l1 e2 (sh_ra.2.2.2.2.2 q hq)
    · have ec : cjA (nmA σ M 4) (nmA σ M 21) a q.1 = 21 + o.2 := by unfold cjA; rw [if_neg (by rw [ha]; exact fun w => ne w.symm), if_pos ha, ← e1, lo]
      refine ⟨?_, ?_⟩
      · show gP σ a q.1 = some (nmA σ M (cjA (nmA σ M 4) (nmA σ M 21) a q.1))
        rw [ec, ha, ← e1]; exact fld 21 _ o.1 (by decide) l2 f.2
      · show aOK σ (nmA σ M (cjA (nmA σ M 4) (nmA σ M 21) a q.1)) q.2.1 q.2.2
        rw [ec]; exact recA _ (q.2.1, q.2.2) l2 e3 (sh_ra.2.2.2.2.2 q hq)
  · by_cases ha : a ∈ gD σ
    · obtain ⟨c, hc⟩ := List.getElem?_of_mem ha
      have lc : c < mr_84.length := by rw [← R.1]; exact get_lt hc
      obtain ⟨r, hr⟩ : ∃ r, mr_84[c]? = some r := ⟨_, List.getElem?_eq_getElem lc⟩
      rw [(R.at hc hr).2.2.1 k]
      have z := sh_ra.2.2.2.1 r (List.mem_of_getElem? hr)
      by_cases c0 : c = 0
      · subst c0
        have e : a = rm := Option.some.inj (hc.symm.trans h0)
        have hI := sh_ra.2.1
        rw [hr] at hI
        have hI : r.2.2.2.1 = [(96, -1)] := Option.some.inj hI
        unfold rI
        rw [hI, z]
        by_cases k9 : k = 96
        · subst k9; rw [if_pos ⟨e, rfl⟩]; rfl
        · rw [if_neg (fun w => k9 w.2), List.lookup_cons, beq_false_of_ne k9]; rfl
      · have e : a ≠ rm := fun w => c0 (nd_inj R.2.1 hc (w ▸ h0))
        have hI := sh_ra.2.2.1 r (by
          have : (mr_84.drop 1)[c - 1]? = some r := by rw [List.getElem?_drop, show 1 + (c - 1) = c by omega]; exact hr
          exact List.mem_of_getElem? this)
        unfold rI
        rw [hI, z, if_neg (fun w => e w.1)]; rfl
    · have e : a ≠ rm := fun w => ha (w ▸ k0.1)
      rw [(Z a ha k).1, if_neg (fun w => e w.1)]
  · by_cases ha : a ∈ gD σ
    · obtain ⟨c, hc⟩ := List.getElem?_of_mem ha
      have lc : c < mr_84.length := by rw [← R.1]; exact get_lt hc
      obtain ⟨r, hr⟩ : ∃ r, mr_84[c]? = some r := ⟨_, List.getElem?_eq_getElem lc⟩
      exact (R.at hc hr).2.2.2.1 k
    · exact (Z a ha k).2
end SHA

section HPW
variable {σ σ' : Sg} {pl th : Nat} {LL : Nat → List Nat} {own : Nat → Nat}
/-- the cell at a place: none, or one of the chain's -/
theorem s_X1_at {Q : Sg → Option Nat → Prop} {X : Sg → String → Prop} {v1 : Int} (h : HP σ pl LL own) (ht : kO σ th 1) (hv : rng v1) (h0 : Q σ none) (hQ : ∀ c ∈ LL th, Q σ (some c)) : wp_X1_at th v1 σ Q X := by
  obtain ⟨b1, b2, b3⟩ := h.1 th ht
  have a4 := h.2.2.1
  have loop : ∀ (L : List Nat) (v : Option Nat) (k : Int), lk (fun d => gP σ d 1) v L → (∀ d ∈ L, d ∈ LL th) → 0 ≤ k → wl_X1_at_21 th Q X (L.length + 1) σ v1 v k := by
    intro L
    induction L with
    | nil =>
      intro v k hl _ hk
      have e : v = none := hl
      subst e
      show w_X1_at_21 th _ Q X σ v1 none k
      unfold w_X1_at_21
      split
      · exact h0
      · unfold w_X1_at_26
        rw [if_pos rfl]
        exact h0
    | cons c L ih =>
      intro v k hl hs hk
      have e : v = some c := hl.1
      subst e
      show w_X1_at_21 th _ Q X σ v1 (some c) k
      unfold w_X1_at_21
      split
      · exact hQ c (hs c List.mem_cons_self)
      · rename_i hlt
        unfold w_X1_at_26
        rw [if_neg (by simp)]
        unfold w_X1_at_30
        refine ⟨c, rfl, fun _ => ⟨?_, ?_⟩⟩
        · unfold rng at hv ⊢; omega
        · exact ih (gP σ c 1) (k + 1) hl.2 (fun d hd => hs d (List.mem_cons_of_mem _ hd)) (by omega)
  unfold wp_X1_at w_X1_at_0
  split
  · exact h0
  · unfold w_X1_at_4
    split
    · unfold w_X1_at_14
      exact ⟨_, loop (LL th) (gP σ th 0) 0 b1 (fun d hd => hd) (by omega)⟩
    · exact h0
/-- how many of a KEY's records there are -/
theorem s_X3_count {Q : Sg → Int → Prop} {X : Sg → String → Prop} {v1 : Int64} (h : HP σ pl LL own) (ht : kO σ th 1) (hs : (LL th).length < 1000000) (hQ : ∀ r : Int, 0 ≤ r → r ≤ (LL th).length → Q σ r) : wp_X3_count (some th) v1 σ Q X := by
  obtain ⟨b1, b2, b3⟩ := h.1 th ht
  have loop : ∀ (L : List Nat) (v : Option Nat) (r : Int), lk (fun d => gP σ d 1) v L → 0 ≤ r → r + (L.length : Int) ≤ ((LL th).length : Int) → wl_X3_count_8 Q X (L.length + 1) σ v1 r v := by
    intro L
    induction L with
    | nil =>
      intro v r hl h1 h2
      have e : v = none := hl
      subst e
      show w_X3_count_8 _ Q X σ v1 r none
      unfold w_X3_count_8
      rw [if_pos rfl]
      exact hQ r h1 (by simpa using h2)
    | cons c L ih =>
      intro v r hl h1 h2
      have e : v = some c := hl.1
      subst e
      have h3 : r + 1 + (L.length : Int) ≤ ((LL th).length : Int) := by
        have : ((c :: L).length : Int) = (L.length : Int) + 1 := by simp
        omega
      have hb : ((LL th).length : Int) < 1000000 := by omega
      have hL : (0 : Int) ≤ (L.length : Int) := by omega
      show w_X3_count_8 _ Q X σ v1 r (some c)
      unfold w_X3_count_8
      rw [if_neg (by simp)]
      unfold w_X3_count_13
      refine ⟨c, rfl, fun _ => ?_⟩
      split
      · unfold w_X3_count_28 w_X3_count_29
        refine ⟨by unfold rng; omega, c, rfl, fun _ => ?_⟩
        exact ih (gP σ c 1) (r + 0) hl.2 (by omega) (by omega)
      · unfold w_X3_count_24 w_X3_count_29
        refine ⟨by unfold rng; omega, c, rfl, fun _ => ?_⟩
        exact ih (gP σ c 1) (r + 1) hl.2 (by omega) (by omega)
  unfold wp_X3_count w_X3_count_0
  exact ⟨th, rfl, fun _ => ⟨_, loop (LL th) (gP σ th 0) 0 b1 (by omega) (by omega)⟩⟩
/-- how many records a task holds -/
theorem s_X10_held {Q : Sg → Int → Prop} {X : Sg → String → Prop} {a b : Nat} (h : HP σ pl LL own) (ha : kO σ a 1) (hb : kO σ b 1) (ea : gP σ th 2 = some a) (eb : gP σ th 3 = some b) (hs : (LL a).length + (LL b).length < 2147483648) (hQ : Q σ ((LL a).length + (LL b).length : Int)) : wp_X10_held th σ Q X := by
  have c1 := (h.1 a ha).2.2
  have c2 := (h.1 b hb).2.2
  unfold wp_X10_held w_X10_held_0
  refine ⟨a, ea, fun _ => ⟨b, eb, fun _ => ⟨?_, ?_⟩⟩⟩
  · rw [c1, c2]; unfold rng; omega
  · rw [c1, c2]; exact hQ
end HPW

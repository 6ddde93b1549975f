/-! going along a chain -/
section ITR
variable {σ : Sg} {gq ci gr nc N N' nu : Nat → Nat} {ot : Nat → Nat → Int} {LL LL' : Nat → List Nat} {pl x b o i G : Nat} {A B : List Nat} {v r : Option Nat}
theorem it_cons (hv : v = B.head?) (e : v = some b) : ∃ B', B = b :: B' := by
  rw [e] at hv
  cases B with
  | nil => cases hv
  | cons d T => cases hv; exact ⟨T, rfl⟩
theorem it_step (h : IV σ pl gq ci gr nc ot LL N nu) (kx : kO σ x 1) (h1 : LL x = A ++ B ∧ v = B.head?) (e : v = some b) : ∃ A' B', LL x = A' ++ B' ∧ gP σ b 1 = B'.head? ∧ B'.length + 1 = B.length ∧ A'.getLast? = some b := by
  obtain ⟨B', e'⟩ := it_cons h1.2 e
  subst e'
  exact ⟨A ++ [b], B', by rw [h1.1]; simp, h.next kx h1.1, by simp, by simp⟩
theorem it_mem (h1 : LL x = A ++ B ∧ v = B.head?) (e : v = some b) : b ∈ LL x := by
  obtain ⟨B', e'⟩ := it_cons h1.2 e
  rw [h1.1, e']; exact List.mem_append_right _ List.mem_cons_self
theorem cut_r {N0 : Nat} {B' : List Nat} {D : Nat → Prop} (e : B = b :: B') (p : (B = [] ∧ r = none ∧ LL' = LL ∧ N' = N) ∨ (∃ c T, B = c :: T ∧ r = some c ∧ LL' = up1 LL x (A ++ T) ∧ D c ∧ (∀ y, c ∉ LL' y) ∧ N' G + 1 = N G ∧ N' 1 = N 1 + 1 ∧ N' 0 = N 0 ∧ N' 2 = N 2)) : r = some b ∧ LL' = up1 LL x (A ++ B') ∧ (∀ y, b ∉ LL' y) ∧ N' G + 1 = N G ∧ N' 1 = N 1 + 1 := by
  subst e
  rcases p with q | ⟨c, T, q1, q2, q3, _, q5, q6, q7, _⟩
  · cases q.1
  · cases q1; exact ⟨q2, q3, q5, q6, q7⟩
theorem take_r {c : Nat} {T : List Nat} {D : Nat → Prop} (e : LL x = c :: T) (p : (LL x = [] ∧ r = none ∧ LL' = LL ∧ N' = N) ∨ (∃ c T, LL x = c :: T ∧ r = some c ∧ LL' = up1 LL x T ∧ D c ∧ (∀ y, c ∉ LL' y) ∧ N' G + 1 = N G ∧ N' 1 = N 1 + 1 ∧ N' 0 = N 0 ∧ N' 2 = N 2)) : r = some c ∧ LL' = up1 LL x T ∧ (∀ y, c ∉ LL' y) ∧ N' G + 1 = N G ∧ N' 1 = N 1 + 1 := by
  rcases p with q | ⟨c', T', q1, q2, q3, _, q5, q6, q7, _⟩
  · rw [q.1] at e; cases e
  · rw [q1] at e; cases e; exact ⟨q2, q3, q5, q6, q7⟩
theorem hd_cons (h : IV σ pl gq ci gr nc ot LL N nu) (kx : kO σ x 1) (e : gP σ x 0 = some b) : ∃ T, LL x = b :: T := by
  rw [h.first kx] at e
  cases q : LL x with
  | nil => rw [q] at e; cases e
  | cons d T => rw [q] at e; cases e; exact ⟨T, rfl⟩
theorem IV.vc4 (h : IV σ pl gq ci gr nc ot LL N nu) (ho : kO σ o 5) (hq : gq o = 16 * nc 0 + i) (hi : i < nc 1) (hk : ot i 6 = 4 ∨ ot i 6 = 5) : gI σ o 4 ≤ 4 := by
  rw [h.op ho hq hi 4 (by decide)]; exact (h.opok hi).2.2.2.2.2.2.2.1 hk
theorem up1_at {α : Type} {f : Nat → α} {y : Nat} {w : α} : up1 f y w y = w := up1_s _ _ _
end ITR

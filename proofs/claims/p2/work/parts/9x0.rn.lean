theorem IV.gl {σ : Sg} {gq ci gr nc N nu : Nat → Nat} {ot : Nat → Nat → Int} {LL : Nat → List Nat} {pl x c : Nat} (h : IV σ pl gq ci gr nc ot LL N nu) (hx : kO σ x 1) (hq : gq x = 13) (hc : c ∈ LL x) : 0 ≤ gI σ c 3 ∧ gI σ c 3 < (nu 16 : Int) := h.ss.2.2.2.2.2.2.1 x hx hq c hc
/-- a group of one chain -/
theorem IV.one {σ : Sg} {gq ci gr nc N nu : Nat → Nat} {ot : Nat → Nat → Int} {LL : Nat → List Nat} {pl x G : Nat} (h : IV σ pl gq ci gr nc ot LL N nu) (hx : kO σ x 1) (hq : gq x = G) (hG : G ∈ SNG) : N G = (LL x).length := by
  subst hq
  have g11 : ∀ g ∈ SNG, 11 ≤ g := by decide
  rw [h.ss.2.2.1 _ (Or.inr (g11 _ hG))]
  refine ns_one h.nd hx.1 (fun y hy hq hne => ?_)
  cases e : LL y with
  | nil => rfl
  | cons c T =>
    obtain ⟨own, hp⟩ := h.hp
    rcases hp.2.2.2.2.1 y (by rw [e]; simp) with w | w
    · have := h.ss.2.1; rw [← w, hq] at this; have := g11 _ hG; omega
    · exact absurd (h.unq w hx rfl (by unfold un3; rw [hq]; simp [hG]) hq) hne
theorem tb_wm {x : Int64} {l : Int} {M : Nat} (hx : 0 ≤ x.toInt ∧ x.toInt ≤ 1000000) (hl : 0 ≤ l ∧ l ≤ 1000) (hM : 2199023255552 ≤ M) : tb M ((x - Int64.ofInt l) - 1) := by
  have e1 : (x - Int64.ofInt l).toInt = x.toInt - l := by rw [sb_int (by omega) (by rw [of_int (by omega)]; omega), of_int (by omega)]
  have e2 : ((x - Int64.ofInt l) - 1).toInt = x.toInt - l - 1 := by rw [sb_int (by omega) (by decide), e1]; rfl
  unfold tb; rw [e2]; omega

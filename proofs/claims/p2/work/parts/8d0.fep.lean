/-- what feed of the reference leaves -/
def FeP (rm : Nat) (σ σ' : Sg) (v3 r : Int) : Prop := (¬ (1 ≤ v3 ∧ v3 ≤ 8) ∧ gI σ' rm 0 = 1 ∧ gI σ' rm 3 = gI σ rm 3) ∨ ((1 ≤ v3 ∧ v3 ≤ 8) ∧ 1500 < gI σ rm 3 + v3 ∧ gI σ' rm 0 = 2 ∧ gI σ' rm 3 = gI σ rm 3) ∨ ((1 ≤ v3 ∧ v3 ≤ 8) ∧ gI σ rm 3 + v3 ≤ 1500 ∧ gI σ' rm 0 = 0 ∧ r = gI σ rm 3 + v3 ∧ gI σ' rm 3 = gI σ rm 3 + v3)

/-! a new reference keeps its invariant -/
def cw (i : Nat) : Nat := ((List.range i).filter (fun j : Nat => decide (1 ≤ j) && decide (chI 967 (j : Int) = 32))).length
set_option maxRecDepth 100000 in
theorem cw_ok : bln 967 = 123 ∧ ∀ i : Nat, i < 123 → 1 ≤ i → (chI 967 (i : Int) ≠ 32 → cw i < 23) ∧ cw (i + 1) = (if chI 967 (i : Int) = 32 then cw i + 1 else cw i) ∧ cw i < 1000 := by decide +kernel
section IPU
variable {ra : Nat → Nat} {jx : Nat → Nat → Nat} {rm : Nat} {σ : Sg} {Q : Sg → Unit → Prop} {X : Sg → String → Prop}
theorem rg_zero (k : Nat) : ((rgT k).1 ≤ 0 ∧ 0 ≤ (rgT k).2) ∧ ((rgS k).1 ≤ 0 ∧ 0 ≤ (rgS k).2) ∧ ((rgJ k).1 ≤ 0 ∧ 0 ≤ (rgJ k).2) ∧ 0 ≤ rlT k := by
  refine ⟨?_, ?_, ?_, ?_⟩
  · unfold rgT; split <;> exact ⟨by decide, by decide⟩
  · unfold rgS; split <;> exact ⟨by decide, by decide⟩
  · unfold rgJ; split <;> exact ⟨by decide, by decide⟩
  · unfold rlT; split <;> decide
theorem rg_new (g : Geo ra jx rm) (z1 : ∀ a k, gI σ a k = if a = rm ∧ k = 96 then -1 else 0) (z2 : ∀ a k, gJ σ a k = 0) : Rg ra jx rm σ := by
  have i0 : (0 : Int64).toInt = 0 := by decide
  refine ⟨fun k i => ?_, fun k => ?_, fun a k i => ?_, fun k i => ?_⟩
  · rw [z1, if_neg (fun w => g.2.1 k w.1)]; exact (rg_zero k).1
  · rw [z1]
    by_cases w : k = 96
    · subst w; rw [if_pos ⟨rfl, rfl⟩]; exact ⟨by decide, by decide⟩
    · rw [if_neg (fun q => w q.2)]; exact (rg_zero k).2.1
  · rw [z1, if_neg (fun w => g.2.2.2.2.2.1 a k w.1)]; exact (rg_zero k).2.2.1
  · rw [z2, i0]; exact (rg_zero k).2.2.2
theorem st967 : strOK 967 := st_967.1
theorem init_pure (g : Geo ra jx rm) (z1 : ∀ a k, gI σ a k = if a = rm ∧ k = 96 then -1 else 0) (z2 : ∀ a k, gJ σ a k = 0) (hQ : ∀ σ', Rg ra jx rm σ' → RI ra jx rm σ' → gI σ' rm 3 = 0 → Q σ' ()) (hc : ∀ τ, Rg ra jx rm τ → wp_X16_clear ra jx rm τ Q X) : w_X16_init_741 ra jx rm Q X σ := by
  unfold w_X16_init_741
  have main : ∀ (m : Nat) (τ : Sg) (i : Nat), Rg ra jx rm τ → 1 ≤ i → i + m = 123 → wl_X16_init_745 ra jx rm Q X (m + 1) τ (cw i : Int) (i : Int) := by
    intro m
    induction m with
    | zero =>
      intro τ i r h1 h2
      show w_X16_init_745 ra jx rm _ Q X τ (cw i : Int) (i : Int)
      unfold w_X16_init_745
      refine jl_len st967 ?_
      rw [cw_ok.1, if_pos (by omega)]
      unfold w_X16_init_799
      exact hc τ r
    | succ m ih =>
      intro τ i r h1 h2
      obtain ⟨w1, w2, w3⟩ := cw_ok.2 i (by omega) h1
      show w_X16_init_745 ra jx rm (wl_X16_init_745 ra jx rm Q X (m + 1)) Q X τ (cw i : Int) (i : Int)
      unfold w_X16_init_745
      refine jl_len st967 ?_
      rw [cw_ok.1, if_neg (by omega)]
      unfold w_X16_init_755
      refine jl_char (by rw [cw_ok.1]; omega) ?_
      by_cases e : chI 967 (i : Int) = 32
      · rw [if_neg (by omega)]
        unfold w_X16_init_769 w_X16_init_793
        rw [if_pos e] at w2
        refine ⟨by unfold rng; omega, by unfold rng; omega, ?_⟩
        have := ih τ (i + 1) r (by omega) (by omega)
        rw [w2] at this
        rw [show (cw i : Int) + 1 = ((cw i + 1 : Nat) : Int) by omega, show (i : Int) + 1 = ((i + 1 : Nat) : Int) by omega]
        exact this
      · rw [if_pos e]
        rw [if_neg e] at w2
        have w4 := w1 e
        unfold w_X16_init_775
        refine ⟨⟨by omega, by omega⟩, ⟨by omega, by omega⟩, fun σ11 e11 => ?_⟩
        unfold w_X16_init_793
        refine ⟨by unfold rng; omega, ?_⟩
        have r11 : Rg ra jx rm σ11 := by
          rw [e11]
          refine Rg.aJ g r ?_
          have w5 := Int64.toInt_lt ((((gJ τ (ra 14) (cw i : Int).toNat) <<< ((i32 8).toInt64 &&& 63)) ||| (Int64.ofInt (chI 967 (i : Int)))))
          show _ ≤ (9223372036854775807 : Int)
          omega
        have := ih σ11 (i + 1) r11 (by omega) (by omega)
        rw [w2] at this
        rw [show (i : Int) + 1 = ((i + 1 : Nat) : Int) by omega]
        exact this
  exact ⟨123, main 122 σ 1 (rg_new g z1 z2) (by omega) (by omega)⟩
end IPU

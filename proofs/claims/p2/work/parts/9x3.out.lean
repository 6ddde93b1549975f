/-! rows that came out -/
def S12 (N : Nat → Nat) : Nat := N 60 + N 61 + N 62 + N 63 + N 64 + N 65 + N 66 + N 67 + N 68 + N 69 + N 70 + N 71
section S12S
variable {σ σ' : Sg} {gq ci gr nc N N' nu : Nat → Nat} {ot : Nat → Nat → Int} {LL LL' : Nat → List Nat} {pl G G0 G1 l : Nat}
theorem S12.eq (h : ∀ g, 60 ≤ g → g ≤ 71 → N' g = N g) : S12 N' = S12 N := by
  unfold S12
  rw [h 60 (by decide) (by decide), h 61 (by decide) (by decide), h 62 (by decide) (by decide), h 63 (by decide) (by decide), h 64 (by decide) (by decide), h 65 (by decide) (by decide), h 66 (by decide) (by decide), h 67 (by decide) (by decide), h 68 (by decide) (by decide), h 69 (by decide) (by decide), h 70 (by decide) (by decide), h 71 (by decide) (by decide)]
theorem S12.up (hG : 60 ≤ G ∧ G ≤ 71) (h : ∀ g, 60 ≤ g → g ≤ 71 → g ≠ G → N' g = N g) : S12 N' + N G = S12 N + N' G := by
  have e : ∀ g, 60 ≤ g → g ≤ 71 → N' g = if g = G then N' G else N g := fun g a b => by
    by_cases w : g = G
    · rw [if_pos w, w]
    · rw [if_neg w]; exact h g a b w
  unfold S12
  rw [e 60 (by decide) (by decide), e 61 (by decide) (by decide), e 62 (by decide) (by decide), e 63 (by decide) (by decide), e 64 (by decide) (by decide), e 65 (by decide) (by decide), e 66 (by decide) (by decide), e 67 (by decide) (by decide), e 68 (by decide) (by decide), e 69 (by decide) (by decide), e 70 (by decide) (by decide), e 71 (by decide) (by decide)]
  rcases (show G = 60 ∨ G = 61 ∨ G = 62 ∨ G = 63 ∨ G = 64 ∨ G = 65 ∨ G = 66 ∨ G = 67 ∨ G = 68 ∨ G = 69 ∨ G = 70 ∨ G = 71 by omega) with w | w | w | w | w | w | w | w | w | w | w | w <;> subst w <;> simp only [Nat.reduceEqDiff, if_true, if_false, reduceIte] <;> omega
theorem IV.s12 (h : IV σ pl gq ci gr nc ot LL N nu) : S12 N ≤ 2000 := h.2.2.1.2.2.2.1
theorem SC.any (h : SC σ gq N) (hN : ∀ g, 11 ≤ g → g ∉ [14, 44, 74, 50] → ¬ (60 ≤ g ∧ g ≤ 71) → N' g = N g) (e5 : N' 5 = N 5) (hs : S12 N' ≤ 2000) : SC σ gq N' := by
  obtain ⟨a1, a2, a3, a4, a5⟩ := h
  have u : ∀ g, 11 ≤ g → g ≠ 14 → g ≠ 44 → g ≠ 74 → g ≠ 50 → ¬ (60 ≤ g ∧ g ≤ 71) → N' g = N g := fun g q b c d e f => hN g q (by simp only [List.mem_cons, List.mem_nil_iff, or_false, not_or]; exact ⟨b, c, d, e⟩) f
  refine ⟨fun w hw => ⟨(a1 w hw).1, ?_⟩, fun r hr => ?_, fun d hd p s hp hs => ?_, hs, fun p hp => ?_⟩
  · have k := a1 w hw
    rw [u _ (by omega) (by omega) (by omega) (by omega) (by omega) (by omega), u _ (by omega) (by omega) (by omega) (by omega) (by omega) (by omega)]; exact k.2
  · rw [u 13 (by decide) (by decide) (by decide) (by decide) (by decide) (by decide)]; exact a2 r hr
  · have k := a3 d hd p s hp hs
    have k1 := k.1
    rw [u _ (by omega) (by omega) (by omega) (by omega) (by omega) (by omega), u (10 * gq p + 2) (by omega) (by omega) (by omega) (by omega) (by omega) (by omega), u (10 * gq s + 1) (by omega) (by omega) (by omega) (by omega) (by omega) (by omega), u (10 * gq s + 2) (by omega) (by omega) (by omega) (by omega) (by omega) (by omega), e5]; exact k
  · have k := a5 p hp
    have v : ∀ g, 80 ≤ g → N' g = N g := fun g q => u g (by omega) (by omega) (by omega) (by omega) (by omega) (by omega)
    rw [v 80 (by decide), v 81 (by decide), v 82 (by decide), v 83 (by decide), v 84 (by decide), v 85 (by decide), v 86 (by decide), v 87 (by decide), v 88 (by decide), v 89 (by decide), v 90 (by decide), v 91 (by decide), v 92 (by decide), v 93 (by decide), v 94 (by decide), v 95 (by decide)]; exact k
/-- sorted rows become visible -/
theorem sc_mv (h : IV σ pl gq ci gr nc ot LL N nu) (hG : 60 ≤ G ∧ G ≤ 71) (hN : NF [14, G] N N') (n2 : N' 14 + l = N 14) (n3 : N' G = N G + l) (hs : S12 N + N 14 ≤ 2000) : SC σ gq N' := by
  have s := S12.up (N' := N') hG (fun g a b c => hN g (by simp only [List.mem_cons, List.mem_nil_iff, or_false, not_or]; exact ⟨by omega, c⟩))
  exact h.2.2.1.any (fun g a b c => hN g (by simp only [List.mem_cons, List.mem_nil_iff, or_false, not_or] at b ⊢; omega)) (hN 5 (by simp only [List.mem_cons, List.mem_nil_iff, or_false, not_or]; omega)) (by omega)
/-- rows go from one to the other -/
theorem sc_mv2 (h : IV σ pl gq ci gr nc ot LL N nu) (hG : 60 ≤ G0 ∧ G0 ≤ 71) (hG1 : 60 ≤ G1 ∧ G1 ≤ 71) (hne : G0 ≠ G1) (hN : NF [G0, G1] N N') (n2 : N' G0 + l = N G0) (n3 : N' G1 = N G1 + l) : SC σ gq N' := by
  have s := S12.up (N' := up1 N G0 (N' G0)) (N := N) hG (fun g a b c => up1_n _ _ c)
  have s2 := S12.up (N' := N') (N := up1 N G0 (N' G0)) hG1 (fun g a b c => by
    by_cases w : g = G0
    · rw [w, up1_s]
    · rw [up1_n _ _ w]; exact hN g (by simp only [List.mem_cons, List.mem_nil_iff, or_false, not_or]; exact ⟨w, c⟩))
  rw [up1_s] at s; rw [up1_n _ _ (fun w => hne w.symm)] at s2
  have := h.s12
  exact h.2.2.1.any (fun g a b c => hN g (by simp only [List.mem_cons, List.mem_nil_iff, or_false, not_or] at b ⊢; omega)) (hN 5 (by simp only [List.mem_cons, List.mem_nil_iff, or_false, not_or]; omega)) (by omega)
end S12S

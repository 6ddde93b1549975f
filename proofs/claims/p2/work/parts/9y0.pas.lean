/-! one pass: its rows -/
def S16 (N : Nat → Nat) : Nat := N 80 + N 81 + N 82 + N 83 + N 84 + N 85 + N 86 + N 87 + N 88 + N 89 + N 90 + N 91 + N 92 + N 93 + N 94 + N 95
section S16S
variable {σ σ' : Sg} {gq ci gr nc N N' nu : Nat → Nat} {ot : Nat → Nat → Int} {LL LL' : Nat → List Nat} {pl G p l b : Nat} {v n : Int}
theorem S16.eq (h : ∀ g, 80 ≤ g → g ≤ 95 → N' g = N g) : S16 N' = S16 N := by
  unfold S16
  rw [h 80 (by decide) (by decide), h 81 (by decide) (by decide), h 82 (by decide) (by decide), h 83 (by decide) (by decide), h 84 (by decide) (by decide), h 85 (by decide) (by decide), h 86 (by decide) (by decide), h 87 (by decide) (by decide), h 88 (by decide) (by decide), h 89 (by decide) (by decide), h 90 (by decide) (by decide), h 91 (by decide) (by decide), h 92 (by decide) (by decide), h 93 (by decide) (by decide), h 94 (by decide) (by decide), h 95 (by decide) (by decide)]
theorem S16.up (hG : 80 ≤ G ∧ G ≤ 95) (h : ∀ g, 80 ≤ g → g ≤ 95 → g ≠ G → N' g = N g) : S16 N' + N G = S16 N + N' G := by
  have e : ∀ g, 80 ≤ g → g ≤ 95 → N' g = if g = G then N' G else N g := fun g a b => by
    by_cases w : g = G
    · rw [if_pos w, w]
    · rw [if_neg w]; exact h g a b w
  unfold S16
  rw [e 80 (by decide) (by decide), e 81 (by decide) (by decide), e 82 (by decide) (by decide), e 83 (by decide) (by decide), e 84 (by decide) (by decide), e 85 (by decide) (by decide), e 86 (by decide) (by decide), e 87 (by decide) (by decide), e 88 (by decide) (by decide), e 89 (by decide) (by decide), e 90 (by decide) (by decide), e 91 (by decide) (by decide), e 92 (by decide) (by decide), e 93 (by decide) (by decide), e 94 (by decide) (by decide), e 95 (by decide) (by decide)]
  rcases (show G = 80 ∨ G = 81 ∨ G = 82 ∨ G = 83 ∨ G = 84 ∨ G = 85 ∨ G = 86 ∨ G = 87 ∨ G = 88 ∨ G = 89 ∨ G = 90 ∨ G = 91 ∨ G = 92 ∨ G = 93 ∨ G = 94 ∨ G = 95 by omega) with w | w | w | w | w | w | w | w | w | w | w | w | w | w | w | w <;> subst w <;> simp only [Nat.reduceEqDiff, if_true, if_false, reduceIte] <;> omega
theorem S16.le (hG : 80 ≤ G ∧ G ≤ 95) : N G ≤ S16 N := by
  unfold S16
  rcases (show G = 80 ∨ G = 81 ∨ G = 82 ∨ G = 83 ∨ G = 84 ∨ G = 85 ∨ G = 86 ∨ G = 87 ∨ G = 88 ∨ G = 89 ∨ G = 90 ∨ G = 91 ∨ G = 92 ∨ G = 93 ∨ G = 94 ∨ G = 95 by omega) with w | w | w | w | w | w | w | w | w | w | w | w | w | w | w | w <;> subst w <;> omega
theorem IV.s16 (h : IV σ pl gq ci gr nc ot LL N nu) (hp : kO σ p 7) : ((S16 N : Nat) : Int) ≤ gI σ p 6 := h.2.2.1.2.2.2.2 p hp
theorem IV.tot7 (h : IV σ pl gq ci gr nc ot LL N nu) (hp : kO σ p 7) (hv : ((S16 N : Nat) : Int) ≤ v ∧ v ≤ 4000) : IV (pI σ p 6 v) pl gq ci gr nc ot LL N nu := by
  obtain ⟨i1, i2, i3, i4, i5, i6, i7, own, i8⟩ := id h
  have s : Sk [454] gr σ (pI σ p 6 v) := Sk.pI (by rw [fcdO hp (by decide)]; decide)
  refine ⟨i1.pI (fun _ => by rw [labO hp (by decide)]; exact (show (0 : Int) ≤ v ∧ v ≤ 4000 by omega)), i2.sk s (by decide), ?_, i4.sk i8 s (by decide), i5.sk i1 s (by decide), i6.sk s rfl rfl (by decide), ⟨RG.pI i7.1 (by unfold rng; omega), i7.2.sk s (by decide)⟩, own, i8.sk s (by decide)⟩
  obtain ⟨a1, a2, a3, a4, a5⟩ := i3
  refine ⟨fun w hw => ⟨(a1 w hw).1, ?_⟩, fun r hr => ?_, fun d hd q s hq hs => ?_, a4, fun q hq => ?_⟩
  · rw [gI_pI, up2_n _ _ (fun z => absurd z.1 (hw.ne hp (by decide)))]; exact (a1 w hw).2
  · rw [gI_pI, up2_n _ _ (fun z => absurd z.1 (hr.ne hp (by decide)))]; exact a2 r hr
  · rw [gI_pI, up2_n _ _ (fun z => absurd z.1 (hd.ne hp (by decide))), up2_n _ _ (fun z => absurd z.1 (hd.ne hp (by decide)))]; exact a3 d hd q s hq hs
  · rw [h.un (show kO σ q 7 from hq) hp rfl, gI_pI, up2_s]; exact hv.1
theorem sc_pass (h : IV σ pl gq ci gr nc ot LL N nu) (hG : 80 ≤ G ∧ G ≤ 95) (hN : NF [44, G] N N') (n2 : N' 44 + l = N 44) (n3 : N' G = N G + l) (hp : kO σ p 7) (hs : ((S16 N : Nat) : Int) + (N 44 : Nat) ≤ gI σ p 6) : SC σ gq N' := by
  have s := S16.up (N' := N') hG (fun g a b c => hN g (by simp only [List.mem_cons, List.mem_nil_iff, or_false, not_or]; exact ⟨by omega, c⟩))
  have u : ∀ g, g ≠ 44 → g < 80 → N' g = N g := fun g a b => hN g (by simp only [List.mem_cons, List.mem_nil_iff, or_false, not_or]; exact ⟨a, by omega⟩)
  obtain ⟨a1, a2, a3, a4, a5⟩ := h.2.2.1
  refine ⟨fun w hw => ⟨(a1 w hw).1, ?_⟩, fun r hr => ?_, fun d hd q s hq hs => ?_, ?_, fun q hq => ?_⟩
  · have k := a1 w hw
    rw [u _ (by omega) (by omega), u _ (by omega) (by omega)]; exact k.2
  · rw [u 13 (by decide) (by decide)]; exact a2 r hr
  · have k := a3 d hd q s hq hs
    have k1 := k.1
    rw [u (10 * gq q + 1) (by omega) (by omega), u (10 * gq q + 2) (by omega) (by omega), u (10 * gq s + 1) (by omega) (by omega), u (10 * gq s + 2) (by omega) (by omega), u 5 (by decide) (by decide)]; exact k
  · have k := S12.eq (N' := N') (N := N) (fun g a b => u g (by omega) (by omega))
    have := h.s12
    exact (show S12 N' ≤ 2000 by omega)
  · rw [h.un hq hp rfl]; exact (show ((S16 N' : Nat) : Int) ≤ gI σ p 6 by omega)
theorem Zr.all (h : Zr N b n) (hn : 16 ≤ n) : ∀ g, b ≤ g → g ≤ b + 15 → N g = 0 := fun g a c => by
  have := h (g - b) (by omega); rw [show b + (g - b) = g by omega] at this; exact this
theorem S16.zero (h : ∀ g, 80 ≤ g → g ≤ 95 → N g = 0) : S16 N = 0 := by
  unfold S16
  rw [h 80 (by decide) (by decide), h 81 (by decide) (by decide), h 82 (by decide) (by decide), h 83 (by decide) (by decide), h 84 (by decide) (by decide), h 85 (by decide) (by decide), h 86 (by decide) (by decide), h 87 (by decide) (by decide), h 88 (by decide) (by decide), h 89 (by decide) (by decide), h 90 (by decide) (by decide), h 91 (by decide) (by decide), h 92 (by decide) (by decide), h 93 (by decide) (by decide), h 94 (by decide) (by decide), h 95 (by decide) (by decide)]
end S16S
theorem md80 : ∀ k, k < 16 → 80 + k ∈ SNG ∧ 80 + k ∈ [14, 41, 42, 44, 60, 61, 62, 63, 64, 65, 66, 67, 68, 69, 70, 71, 74, 80, 81, 82, 83, 84, 85, 86, 87, 88, 89, 90, 91, 92, 93, 94, 95] := by decide
theorem S12.le {N : Nat → Nat} {G : Nat} (hG : 60 ≤ G ∧ G ≤ 71) : N G ≤ S12 N := by
  unfold S12
  rcases (show G = 60 ∨ G = 61 ∨ G = 62 ∨ G = 63 ∨ G = 64 ∨ G = 65 ∨ G = 66 ∨ G = 67 ∨ G = 68 ∨ G = 69 ∨ G = 70 ∨ G = 71 by omega) with w | w | w | w | w | w | w | w | w | w | w | w <;> subst w <;> omega

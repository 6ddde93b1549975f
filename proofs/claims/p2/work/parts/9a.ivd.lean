/-! chains within the invariant -/
def CH : List Nat := [1, 64, 512]
theorem gl11 : ∀ g ∈ GL, g = 0 ∨ 11 ≤ g := by decide
theorem chdep : ∀ x ∈ CH, x ∉ [9*64+10, 9*64+11, 10*64+11, 10*64+12, 10*64+14, 10*64+15, 2*64+1, 2*64+2, 2*64+7, 120*64, 112*64, 11*64+4, 9*64+14, 3*64, 3*64+1, 3*64+3, 3*64+7, 7*64+6, 3, 5*64+3, 5*64+4, 5*64+5, 5*64+6, 5*64+7, 5*64+8, 5*64+9, 5*64+10, 5*64+11, 5*64+12, 5*64+13, 5*64+14, 5*64+15, 5*64+16, 4*64+1, 4*64+2, 4*64+3, 131*64, 8*64+2, 4*64+5, 4*64+6, 4*64+7] := by decide
section IVC
variable {σ σ' : Sg} {gq ci gr nc N N' nu : Nat → Nat} {ot : Nat → Nat → Int} {LL LL' : Nat → List Nat} {pl th c : Nat}
theorem FrH.sk (fr : FrH pl σ σ') (hpl : kO σ pl 8) (hI : ∀ a k, ¬ kO σ a 1 → gI σ' a k = gI σ a k) (hJ : gJ σ' = gJ σ) : Sk CH gr σ σ' := by
  obtain ⟨f1, f2, f3, f4, f5, f6⟩ := fr
  refine ⟨congrArg (fun p => p.1) f1, f2, f3, fun a ha k hk => ⟨hI a k (fun h1 => ?_), f6 a k (fun h0 => ?_) (fun h1 => ?_) (fun h8 => ?_), by rw [hJ]⟩⟩
  · exact hk (by rw [fcdC h1]; decide)
  · exact hk (by rw [h0.2, fcdO h0.1 (by decide)]; decide)
  · exact hk (by rw [fcdC h1]; decide)
  · exact hk (by rw [h8.1, h8.2, fcdO hpl (by decide)]; decide)
theorem IV.hp (h : IV σ pl gq ci gr nc ot LL N nu) : ∃ own, HP σ pl LL own := h.2.2.2.2.2.2.2
theorem IV.kpl (h : IV σ pl gq ci gr nc ot LL N nu) : kO σ pl 8 := by obtain ⟨own, hp⟩ := h.hp; exact hp.2.1.1
theorem IV.pool (h : IV σ pl gq ci gr nc ot LL N nu) {a : Nat} (ha : kO σ a 8) : a = pl := h.1.2.2.2.2.1 a ha.1 pl h.kpl.1 (by rw [ha.2, h.kpl.2]) (by rw [ha.2]; rfl)
theorem IV.un (h : IV σ pl gq ci gr nc ot LL N nu) {a b l : Nat} (ha : kO σ a l) (hb : kO σ b l) (hu : un1 l = true) : a = b := h.1.2.2.2.2.1 a ha.1 b hb.1 (by rw [ha.2, hb.2]) (by rw [ha.2]; exact hu)
theorem IV.un' (h : IV σ pl gq ci gr nc ot LL N nu) {a b l : Nat} (ha : kO σ a l) (hb : kO σ b l) (hu : un2 l = true) (hq : gq a = gq b) (hi : ci a = ci b) : a = b := h.1.2.2.2.2.2 a ha.1 b hb.1 (by rw [ha.2, hb.2]) (by rw [ha.2]; exact hu) hq (Or.inl hi)
theorem IV.unq (h : IV σ pl gq ci gr nc ot LL N nu) {a b l : Nat} (ha : kO σ a l) (hb : kO σ b l) (hu : un2 l = true) (hu3 : un3 l (gq a) = true) (hq : gq a = gq b) : a = b := h.1.2.2.2.2.2 a ha.1 b hb.1 (by rw [ha.2, hb.2]) (by rw [ha.2]; exact hu) hq (Or.inr (by rw [ha.2]; exact hu3))
theorem IV.rg (h : IV σ pl gq ci gr nc ot LL N nu) (a k : Nat) : rng (gI σ a k) := h.2.2.2.2.2.2.1.1 a k
theorem SA.frh (h : SA σ gq ci gr nu) (s : Sk CH gr σ σ') (hR : RG σ') : SA σ' gq ci gr nu := by
  obtain ⟨h1, h2, h3, h4, h5, h6⟩ := h
  have lb : ∀ a, labN σ' gr a = labN σ gr a := fun a => by unfold labN; rw [s.2.1]
  refine ⟨fun a ha => s.ko.mpr (h1 a ha), fun a ha k => ?_, fun a ha k hk => ?_, fun a ha k b hb => ?_, fun a ha b hb => ?_, fun a ha b hb => ?_⟩
  · rw [s.1] at ha
    rw [lb]
    by_cases q : gk σ a = 1
    · have l1 : labN σ gr a = 1 := labO ⟨ha, q⟩ (by decide)
      rw [l1]; have := hR a k; unfold rng at this
      exact (show (-2147483648 : Int) ≤ gI σ' a k ∧ gI σ' a k ≤ 2147483647 by omega)
    · by_cases q0 : fcd σ gr a k ∈ CH
      · have e : gI σ' a k = gI σ a k ∨ (labN σ gr a = 0 ∧ k = 1) ∨ (labN σ gr a = 8 ∧ k = 0) := by
          have n1 : labN σ gr a ≠ 1 := by unfold labN; split <;> omega
          unfold fcd at q0; rw [if_neg n1] at q0
          (repeat' split at q0) <;> · simp only [CH, List.mem_cons, List.mem_nil_iff, or_false] at q0; omega
        have := hR a k; unfold rng at this
        rcases e with e | e | e
        · rw [e]; exact h2 a ha k
        · rw [e.2] at this; rw [e.1, e.2]; exact (show (-2147483648 : Int) ≤ gI σ' a 1 ∧ gI σ' a 1 ≤ 2147483647 by omega)
        · rw [e.2] at this; rw [e.1, e.2]; exact (show (-2147483648 : Int) ≤ gI σ' a 0 ∧ gI σ' a 0 ≤ 2147483647 by omega)
      · rw [(s.2.2.2 a ha k q0).1]; exact h2 a ha k
  · rw [s.1] at ha
    rw [s.2.1, s.2.2.1] at hk
    have q0 : fcd σ gr a k ∉ CH := by
      intro q0
      unfold fcd labN at q0
      by_cases e : gk σ a = 100
      · rw [if_pos e] at q0; rw [if_neg (by omega), if_neg (by omega)] at q0
        simp only [CH, List.mem_cons, List.mem_nil_iff, or_false] at q0; omega
      · rw [if_neg e] at q0
        by_cases e1 : gk σ a = 1
        · rw [e1] at hk; exact absurd hk (by simp [lbN])
        · rw [if_neg e1] at q0
          (repeat' split at q0)
          · simp only [CH, List.mem_cons, List.mem_nil_iff, or_false] at q0
            have : (gk σ a = 0 ∧ k = 1) ∨ (gk σ a = 8 ∧ k = 0) := by omega
            rcases this with e | e <;> rw [e.1, e.2] at hk <;> exact absurd hk (by simp [lbN])
          · simp only [CH, List.mem_cons, List.mem_nil_iff, or_false] at q0; omega
          · simp only [CH, List.mem_cons, List.mem_nil_iff, or_false] at q0; omega
    rw [(s.2.2.2 a ha k q0).2.1]; exact h3 a ha k hk
  · rw [s.1] at ha
    rw [s.2.1, s.2.2.1]
    by_cases q0 : fcd σ gr a k ∈ CH
    · have e : gk σ a = 1 ∨ (gk σ a = 0 ∧ k = 1) ∨ (gk σ a = 8 ∧ k = 0) := by
        unfold fcd labN at q0
        by_cases e : gk σ a = 100
        · rw [if_pos e] at q0; rw [if_neg (by omega), if_neg (by omega)] at q0
          simp only [CH, List.mem_cons, List.mem_nil_iff, or_false] at q0; omega
        · rw [if_neg e] at q0
          by_cases e1 : gk σ a = 1
          · exact Or.inl e1
          · rw [if_neg e1] at q0
            (repeat' split at q0) <;> · simp only [CH, List.mem_cons, List.mem_nil_iff, or_false] at q0; omega
      rcases e with e | e | e
      · rw [e]; exact ⟨trivial, fun q => absurd q (by simp [lbX])⟩
      · rw [e.1, e.2]; exact ⟨trivial, fun q => absurd q (by decide)⟩
      · rw [e.1, e.2]; exact ⟨trivial, fun q => absurd q (by decide)⟩
    · rw [(s.2.2.2 a ha k q0).2.1] at hb; exact ⟨(h4 a ha k b hb).1, fun q => s.ko.mpr ((h4 a ha k b hb).2 q)⟩
  · rw [s.1] at ha hb; rw [s.2.1]; exact h5 a ha b hb
  · rw [s.1] at ha hb; rw [s.2.1]; exact h6 a ha b hb
/-- chains have changed -/
theorem IV.ch {own' : Nat → Nat} (h : IV σ pl gq ci gr nc ot LL N nu) (hp : HP σ' pl LL' own') (fr : FrH pl σ σ') (hI : ∀ a k, ¬ kO σ a 1 → gI σ' a k = gI σ a k) (hJ : gJ σ' = gJ σ) (hR : RG σ') (hC : SC σ gq N')
    (hN : ∀ g, g = 0 ∨ 11 ≤ g → N' g = ns (gD σ) gq LL' g) (h50 : ∀ x, kO σ x 1 → gq x = 50 → (LL' x).length ≤ 8) (hP : ∀ x, kO σ x 1 → LL' x ≠ [] → PlC σ gq ci ot x) (h13 : ∀ x, kO σ x 1 → gq x = 13 → ∀ d ∈ LL' x, (0 ≤ gI σ d 3 ∧ gI σ d 3 < (nu 16 : Int))) (h2 : N' 2 = N 2) (h3 : N' 3 = N 3) (hT : N' 2 = nt (gD σ) LL' + N' 1) :
    IV σ' pl gq ci gr nc ot LL' N' nu ∧ Fx CH gr σ σ' := by
  obtain ⟨i1, i2, i3, i4, i5, i6, i7, own, i8⟩ := h
  have s : Sk CH gr σ σ' := fr.sk i8.2.1.1 hI hJ
  refine ⟨⟨i1.frh s hR, i2.sk s (by decide), hC.sk s (by decide), ⟨by rw [s.1]; exact i4.1, i4.2.1, by rw [s.1]; exact hN, fun x hx => h50 x (s.ko.mp hx), by rw [s.1, s.2.1]; exact i4.2.2.2.2.1, fun x hx hL => PlC.sk (hP x (s.ko.mp hx) hL) s (by decide), fun x hx hq d hd => ?_, by rw [s.1]; exact hT⟩, i5.sk i1 s (by decide), ?_, ⟨hR, ?_⟩, own', hp⟩, s.fx⟩
  · rw [hI d 3 (fun k => by have := (hp.2.2.1 x d hd).2.2; rw [s.2.1, k.2] at this; omega)]
    exact h13 x (s.ko.mp hx) hq d hd
  · have := i6.sk s (congrArg (fun p => p.2.1) fr.1) (congrArg (fun p => p.2.2) fr.1) (by decide)
    unfold SU at this ⊢; rw [h2]; exact this
  · have := i7.2.sk s (by decide); unfold SJ at this ⊢; rw [h3]; exact this
end IVC

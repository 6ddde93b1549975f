theorem IV.gl {σ : Sg} {gq ci gr nc N nu : Nat → Nat} {ot : Nat → Nat → Int} {LL : Nat → List Nat} {pl x c : Nat} (h : IV σ pl gq ci gr nc ot LL N nu) (hx : kO σ x 1) (hq : gq x = 13) (hc : c ∈ LL x) : 0 ≤ gI σ c 3 ∧ gI σ c 3 < (nu 16 : Int) := h.ss.2.2.2.2.2.2.1 x hx hq c hc
/-- a group of one chain -/
theorem IV.one {σ : Sg} {gq ci gr nc N nu : Nat → Nat} {ot : Nat → Nat → Int} {LL : Nat → List Nat} {pl x G : Nat} (h : IV σ pl gq ci gr nc ot LL N nu) (hx : kO σ x 1) (hq : gq x = G) (hG : G ∈ SNG) : N G = (LL x).length := by
  subst hq
  have g11 : ∀ g ∈ SNG, 11 ≤ g := by decide
  rw [h.ss.2.2.1 _ (Or.inr (g11 _ hG))]
  refine ns_one h.nd hx.1 (fun y hy hq hne => ?_)
  cases e : LL y with
  | nil => rfl
  | cons c T =>
    obtain ⟨own, hp⟩ := h.hp
    rcases hp.2.2.2.2.1 y (by rw [e]; simp) with w | w
    · have := h.ss.2.1; rw [← w, hq] at this; have := g11 _ hG; omega
    · exact absurd (h.unq w hx rfl (by unfold un3; rw [hq]; simp [hG]) hq) hne
theorem tb_wm {x : Int64} {l : Int} {M : Nat} (hx : 0 ≤ x.toInt ∧ x.toInt ≤ 1000000) (hl : 0 ≤ l ∧ l ≤ 1000) (hM : 2199023255552 ≤ M) : tb M ((x - Int64.ofInt l) - 1) := by
  have e1 : (x - Int64.ofInt l).toInt = x.toInt - l := by rw [sb_int (by omega) (by rw [of_int (by omega)]; omega), of_int (by omega)]
  have e2 : ((x - Int64.ofInt l) - 1).toInt = x.toInt - l - 1 := by rw [sb_int (by omega) (by decide), e1]; rfl
  unfold tb; rw [e2]; omega
/-- rows that came out, of one output -/
theorem IV.out3 {σ : Sg} {gq ci gr nc N nu : Nat → Nat} {ot : Nat → Nat → Int} {LL : Nat → List Nat} {pl x y z k : Nat} (h : IV σ pl gq ci gr nc ot LL N nu) (kx : kO σ x 1) (ky : kO σ y 1) (kz : kO σ z 1) (hk : k < 4) (hx : gq x = 60 + k) (hy : gq y = 64 + k) (hz : gq z = 68 + k) : gI σ x 2 = (N (60 + k) : Nat) ∧ gI σ y 2 = (N (64 + k) : Nat) ∧ gI σ z 2 = (N (68 + k) : Nat) := by
  have m : ∀ k, k < 4 → 60 + k ∈ SNG ∧ 64 + k ∈ SNG ∧ 68 + k ∈ SNG := by decide
  rw [h.size kx, h.size ky, h.size kz, h.one kx hx (m k hk).1, h.one ky hy (m k hk).2.1, h.one kz hz (m k hk).2.2]
  exact ⟨rfl, rfl, rfl⟩
theorem sc_out {σ : Sg} {gq N N' : Nat → Nat} {G : Nat} (h : SC σ gq N) (hG : 60 ≤ G ∧ G ≤ 71) (hN : NF [G, 1] N N') (h1 : N' G = N G + 1) (hs : N 60 + N 61 + N 62 + N 63 + N 64 + N 65 + N 66 + N 67 + N 68 + N 69 + N 70 + N 71 + 1 ≤ 2000) : SC σ gq N' := by
  refine h.out hG hN ?_
  have e : ∀ g, g ≠ G → 2 ≤ g → N' g = N g := fun g q1 q2 => hN g (by simp only [List.mem_cons, List.mem_nil_iff, or_false, not_or]; exact ⟨q1, by omega⟩)
  rcases (show G = 60 ∨ G = 61 ∨ G = 62 ∨ G = 63 ∨ G = 64 ∨ G = 65 ∨ G = 66 ∨ G = 67 ∨ G = 68 ∨ G = 69 ∨ G = 70 ∨ G = 71 by omega) with w | w | w | w | w | w | w | w | w | w | w | w
  · subst w
    have := e 61 (by decide) (by decide); have := e 62 (by decide) (by decide); have := e 63 (by decide) (by decide); have := e 64 (by decide) (by decide); have := e 65 (by decide) (by decide); have := e 66 (by decide) (by decide); have := e 67 (by decide) (by decide); have := e 68 (by decide) (by decide); have := e 69 (by decide) (by decide); have := e 70 (by decide) (by decide); have := e 71 (by decide) (by decide); omega
  · subst w
    have := e 60 (by decide) (by decide); have := e 62 (by decide) (by decide); have := e 63 (by decide) (by decide); have := e 64 (by decide) (by decide); have := e 65 (by decide) (by decide); have := e 66 (by decide) (by decide); have := e 67 (by decide) (by decide); have := e 68 (by decide) (by decide); have := e 69 (by decide) (by decide); have := e 70 (by decide) (by decide); have := e 71 (by decide) (by decide); omega
  · subst w
    have := e 60 (by decide) (by decide); have := e 61 (by decide) (by decide); have := e 63 (by decide) (by decide); have := e 64 (by decide) (by decide); have := e 65 (by decide) (by decide); have := e 66 (by decide) (by decide); have := e 67 (by decide) (by decide); have := e 68 (by decide) (by decide); have := e 69 (by decide) (by decide); have := e 70 (by decide) (by decide); have := e 71 (by decide) (by decide); omega
  · subst w
    have := e 60 (by decide) (by decide); have := e 61 (by decide) (by decide); have := e 62 (by decide) (by decide); have := e 64 (by decide) (by decide); have := e 65 (by decide) (by decide); have := e 66 (by decide) (by decide); have := e 67 (by decide) (by decide); have := e 68 (by decide) (by decide); have := e 69 (by decide) (by decide); have := e 70 (by decide) (by decide); have := e 71 (by decide) (by decide); omega
  · subst w
    have := e 60 (by decide) (by decide); have := e 61 (by decide) (by decide); have := e 62 (by decide) (by decide); have := e 63 (by decide) (by decide); have := e 65 (by decide) (by decide); have := e 66 (by decide) (by decide); have := e 67 (by decide) (by decide); have := e 68 (by decide) (by decide); have := e 69 (by decide) (by decide); have := e 70 (by decide) (by decide); have := e 71 (by decide) (by decide); omega
  · subst w
    have := e 60 (by decide) (by decide); have := e 61 (by decide) (by decide); have := e 62 (by decide) (by decide); have := e 63 (by decide) (by decide); have := e 64 (by decide) (by decide); have := e 66 (by decide) (by decide); have := e 67 (by decide) (by decide); have := e 68 (by decide) (by decide); have := e 69 (by decide) (by decide); have := e 70 (by decide) (by decide); have := e 71 (by decide) (by decide); omega
  · subst w
    have := e 60 (by decide) (by decide); have := e 61 (by decide) (by decide); have := e 62 (by decide) (by decide); have := e 63 (by decide) (by decide); have := e 64 (by decide) (by decide); have := e 65 (by decide) (by decide); have := e 67 (by decide) (by decide); have := e 68 (by decide) (by decide); have := e 69 (by decide) (by decide); have := e 70 (by decide) (by decide); have := e 71 (by decide) (by decide); omega
  · subst w
    have := e 60 (by decide) (by decide); have := e 61 (by decide) (by decide); have := e 62 (by decide) (by decide); have := e 63 (by decide) (by decide); have := e 64 (by decide) (by decide); have := e 65 (by decide) (by decide); have := e 66 (by decide) (by decide); have := e 68 (by decide) (by decide); have := e 69 (by decide) (by decide); have := e 70 (by decide) (by decide); have := e 71 (by decide) (by decide); omega
  · subst w
    have := e 60 (by decide) (by decide); have := e 61 (by decide) (by decide); have := e 62 (by decide) (by decide); have := e 63 (by decide) (by decide); have := e 64 (by decide) (by decide); have := e 65 (by decide) (by decide); have := e 66 (by decide) (by decide); have := e 67 (by decide) (by decide); have := e 69 (by decide) (by decide); have := e 70 (by decide) (by decide); have := e 71 (by decide) (by decide); omega
  · subst w
    have := e 60 (by decide) (by decide); have := e 61 (by decide) (by decide); have := e 62 (by decide) (by decide); have := e 63 (by decide) (by decide); have := e 64 (by decide) (by decide); have := e 65 (by decide) (by decide); have := e 66 (by decide) (by decide); have := e 67 (by decide) (by decide); have := e 68 (by decide) (by decide); have := e 70 (by decide) (by decide); have := e 71 (by decide) (by decide); omega
  · subst w
    have := e 60 (by decide) (by decide); have := e 61 (by decide) (by decide); have := e 62 (by decide) (by decide); have := e 63 (by decide) (by decide); have := e 64 (by decide) (by decide); have := e 65 (by decide) (by decide); have := e 66 (by decide) (by decide); have := e 67 (by decide) (by decide); have := e 68 (by decide) (by decide); have := e 69 (by decide) (by decide); have := e 71 (by decide) (by decide); omega
  · subst w
    have := e 60 (by decide) (by decide); have := e 61 (by decide) (by decide); have := e 62 (by decide) (by decide); have := e 63 (by decide) (by decide); have := e 64 (by decide) (by decide); have := e 65 (by decide) (by decide); have := e 66 (by decide) (by decide); have := e 67 (by decide) (by decide); have := e 68 (by decide) (by decide); have := e 69 (by decide) (by decide); have := e 70 (by decide) (by decide); omega

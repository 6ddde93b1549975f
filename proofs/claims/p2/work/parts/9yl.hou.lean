/-! the house -/
/-- the run that goes on is the current job's -/
def HU (σ : Sg) (nc nu : Nat → Nat) (J R W D : Nat) : Prop :=
  (nu 15 ≠ 0 → gP σ R 9 = some J ∧ gP σ W 5 = some J ∧ (1 ≤ gI σ R 12 ∧ gI σ R 12 ≤ 4) ∧ nu 17 ≤ nc 1 ∧ 1 ≤ nc 1) ∧ (gI σ D 9 ≠ 0 → nu 15 ≠ 0)
def HA (σ : Sg) (gq nc : Nat → Nat) (th J S R D W : Nat) : Prop :=
  kO σ th 12 ∧ (gP σ th 4 = some J ∧ kO σ J 4 ∧ gq J = nc 0) ∧ (gP σ th 5 = some S ∧ kO σ S 4 ∧ gq S ≠ nc 0 ∧ gq S ≤ 1 ∧ nc 0 ≤ 1) ∧ (gP σ th 7 = some R ∧ kO σ R 9) ∧ (gP σ R 2 = some D ∧ kO σ D 3) ∧ (gP σ R 1 = some W ∧ kO σ W 11)
def T3 (n : Nat) : Nat := 2199023255552 + 1000000000000 * n
theorem T3_s (n : Nat) : T3 (n + 1) = T3 n + 1000000000000 := by unfold T3; omega
theorem T3_le {n : Nat} (h : n < 512) : T3 n ≤ 515000000000000 := by unfold T3; omega
def HN (σ : Sg) (N nu : Nat → Nat) (D n : Nat) : Prop :=
  (N 5 = 0 ∧ N 14 = 0 ∧ N 44 = 0 ∧ N 74 = 0) ∧ (∀ g, 80 ≤ g → g ≤ 95 → N g = 0) ∧ (N 1 ≤ 8 * n ∧ nu 5 ≤ 8 * n ∧ N 3 ≤ T3 n) ∧ (0 ≤ gI σ D 2 ∧ gI σ D 2 ≤ (n : Int))
section HOU
variable {σ σ' σ'' : Sg} {gq ci gr nc nc' N N' nu nu' : Nat → Nat} {ot ot' : Nat → Nat → Int} {LL LL' : Nat → List Nat} {pl o J S R D W q c u th a k : Nat} {L : List Nat} {gq' ci' : Nat → Nat}
theorem HU.fx1 (h : HU σ nc nu J R W D) (f : Fx L gr σ σ') (kR : kO σ R 9) (kW : kO σ W 11) (hL : 585 ∉ L ∧ 588 ∉ L ∧ 709 ∉ L) (e15 : nu' 15 = nu 15) (e17 : nu' 17 = nu 17) (hd : gI σ' D 9 ≠ 0 → nu 15 ≠ 0) : HU σ' nc nu' J R W D := by
  refine ⟨fun z => ?_, fun z => by rw [e15]; exact hd z⟩
  obtain ⟨a, b, c, d, e⟩ := h.1 (by rw [← e15]; exact z)
  have e12 : gI σ' R 12 = gI σ R 12 := (f.O kR ⟨by decide, hL.2.1⟩).1
  exact ⟨(f.O kR ⟨by decide, hL.1⟩).2.1.trans a, (f.O kW ⟨by decide, hL.2.2⟩).2.1.trans b, by rw [e12]; exact c, by rw [e17]; exact d, e⟩
theorem HU.fx (h : HU σ nc nu J R W D) (f : Fx L gr σ σ') (kR : kO σ R 9) (kW : kO σ W 11) (kD : kO σ D 3) (hL : (585 ∉ L ∧ 588 ∉ L ∧ 709 ∉ L) ∧ 201 ∉ L) (e15 : nu' 15 = nu 15) (e17 : nu' 17 = nu 17) : HU σ' nc nu' J R W D :=
  h.fx1 f kR kW hL.1 e15 e17 (fun z => h.2 (by rw [(f.O kD ⟨by decide, hL.2⟩).1] at z; exact z))
theorem HA.fx (h : HA σ gq nc th J S R D W) (f : Fx L gr σ σ') (g : GE (gD σ) gq ci gq' ci') (hL : 772 ∉ L ∧ 773 ∉ L ∧ 775 ∉ L ∧ 578 ∉ L ∧ 577 ∉ L) : HA σ' gq' nc th J S R D W := by
  obtain ⟨k, ⟨a1, a2, a3⟩, ⟨b1, b2, b3, b4, b5⟩, ⟨c1, c2⟩, ⟨d1, d2⟩, ⟨e1, e2⟩⟩ := h
  have gJ := (g J a2.1).1
  have gS := (g S b2.1).1
  exact ⟨k.up f.1, ⟨(f.O k ⟨by decide, hL.1⟩).2.1.trans a1, a2.up f.1, gJ.trans a3⟩, ⟨(f.O k ⟨by decide, hL.2.1⟩).2.1.trans b1, b2.up f.1, by omega, by omega, b5⟩, ⟨(f.O k ⟨by decide, hL.2.2.1⟩).2.1.trans c1, c2.up f.1⟩,
    ⟨(f.O c2 ⟨by decide, hL.2.2.2.1⟩).2.1.trans d1, d2.up f.1⟩, ⟨(f.O c2 ⟨by decide, hL.2.2.2.2⟩).2.1.trans e1, e2.up f.1⟩⟩
/-- what is given: its time is within bounds -/
theorem IV.wG {v : Int64} (h : IV σ pl gq ci gr nc ot LL N nu) (ha : kO σ a 101) (hv : k % 5 = 0 → 0 ≤ v.toInt ∧ v.toInt ≤ 1000000) : IV (pJ σ a k v) pl gq ci gr nc ot LL N nu := by
  obtain ⟨h1, h2, h3, h4, h5⟩ := h.2.2.2.2.2.2.1.2
  have off : ∀ b j l, kO σ b l → l ≠ 101 → gJ (pJ σ a k v) b j = gJ σ b j := fun b j l hb hl => by rw [gJ_pJ]; exact up2_n _ _ (fun q => hl (by rw [← hb.2, q.1, ha.2]))
  refine h.jW ⟨fun c hc => by rw [off c 5 0 hc (by decide), off c 6 0 hc (by decide)]; exact h1 c hc, fun c hc => by rw [off c 4 2 hc (by decide)]; exact h2 c hc, fun t ht => by rw [off t 7 10 ht (by decide)]; exact h3 t ht, fun g hg9 hr p hp => ?_, h5⟩
  rw [gJ_pJ]
  by_cases e : g = a ∧ 5 * p = k
  · rw [e.1, e.2, up2_s]; exact hv (by omega)
  · rw [up2_n _ _ e]; exact h4 g hg9 hr p hp
theorem SO.fx (h : SO σ gq gr (ncq q c u) ot') (i : IV σ pl gq ci gr nc ot LL N nu) (i' : IV σ' pl gq ci gr nc ot LL' N' nu') (kJ : kO σ J 4) (hJ : gq J = q) (f : Fx L gr σ σ') (hL : (∀ x ∈ L, x < 320 ∨ 384 ≤ x) ∧ 20000 ∉ L ∧ 257 ∉ L ∧ 258 ∉ L ∧ 259 ∉ L ∧ 8384 ∉ L) : SO σ' gq gr (ncq q c u) ot' := by
  obtain ⟨b1, b2, b3, b4, b5⟩ := h
  have n1 : ncq q c u 1 = c := rfl
  have n2 : ncq q c u 2 = u := rfl
  have n0 : ncq q c u 0 = q := rfl
  refine ⟨b1, b2, b3, fun o ko j hj hq k k3 k16 => ?_, fun J' kJ' hq => ?_⟩
  · rw [n1] at hj b1; rw [n0] at hq
    obtain ⟨o0, ho⟩ := i.opAt kJ hJ j
    obtain ⟨k0, g0, _⟩ := ho (by omega)
    have e : o0 = o := i'.unq (k0.up f.1) ko rfl rfl (by omega)
    subst e
    rw [(OX.fx f hL.1 hL.2.1 : OX J σ σ') o0 k0 (fun e => absurd e (k0.ne kJ (by decide))) k]
    exact b4 o0 k0 j (by rw [n1]; exact hj) (by rw [n0]; exact hq) k k3 k16
  · have e : J' = J := i'.unq kJ' (kJ.up f.1) rfl rfl (by rw [hq, hJ]; rfl)
    subst e
    obtain ⟨c1, c2, c3⟩ := b5 J' kJ (by rw [n0]; exact hJ)
    refine ⟨(f.O kJ ⟨by decide, hL.2.2.1⟩).1.trans c1, (f.O kJ ⟨by decide, hL.2.2.2.1⟩).1.trans c2, fun a ha j hj => ?_⟩
    rw [(f.O kJ ⟨by decide, hL.2.2.2.2.1⟩).2.1] at ha
    have t := T_4_3 i.1 kJ ha
    rw [f.r1 (i.1.kd kJ rfl ha rfl) t.2.1 hL.2.2.2.2.2 j]
    exact c3 a ha j hj
/-- another job counts from now on: nothing of the run is left -/
theorem IV.swap (i : IV σ pl gq ci gr nc ot LL N nu) (so : SO σ gq gr nc' ot') (z : N 11 = 0 ∧ N 12 = 0 ∧ N 21 = 0 ∧ N 22 = 0 ∧ N 31 = 0 ∧ N 32 = 0) : IV σ pl gq ci gr nc' ot' LL N nu := by
  obtain ⟨s1, s2, s3, s4, s5, s6, s7, s8⟩ := i.2.2.2.1
  have nl : ∀ x g, gq x = g → 11 ≤ g → N g = 0 → LL x ≠ [] → False := fun x g e h11 h0 hx => hx (i.nil e h11 h0)
  refine ⟨i.1, i.2.1, i.2.2.1, ⟨s1, s2, s3, s4, s5, fun x kx hx => ?_, s7, s8⟩, so, i.2.2.2.2.2⟩
  obtain ⟨p1, p2, p3, p4, p5, _, _⟩ := s6 x kx hx
  refine ⟨p1, p2, p3, p4, p5, fun w => ?_, fun w => ?_⟩
  · rcases w with w | w | w | w
    · exact (nl x 21 w (by decide) z.2.2.1 hx).elim
    · exact (nl x 22 w (by decide) z.2.2.2.1 hx).elim
    · exact (nl x 31 w (by decide) z.2.2.2.2.1 hx).elim
    · exact (nl x 32 w (by decide) z.2.2.2.2.2 hx).elim
  · rcases w with w | w
    · exact (nl x 11 w (by decide) z.1 hx).elim
    · exact (nl x 12 w (by decide) z.2.1 hx).elim
/-- no job counts -/
theorem big_ex (D : List Nat) (g : Nat → Nat) : ∃ n, ∀ a ∈ D, g a ≠ n := by
  have : ∃ n, ∀ a ∈ D, g a < n := by
    induction D with
    | nil => exact ⟨0, fun _ h => absurd h (by simp)⟩
    | cons x D ih =>
      obtain ⟨n, hn⟩ := ih
      exact ⟨n + g x + 1, fun a ha => by
        rcases List.mem_cons.mp ha with e | e
        · rw [e]; omega
        · have := hn a e; omega⟩
  obtain ⟨n, hn⟩ := this
  exact ⟨n, fun a ha e => by have := hn a ha; omega⟩
theorem IV.none (i : IV σ pl gq ci gr nc ot LL N nu) : ∃ n, (∀ a ∈ gD σ, gq a ≠ n) ∧ IV σ pl gq ci gr (ncq n 0 0) ot LL N nu := by
  obtain ⟨n, hn⟩ := big_ex (gD σ) gq
  have n1 : ncq n 0 0 1 = 0 := rfl
  have n2 : ncq n 0 0 2 = 0 := rfl
  refine ⟨n, hn, i.1, i.2.1, i.2.2.1, i.2.2.2.1, ⟨⟨by rw [n1]; omega, by rw [n1]; omega, by rw [n2]; omega⟩, fun j hj => absurd hj (by rw [n1]; omega), fun j hj => absurd hj (by rw [n2]; omega), fun o _ j hj => absurd hj (by rw [n1]; omega), fun J kJ hq => absurd hq (hn J kJ.1)⟩, i.2.2.2.2.2⟩
end HOU
/-- between two calls: n calls have been, the tape is t long -/
def HV (σ : Sg) (th n : Nat) (t : Int) : Prop := ∃ (pl : Nat) (gq ci gr nc : Nat → Nat) (ot : Nat → Nat → Int) (LL : Nat → List Nat) (N nu : Nat → Nat) (J S R D W : Nat), IV σ pl gq ci gr nc ot LL N nu ∧ HA σ gq nc th J S R D W ∧ HU σ nc nu J R W D ∧ HN σ N nu D n ∧ gI σ th 1 = t
theorem HV.mv {σ σ' : Sg} {gq ci gq' ci' gr nc N N' nu nu' : Nat → Nat} {ot : Nat → Nat → Int} {LL' : Nat → List Nat} {pl J S R D W th n : Nat} {L : List Nat} {t : Int} (i' : IV σ' pl gq' ci' gr nc ot LL' N' nu') (ha : HA σ gq nc th J S R D W) (f : Fx L gr σ σ') (g : GE (gD σ) gq ci gq' ci') (hL : 772 ∉ L ∧ 773 ∉ L ∧ 775 ∉ L ∧ 578 ∉ L ∧ 577 ∉ L) (hu' : HU σ' nc nu' J R W D) (hN : HN σ N nu D n)
    (h : (N' 5 = 0 ∧ N' 14 = 0 ∧ N' 44 = 0 ∧ N' 74 = 0) ∧ (∀ g, 80 ≤ g → g ≤ 95 → N' g = 0) ∧ N' 1 ≤ N 1 + 8 ∧ nu' 5 ≤ nu 5 + 8 ∧ N' 3 ≤ N 3 + 1000000000000 ∧ (0 ≤ gI σ' D 2 ∧ gI σ' D 2 ≤ gI σ D 2 + 1)) (ht : gI σ' th 1 = t) : HV σ' th (n + 1) t := by
  obtain ⟨_, _, ⟨b1, b2, b3⟩, b4⟩ := hN
  obtain ⟨c1, c2, c3, c4, c5, c6⟩ := h
  have t3 := T3_s n
  exact ⟨pl, gq', ci', gr, nc, ot, LL', N', nu', J, S, R, D, W, i', ha.fx f g hL, hu', ⟨c1, c2, ⟨by omega, by omega, by omega⟩, by omega⟩, ht⟩
theorem HV.same {σ σ' : Sg} {gq ci gr nc N nu nu' : Nat → Nat} {ot : Nat → Nat → Int} {LL : Nat → List Nat} {pl J S R D W th n : Nat} {L : List Nat} {t : Int} (ha : HA σ gq nc th J S R D W) (hu : HU σ nc nu J R W D) (hN : HN σ N nu D n) (i' : IV σ' pl gq ci gr nc ot LL N nu') (f : Fx L gr σ σ')
    (hL : (772 ∉ L ∧ 773 ∉ L ∧ 775 ∉ L ∧ 578 ∉ L ∧ 577 ∉ L) ∧ ((585 ∉ L ∧ 588 ∉ L ∧ 709 ∉ L) ∧ 201 ∉ L) ∧ 194 ∉ L) (e15 : nu' 15 = nu 15) (e17 : nu' 17 = nu 17) (e5 : nu' 5 ≤ nu 5 + 1) (ht : gI σ' th 1 = t) : HV σ' th (n + 1) t := by
  have kD := ha.2.2.2.2.1.2
  have d2 : gI σ' D 2 = gI σ D 2 := (f.O kD ⟨by decide, hL.2.2⟩).1
  have h2 := hN.2.2.2
  exact HV.mv (N := N) (nu := nu) i' ha f GE.rf hL.1 (hu.fx f ha.2.2.2.1.2 ha.2.2.2.2.2.2 kD hL.2.1 e15 e17) hN ⟨hN.1, hN.2.1, by omega, by omega, by omega, by omega⟩ ht
theorem NX.nv {nu nu' : Nat → Nat} (h : NX nu nu') : NV nu nu' := ⟨fun k hk => h.1 k (fun w => hk (by simp only [List.mem_cons, List.mem_nil_iff, or_false] at w ⊢; omega)), ⟨Nat.le_of_eq (h.1 0 (by decide)).symm, Nat.le_of_eq (h.1 1 (by decide)).symm, h.2.1⟩, h.2.2⟩

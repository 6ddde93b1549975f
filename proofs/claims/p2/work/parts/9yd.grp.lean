/-! programs grow -/
section GRP
variable {σ σ' : Sg} {gq ci gr nc N nu : Nat → Nat} {ot : Nat → Nat → Int} {LL : Nat → List Nat} {pl a J n : Nat} {X : Sg → String → Prop}
theorem i_cpI {Q : Sg → Option Nat → Prop} {v : Int} (h : IW σ pl gq ci gr nc ot LL N nu) (hv : v = (n : Int)) (room : gc σ + 1 ≤ BC ∧ gs σ + n ≤ BS) (ka : kO σ a 100) (hn : gn σ a < n)
    (hQ : ∀ q σ', Gw [q] σ σ' → gk σ' q = 100 → gn σ' q = n → gc σ' = gc σ + 1 → gs σ' = gs σ + n → IW σ' pl gq ci gr nc ot LL N nu → Q σ' (some q)) : wpC_J7_copyOf_59c91 (some a) v σ Q X := by
  subst hv
  unfold wpC_J7_copyOf_59c91 wC_J7_copyOf_59c91_0
  refine ⟨a, rfl, fun _ => ?_⟩
  rw [if_pos (by omega)]
  unfold wC_J7_copyOf_59c91_14
  refine ⟨by omega, ⟨room.1, by rw [Int.toNat_natCast]; exact room.2⟩, ?_⟩
  intro q hq σ10 e10
  rw [Int.toNat_natCast] at e10
  have hn10 : ∀ a, a ≠ q → gn σ10 a = gn σ a := fun a z => by rw [e10]; exact va_up_ne _ _ z
  have aq : a ≠ q := fun z => hq (z ▸ ka.1)
  refine ⟨a, rfl, fun _ => ?_⟩
  refine i_J9_min_b (fun r hr => ?_)
  intro x12
  rw [hn10 a aq] at hr
  have nq : gn σ10 q = n := by rw [e10]; exact va_up_self _ _ _
  refine ⟨⟨⟨by omega, by omega, by omega⟩, by rw [hn10 a aq]; omega, by rw [nq]; omega⟩, ?_⟩
  intro σ14 e14
  have ne : ∀ a ∈ gD σ, a ≠ q := fun a ha z => hq (z ▸ ha)
  have hD : gD σ14 = gD σ ++ [q] := by rw [e14, e10]; rfl
  have hK : gk σ14 = va_up (gk σ) q 100 := by rw [e14, e10]; rfl
  have hN : gn σ14 = va_up (gn σ) q n := by rw [e14, e10]; rfl
  have hJ : ∀ a k, gJ σ14 a k = if a = q then 0 else gJ σ a k := fun a k => by rw [e14, e10]; rfl
  have hP : ∀ a k, gP σ14 a k = if a = q then none else gP σ a k := fun a k => by rw [e14, e10]; rfl
  have g10 : ∀ b k, rng (gI σ10 b k) := fun b k => by
    rw [e10]
    show rng (if b = q then 0 else gI σ b k)
    split
    · unfold rng; omega
    · exact h.2.2.2.2.2.1.1 b k
  have hI : ∀ a k, a ≠ q → gI σ14 a k = gI σ a k := fun b k z => by
    rw [e14]
    show (if b = q ∧ _ ∧ _ then _ else gI σ10 b k) = _
    rw [if_neg (fun y => z y.1), e10]
    show (if b = q then 0 else gI σ b k) = _
    rw [if_neg z]
  have hR : RG σ14 := fun b k => by
    rw [e14]
    show rng (if b = q ∧ _ ∧ _ then gI σ10 a _ else gI σ10 b k)
    split
    · exact g10 _ _
    · exact g10 _ _
  have nd : (gD σ14).Nodup := by
    rw [hD]
    exact List.nodup_append.mpr ⟨h.2.2.2.1.1, by simp, fun x hx y hy z => ne x hx (z.trans (List.mem_singleton.mp hy))⟩
  have ext : Ext σ σ14 := fun a ha => ⟨by rw [hD]; exact List.mem_append_left _ ha, by rw [hK, va_up_ne _ _ (ne a ha)], by rw [hN, va_up_ne _ _ (ne a ha)]⟩
  have gw : Gw [q] σ σ14 := ⟨hD, nd, ext, fun a ha k => ⟨hI a k (ne a ha), by rw [hP, if_neg (ne a ha)], by rw [hJ, if_neg (ne a ha)]⟩⟩
  have kq : gk σ14 q = 100 := by rw [hK, va_up_self]
  exact hQ q σ14 gw kq (by rw [hN, va_up_self]) (by rw [e14, e10]; rfl) (by rw [e14, e10]; rfl) (h.gwA gw (Or.inl kq) (fun k => by rw [hP, if_pos rfl]) hR)
theorem i_cpJ {Q : Sg → Option Nat → Prop} {v : Int} (h : IW σ pl gq ci gr nc ot LL N nu) (hv : v = (n : Int)) (room : gc σ + 1 ≤ BC ∧ gs σ + n ≤ BS) (ka : kO σ a 101) (hn : gn σ a < n)
    (hQ : ∀ q σ', Gw [q] σ σ' → gk σ' q = 101 → gn σ' q = n → gc σ' = gc σ + 1 → gs σ' = gs σ + n → IW σ' pl gq ci gr nc ot LL N nu → Q σ' (some q)) : wpC_J7_copyOf_c38d5 (some a) v σ Q X := by
  subst hv
  unfold wpC_J7_copyOf_c38d5 wC_J7_copyOf_c38d5_0
  refine ⟨a, rfl, fun _ => ?_⟩
  rw [if_pos (by omega)]
  unfold wC_J7_copyOf_c38d5_14
  refine ⟨by omega, ⟨room.1, by rw [Int.toNat_natCast]; exact room.2⟩, ?_⟩
  intro q hq σ10 e10
  rw [Int.toNat_natCast] at e10
  have hn10 : ∀ a, a ≠ q → gn σ10 a = gn σ a := fun a z => by rw [e10]; exact va_up_ne _ _ z
  have aq : a ≠ q := fun z => hq (z ▸ ka.1)
  refine ⟨a, rfl, fun _ => ?_⟩
  refine i_J9_min_b (fun r hr => ?_)
  intro x12
  rw [hn10 a aq] at hr
  have nq : gn σ10 q = n := by rw [e10]; exact va_up_self _ _ _
  refine ⟨⟨⟨by omega, by omega, by omega⟩, by rw [hn10 a aq]; omega, by rw [nq]; omega⟩, ?_⟩
  intro σ14 e14
  have ne : ∀ a ∈ gD σ, a ≠ q := fun a ha z => hq (z ▸ ha)
  have hD : gD σ14 = gD σ ++ [q] := by rw [e14, e10]; rfl
  have hK : gk σ14 = va_up (gk σ) q 101 := by rw [e14, e10]; rfl
  have hN : gn σ14 = va_up (gn σ) q n := by rw [e14, e10]; rfl
  have hI : ∀ a k, gI σ14 a k = if a = q then 0 else gI σ a k := fun a k => by rw [e14, e10]; rfl
  have hP : ∀ a k, gP σ14 a k = if a = q then none else gP σ a k := fun a k => by rw [e14, e10]; rfl
  have hJ : ∀ a k, a ≠ q → gJ σ14 a k = gJ σ a k := fun a k z => by
    rw [e14]
    show (if a = q ∧ _ ∧ _ then _ else gJ σ10 a k) = _
    rw [if_neg (fun y => z y.1), e10]
    show (if a = q then 0 else gJ σ a k) = _
    rw [if_neg z]
  have hR : RG σ14 := fun b k => by
    rw [hI]; split
    · unfold rng; omega
    · exact h.2.2.2.2.2.1.1 b k
  have nd : (gD σ14).Nodup := by
    rw [hD]
    exact List.nodup_append.mpr ⟨h.2.2.2.1.1, by simp, fun x hx y hy z => ne x hx (z.trans (List.mem_singleton.mp hy))⟩
  have ext : Ext σ σ14 := fun a ha => ⟨by rw [hD]; exact List.mem_append_left _ ha, by rw [hK, va_up_ne _ _ (ne a ha)], by rw [hN, va_up_ne _ _ (ne a ha)]⟩
  have gw : Gw [q] σ σ14 := ⟨hD, nd, ext, fun a ha k => ⟨by rw [hI, if_neg (ne a ha)], by rw [hP, if_neg (ne a ha)], hJ a k (ne a ha)⟩⟩
  have kq : gk σ14 q = 101 := by rw [hK, va_up_self]
  exact hQ q σ14 gw kq (by rw [hN, va_up_self]) (by rw [e14, e10]; rfl) (by rw [e14, e10]; rfl) (h.gwA gw (Or.inr kq) (fun k => by rw [hP, if_pos rfl]) hR)
/-- both arrays of a job's programs are new ones, twice as long -/
theorem IV.grow {σ1 σ2 σ3 σ4 : Sg} {c m q1 q2 : Nat} (h : IV σ pl gq ci gr nc ot LL N nu) (kJ : kO σ J 4) (hq : gq J = 0 ∨ gq J = 1) (e5 : gP σ J 5 = some c) (e6 : gP σ J 6 = some m) (hb : 64 ≤ gn σ c ∧ gn σ c ≤ 6200) (hl : gI σ J 7 ≤ (gn σ c : Int))
    (g1 : Gw [q1] σ σ1) (k1 : gk σ1 q1 = 100) (n1 : gn σ1 q1 = 2 * gn σ c) (c1 : gc σ1 = gc σ + 1) (s1 : gs σ1 = gs σ + 2 * gn σ c) (e2 : σ2 = pP σ1 J 5 (some q1))
    (g3 : Gw [q2] σ2 σ3) (k3 : gk σ3 q2 = 101) (n3 : gn σ3 q2 = 2 * gn σ c) (c3 : gc σ3 = gc σ2 + 1) (s3 : gs σ3 = gs σ2 + 2 * gn σ c) (e4 : σ4 = pP σ3 J 6 (some q2)) (w4 : IW σ4 pl gq ci gr nc ot LL N nu) :
    ∃ nu', IV σ4 pl gq ci gr nc ot LL N nu' ∧ NC nu nu' := by
  obtain ⟨i1, i2, i3, i4, i5, i6, i7, i8⟩ := id h
  have u : ∀ k, k ≠ 13 + gq J → up1 nu (13 + gq J) (2 * gn σ c) k = nu k := fun k q => up1_n _ _ q
  have um : up1 nu (13 + gq J) (2 * gn σ c) (13 + gq J) = 2 * gn σ c := up1_s _ _ _
  refine ⟨up1 nu (13 + gq J) (2 * gn σ c), ?_, fun k a b => u k (by omega)⟩
  generalize up1 nu (13 + gq J) (2 * gn σ c) = nu' at u um ⊢
  have u0 := u 0 (by omega); have u1 := u 1 (by omega); have u2 := u 2 (by omega); have u5 := u 5 (by omega); have u8 := u 8 (by omega); have u9 := u 9 (by omega); have u10 := u 10 (by omega); have u12 := u 12 (by omega); have u15 := u 15 (by omega); have u16 := u 16 (by omega); have u17 := u 17 (by omega)
  have d1 : gq J = 0 → nu' 13 = 2 * gn σ c ∧ nu' 14 = nu 14 := fun z => ⟨by rw [z] at um; exact um, u 14 (by omega)⟩
  have d2 : gq J = 1 → nu' 14 = 2 * gn σ c ∧ nu' 13 = nu 13 := fun z => ⟨by rw [z] at um; exact um, u 13 (by omega)⟩
  obtain ⟨a1, a2, ⟨b0, b1, b2, b3, b4, b5, b6⟩, a4, a5, a6⟩ := i6
  have aJ := a5 J kJ c e5
  have x1 := g1.2.2.1
  have kJ1 := kJ.up x1
  have x12 : Ext σ σ2 := by rw [e2]; exact fun b hb => x1 b hb
  have x3 : Ext σ σ3 := x12.trans g3.2.2.1
  have x4 : Ext σ σ4 := by rw [e4]; exact fun b hb => x3 b hb
  have P4 : ∀ b ∈ gD σ, ∀ k, ¬ (b = J ∧ (k = 5 ∨ k = 6)) → gP σ4 b k = gP σ b k := fun b hb k z => by
    rw [e4, gP_pP, up2_n _ _ (fun y => z ⟨y.1, Or.inr y.2⟩), (g3.2.2.2 b (x12 b hb).1 k).2.1, e2, gP_pP, up2_n _ _ (fun y => z ⟨y.1, Or.inl y.2⟩)]; exact (g1.2.2.2 b hb k).2.1
  have I4 : ∀ b ∈ gD σ, ∀ k, gI σ4 b k = gI σ b k := fun b hb k => by
    rw [e4]; show gI σ3 b k = _; rw [(g3.2.2.2 b (x12 b hb).1 k).1, e2]; exact (g1.2.2.2 b hb k).1
  have kold : ∀ b l, l ≠ 100 → l ≠ 101 → kO σ4 b l → kO σ b l := fun b l l1 l2 hb => by
    have h3 : kO σ3 b l := by rw [e4] at hb; exact hb
    have h2 : kO σ2 b l := g3.old (fun x hx => by rw [List.mem_singleton.mp hx, k3]; omega) h3
    have h1 : kO σ1 b l := by rw [e2] at h2; exact h2
    exact g1.old (fun x hx => by rw [List.mem_singleton.mp hx, k1]; omega) h1
  have P5 : gP σ4 J 5 = some q1 := by
    rw [e4, gP_pP, up2_n _ _ (fun y => absurd y.2 (by decide)), (g3.2.2.2 J (x12 J kJ.1).1 5).2.1, e2, gP_pP, up2_s]
  have P6 : gP σ4 J 6 = some q2 := by rw [e4, gP_pP, up2_s]
  have nq1 : gn σ4 q1 = 2 * gn σ c := by
    rw [e4]; show gn σ3 q1 = _
    rw [(g3.2.2.1 q1 (by rw [e2]; show q1 ∈ gD σ1; rw [g1.1]; simp)).2.2, e2]; exact n1
  have nq2 : gn σ4 q2 = 2 * gn σ c := by rw [e4]; exact n3
  have gc4 : gc σ4 = gc σ + 2 := by rw [e4]; show gc σ3 = _; rw [c3, e2]; show gc σ1 + 1 = _; rw [c1]
  have gs4 : gs σ4 = gs σ + 4 * gn σ c := by rw [e4]; show gs σ3 = _; rw [s3, e2]; show gs σ1 + _ = _; rw [s1]; omega
  obtain ⟨w1, w2, w3, w5, w6, w7, w8⟩ := w4
  refine ⟨w1.nn9 u0 u1 u2, ?_, w3, ?_, w6, ?_, w7, w8⟩
  · unfold SB at w2 ⊢; rw [u0, u1, u10, u15, u16, u17]; exact w2
  · unfold SS at w5 ⊢; rw [u10, u16]; exact w5
  · have m13 : nu 13 + 2 ≤ nu' 13 ∧ nu' 14 = nu 14 ∧ nu' 13 = 2 * gn σ c ∧ nu 13 ≤ gn σ c ∨ nu 14 + 2 ≤ nu' 14 ∧ nu' 13 = nu 13 ∧ nu' 14 = 2 * gn σ c ∧ nu 14 ≤ gn σ c := by
      rcases hq with z | z
      · left; have := d1 z; have := aJ.1 z; omega
      · right; have := d2 z; have := aJ.2.1 z; omega
    refine ⟨by rw [gc4]; omega, by rw [gs4]; omega, by omega, fun p hp w hw => ?_, fun J' hJ' c' hc' => ?_, fun t ht => ?_⟩
    · have hp := kold p 8 (by decide) (by decide) hp
      rw [P4 p hp.1 2 (fun z => absurd z.1 (hp.ne kJ (by decide)))] at hw
      rw [(x4 w (i1.mem hp rfl hw)).2.2, u12]; exact a4 p hp w hw
    · have hJ' := kold J' 4 (by decide) (by decide) hJ'
      by_cases z : J' = J
      · subst z
        rw [P5] at hc'; cases hc'
        rw [nq1, I4 J' hJ'.1 7]
        refine ⟨fun w => by have := d1 w; omega, fun w => by have := d2 w; omega, fun m' hm' => by rw [P6] at hm'; cases hm'; exact nq2, by omega⟩
      · have zq : gq J' ≠ gq J := fun w => z (h.unq hJ' kJ rfl rfl w)
        rw [P4 J' hJ'.1 5 (fun y => z y.1)] at hc'
        obtain ⟨y1, y2, y3, y4⟩ := a5 J' hJ' c' hc'
        rw [(x4 c' (i1.mem hJ' rfl hc')).2.2, I4 J' hJ'.1 7]
        refine ⟨fun w => ?_, fun w => ?_, fun m' hm' => ?_, y4⟩
        · have := y1 w; rcases hq with v | v
          · omega
          · have := d2 v; omega
        · have := y2 w; rcases hq with v | v
          · have := d1 v; omega
          · omega
        · rw [P4 J' hJ'.1 6 (fun y => z y.1)] at hm'
          rw [(x4 m' (i1.mem hJ' rfl hm')).2.2]; exact y3 m' hm'
    · have ht := kold t 120 (by decide) (by decide) ht
      have e : (fun i => (gP σ4 t i).isSome) = (fun i => (gP σ t i).isSome) := by
        funext i; rw [P4 t ht.1 i (fun z => absurd z.1 (ht.ne kJ (by decide)))]
      rw [e, u8, u9]; exact a6 t ht
end GRP

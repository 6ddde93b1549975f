/-! what the program wants of the invariant -/
def NU (nu nu' : Nat → Nat) : Prop := (∀ k, k ∉ [2, 8, 9, 12] → nu' k = nu k) ∧ nu 2 ≤ nu' 2
def NX (nu nu' : Nat → Nat) : Prop := (∀ k, k ∉ [2, 5, 8, 9, 12] → nu' k = nu k) ∧ nu 2 ≤ nu' 2 ∧ nu' 5 ≤ nu 5 + 1
section IVN
variable {σ σ' : Sg} {gq ci gr nc N N' nu nu1 nu2 : Nat → Nat} {ot : Nat → Nat → Int} {LL LL' : Nat → List Nat} {pl th c a : Nat} {L : List Nat}
theorem NU.rf : NU nu nu := ⟨fun _ _ => rfl, Nat.le_refl _⟩
theorem NU.tr (h : NU nu nu1) (h2 : NU nu1 nu2) : NU nu nu2 := ⟨fun k q => (h2.1 k q).trans (h.1 k q), Nat.le_trans h.2 h2.2⟩
theorem NU.x (h : NU nu nu1) (h2 : NX nu1 nu2) : NX nu nu2 := ⟨fun k q => (h2.1 k q).trans (h.1 k (fun w => q (by simp only [List.mem_cons, List.mem_nil_iff, or_false] at w ⊢; omega))), Nat.le_trans h.2 h2.2.1, by have := h2.2.2; have := h.1 5 (by decide); omega⟩
theorem NX.bump : NX nu (up1 nu 5 (nu 5 + 1)) := ⟨fun k q => up1_n _ _ (fun w => q (by rw [w]; decide)), by rw [up1_n _ _ (by decide)]; exact Nat.le_refl _, by rw [up1_s]; exact Nat.le_refl _⟩
theorem Fx.bump {x y : Nat} : Fx L gr σ (bump σ x y) := ⟨fun _ h => ⟨h, rfl, rfl⟩, fun _ _ _ _ => ⟨rfl, rfl, rfl⟩⟩
theorem rngb {x : Int} (h : rng x) : (-2147483648 : Int) ≤ x ∧ x ≤ 2147483647 := by unfold rng at h; omega
theorem IV.wA0 {k : Nat} {v : Int} (h : IV σ pl gq ci gr nc ot LL N nu) (ha : kO σ a 100) (hg : gr a = 0) (hv : rng v) : IV (pI σ a k v) pl gq ci gr nc ot LL N nu := h.wA ha (by omega) (by rw [hg]; exact rngb hv)
theorem IV.wA2 {k : Nat} {v : Int} (h : IV σ pl gq ci gr nc ot LL N nu) (ha : kO σ a 100) (hg : gr a = 2) (hv : 0 ≤ v ∧ v ≤ 64) : IV (pI σ a k v) pl gq ci gr nc ot LL N nu := h.wA ha (by omega) (by rw [hg]; exact hv)
theorem IV.wA3 {k : Nat} {v : Int} (h : IV σ pl gq ci gr nc ot LL N nu) (ha : kO σ a 100) (hg : gr a = 3) (hv : 0 ≤ v ∧ v ≤ 64) : IV (pI σ a k v) pl gq ci gr nc ot LL N nu := h.wA ha (by omega) (by rw [hg]; exact hv)
theorem P_111 (h : SA σ gq ci gr nu) (ha : kO σ a 111) {k : Nat} (hk : k < gn σ a) : ∃ b, gP σ a k = some b := by
  cases e : gP σ a k with
  | none => exact absurd e (h.2.2.1 a ha.1 k (by rw [ha.2]; exact decide_eq_true hk))
  | some b => exact ⟨b, rfl⟩
theorem P_115 (h : SA σ gq ci gr nu) (ha : kO σ a 115) {k : Nat} (hk : k < 16) : ∃ b, gP σ a k = some b := by
  cases e : gP σ a k with
  | none => exact absurd e (h.2.2.1 a ha.1 k (by rw [ha.2]; exact decide_eq_true hk))
  | some b => exact ⟨b, rfl⟩
theorem P_200 (h : SA σ gq ci gr nu) (ha : kO σ a 200) {k : Nat} (hk : k < 4) : ∃ b, gP σ a k = some b := by
  cases e : gP σ a k with
  | none => exact absurd e (h.2.2.1 a ha.1 k (by rw [ha.2]; exact decide_eq_true hk))
  | some b => exact ⟨b, rfl⟩
theorem IV.room (h : IV σ pl gq ci gr nc ot LL N nu) : gc σ + 1 ≤ BC ∧ gs σ + 6 ≤ BS := by
  obtain ⟨i1, i2, i3, i4, i5, i6, i7, own, i8⟩ := h
  obtain ⟨a1, a2, a3, _⟩ := i6
  have b1 := i2.1
  have b2 := i2.2.2.2.2.2.1.1
  unfold KC at a1; unfold KS at a2
  show gc σ + 1 ≤ 590000 ∧ gs σ + 6 ≤ 7000000
  omega
theorem IV.bump (h : IV σ pl gq ci gr nc ot LL N nu) (h5 : nu 5 < 24000) : IV (bump σ 1 6) pl gq ci gr nc ot LL N (up1 nu 5 (nu 5 + 1)) := by
  obtain ⟨i1, i2, i3, i4, i5, i6, i7, own, i8⟩ := h
  have u : ∀ k, k ≠ 5 → up1 nu 5 (nu 5 + 1) k = nu k := fun k q => up1_n _ _ q
  have u5 : up1 nu 5 (nu 5 + 1) 5 = nu 5 + 1 := up1_s _ _ _
  have lh : ∀ l k, lbHi (up1 nu 5 (nu 5 + 1)) l k = lbHi nu l k := fun l k => by unfold lbHi; rw [u 0 (by decide), u 1 (by decide), u 2 (by decide)]
  have lt : ∀ l qa ca k qb cb nb rb, lbT (up1 nu 5 (nu 5 + 1)) l qa ca k qb cb nb rb = lbT nu l qa ca k qb cb nb rb := fun l qa ca k qb cb nb rb => by unfold lbT; rw [u 2 (by decide)]
  refine ⟨?_, ?_, i3, ?_, i5, ?_, i7, own, i8⟩
  · obtain ⟨a1, a2, a3, a4, a5⟩ := i1
    exact ⟨a1, fun a ha k => by rw [lh]; exact a2 a ha k, a3, fun a ha k b e => by rw [lt]; exact a4 a ha k b e, a5⟩
  · unfold SB at i2 ⊢; rw [u 0 (by decide), u 1 (by decide), u 10 (by decide), u 15 (by decide), u 16 (by decide), u 17 (by decide)]; exact i2
  · unfold SS at i4 ⊢; rw [u 10 (by decide), u 16 (by decide)]; exact i4
  · unfold SU at i6 ⊢
    rw [u 0 (by decide), u 8 (by decide), u 9 (by decide), u 10 (by decide), u 12 (by decide), u 13 (by decide), u 14 (by decide), u5]
    obtain ⟨a1, a2, a3⟩ := i6
    refine ⟨?_, ?_, ⟨by omega, a3.1.2⟩, a3.2⟩
    · show gc σ + 1 ≤ _; omega
    · show gs σ + 6 ≤ _; omega
theorem IV.first (h : IV σ pl gq ci gr nc ot LL N nu) {x : Nat} (hx : kO σ x 1) : gP σ x 0 = (LL x).head? := by
  obtain ⟨own, hp⟩ := h.hp
  have := (hp.1 x hx).1
  cases e : LL x with
  | nil => rw [e] at this; exact this
  | cons c T => rw [e] at this; exact this.1
theorem IV.last (h : IV σ pl gq ci gr nc ot LL N nu) {x : Nat} (hx : kO σ x 1) : gP σ x 1 = (LL x).getLast? := by
  obtain ⟨own, hp⟩ := h.hp
  exact (hp.1 x hx).2.1
theorem IV.size (h : IV σ pl gq ci gr nc ot LL N nu) {x : Nat} (hx : kO σ x 1) : gI σ x 2 = ((LL x).length : Int) := by
  obtain ⟨own, hp⟩ := h.hp
  exact (hp.1 x hx).2.2
theorem IV.next (h : IV σ pl gq ci gr nc ot LL N nu) {x c : Nat} {A B : List Nat} (hx : kO σ x 1) (e : LL x = A ++ c :: B) : gP σ c 1 = B.head? := by
  obtain ⟨own, hp⟩ := h.hp
  have l1 := (hp.1 x hx).1
  rw [e] at l1
  have l2 := lk_app l1
  cases B with
  | nil => exact l2
  | cons d T => exact l2.1
theorem IV.cell (h : IV σ pl gq ci gr nc ot LL N nu) {x c : Nat} (hc : c ∈ LL x) : kO σ c 0 := by
  obtain ⟨own, hp⟩ := h.hp
  exact (hp.2.2.1 x c hc).2
theorem IV.dis (h : IV σ pl gq ci gr nc ot LL N nu) {x y c : Nat} (hc : c ∈ LL x) (hd : c ∈ LL y) : x = y := by
  obtain ⟨own, hp⟩ := h.hp
  exact (hp.2.2.1 x c hc).1.symm.trans (hp.2.2.1 y c hd).1
end IVN
section IVT
variable {σ : Sg} {gq ci gr nc N nu : Nat → Nat} {ot : Nat → Nat → Int} {LL : Nat → List Nat} {pl c : Nat}
theorem IV.sj (h : IV σ pl gq ci gr nc ot LL N nu) : SJ σ gr N := h.2.2.2.2.2.2.1.2
theorem IV.t5 (h : IV σ pl gq ci gr nc ot LL N nu) (hc : kO σ c 0) : tb (N 3) (gJ σ c 5) := (h.sj.1 c hc).1
theorem IV.t6 (h : IV σ pl gq ci gr nc ot LL N nu) (hc : kO σ c 0) : tb (N 3) (gJ σ c 6) := (h.sj.1 c hc).2
theorem IV.t4 (h : IV σ pl gq ci gr nc ot LL N nu) (hc : kO σ c 2) : tb (N 3) (gJ σ c 4) := h.sj.2.1 c hc
theorem IV.t7 (h : IV σ pl gq ci gr nc ot LL N nu) (hc : kO σ c 10) : tb (N 3) (gJ σ c 7) := h.sj.2.2.1 c hc
theorem IV.m3 (h : IV σ pl gq ci gr nc ot LL N nu) : 2199023255552 ≤ N 3 ∧ N 3 ≤ 2305843009213693952 := h.sj.2.2.2.2
theorem IV.tg (h : IV σ pl gq ci gr nc ot LL N nu) (hc : kO σ c 101) (hg : gr c = 9) {k : Nat} (hk : k % 5 = 0 ∧ k < 320) : tb (N 3) (gJ σ c k) := by
  have e : k = 5 * (k / 5) := by omega
  have := h.sj.2.2.2.1 c hc hg (k / 5) (by omega)
  rw [← e] at this
  have m := h.m3
  unfold tb; omega
theorem tb0 (h : IV σ pl gq ci gr nc ot LL N nu) : tb (N 3) 0 := by unfold tb; have : (0 : Int64).toInt = 0 := rfl; omega
theorem tbm1 (h : IV σ pl gq ci gr nc ot LL N nu) : tb (N 3) (-1) := by unfold tb; have : (-1 : Int64).toInt = -1 := rfl; have := h.m3; omega
theorem tbE (h : IV σ pl gq ci gr nc ot LL N nu) : tb (N 3) 1099511627776 := by unfold tb; have : (1099511627776 : Int64).toInt = 1099511627776 := rfl; have := h.m3; omega
end IVT

section IVJ
variable {σ : Sg} {gq ci gr nc N nu : Nat → Nat} {ot : Nat → Nat → Int} {LL : Nat → List Nat} {pl : Nat} {X : Sg → String → Prop}
theorem i_J13_compare_74951 {v0 v2 : Int64} (_ : IV σ pl gq ci gr nc ot LL N nu) {Q : Sg → Int → Prop} (hQ : ∀ r : Int, (-1 ≤ r ∧ r ≤ 1) → Q σ r) : wpC_J13_compare_74951 v0 v2 σ Q X := sC_compare (fun r a b => hQ r ⟨a, b⟩)
theorem i_J9_max_f86c9 {v0 v2 : Int64} (_ : IV σ pl gq ci gr nc ot LL N nu) {Q : Sg → Int64 → Prop} (hQ : ∀ r : Int64, (r = v0 ∨ r = v2) → Q σ r) : wpC_J9_max_f86c9 v0 v2 σ Q X := sC_maxJ (hQ _ (by split <;> simp))
theorem i_J9_min_f86c9 {v0 v2 : Int64} (_ : IV σ pl gq ci gr nc ot LL N nu) {Q : Sg → Int64 → Prop} (hQ : ∀ r : Int64, (r = v0 ∨ r = v2) → Q σ r) : wpC_J9_min_f86c9 v0 v2 σ Q X := sC_minJ (hQ _ (by split <;> simp))
theorem i_J9_max_7cf53 {v0 v1 : Int} (_ : IV σ pl gq ci gr nc ot LL N nu) {Q : Sg → Int → Prop} (hQ : ∀ r : Int, (v0 ≤ r ∧ v1 ≤ r ∧ (r = v0 ∨ r = v1)) → Q σ r) : wpC_J9_max_7cf53 v0 v1 σ Q X := sC_maxI (fun r a b c => hQ r ⟨a, b, c⟩)
theorem i_J9_min_7cf53 {v0 v1 : Int} (_ : IV σ pl gq ci gr nc ot LL N nu) {Q : Sg → Int → Prop} (hQ : ∀ r : Int, (r ≤ v0 ∧ r ≤ v1 ∧ (r = v0 ∨ r = v1)) → Q σ r) : wpC_J9_min_7cf53 v0 v1 σ Q X := sC_minI (fun r a b c => hQ r ⟨a, b, c⟩)
theorem i_J9_floorDiv_f86c9 {v0 v2 : Int64} (_ : IV σ pl gq ci gr nc ot LL N nu) (hy : v2 ≠ 0) {Q : Sg → Int64 → Prop} (hQ : ∀ r : Int64, (r = v0 / v2 ∨ r = v0 / v2 - 1) → Q σ r) : wpC_J9_floorDiv_f86c9 v0 v2 σ Q X := sC_floorDiv hy (hQ _ (Or.inl rfl)) (hQ _ (Or.inr rfl))
theorem i_J13_bitCount_95d88 {v0 : Int64} (_ : IV σ pl gq ci gr nc ot LL N nu) {Q : Sg → Int → Prop} (hQ : ∀ r : Int, True → Q σ r) : wpC_J13_bitCount_95d88 v0 σ Q X := by
  unfold wpC_J13_bitCount_95d88 wC_J13_bitCount_95d88_0
  exact hQ _ trivial
end IVJ
section IVK
variable {σ : Sg} {gq ci gr nc N nu : Nat → Nat} {ot : Nat → Nat → Int} {LL : Nat → List Nat} {pl J b : Nat}
theorem IV.code5 (h : IV σ pl gq ci gr nc ot LL N nu) (hJ : kO σ J 4) (e : gP σ J 5 = some b) : gI σ J 7 ≤ gn σ b := (h.2.2.2.2.2.1.2.2.2.2.1 J hJ b e).2.2.2
theorem IV.code6 (h : IV σ pl gq ci gr nc ot LL N nu) (hJ : kO σ J 4) (e : gP σ J 6 = some b) : gI σ J 7 ≤ gn σ b ∧ 64 ≤ gn σ b ∧ gn σ b ≤ 12400 := by
  obtain ⟨c, ec, f⟩ := P_4_5 h.1 hJ
  have := h.2.2.2.2.2.1.2.2.2.2.1 J hJ c ec
  have e2 := this.2.2.1 b e
  have := this.2.2.2
  rw [e2]; exact ⟨this, f.2⟩
end IVK
theorem Sk.cpJ {L : List Nat} {gr : Nat → Nat} {σ : Sg} {a b : Nat} {sp tp n : Int} (ha : ∀ k, fcd σ gr b k ∈ L) : Sk L gr σ (cpJ σ a sp b tp n) := ⟨rfl, rfl, rfl, fun c hc j hj => ⟨rfl, rfl, by
  show (if c = b ∧ tp ≤ (j : Int) ∧ (j : Int) < tp + n then gJ σ a (sp + ((j : Int) - tp)).toNat else gJ σ c j) = gJ σ c j
  rw [if_neg (fun e => hj (by rw [e.1]; exact ha j))]⟩⟩
theorem andI_7 (x : Int) : 0 ≤ andI x 7 ∧ andI x 7 ≤ 7 := by
  unfold andI
  have h : (i32 x &&& i32 7).toInt = ((i32 x &&& i32 7).toBitVec.toNat : Int) := by
    show (i32 x &&& i32 7).toBitVec.toInt = _
    refine BitVec.toInt_eq_toNat_of_lt ?_
    have : (i32 x &&& i32 7).toBitVec.toNat ≤ 7 := by
      show ((i32 x).toBitVec &&& (i32 7).toBitVec).toNat ≤ 7
      rw [BitVec.toNat_and]
      exact Nat.le_trans Nat.and_le_right (by decide)
    omega
  have : (i32 x &&& i32 7).toBitVec.toNat ≤ 7 := by
    show ((i32 x).toBitVec &&& (i32 7).toBitVec).toNat ≤ 7
    rw [BitVec.toNat_and]
    exact Nat.le_trans Nat.and_le_right (by decide)
  omega
theorem i32_remb {x y : Int} (hx : 0 ≤ x ∧ x < 2147483648) (hy : 0 < y ∧ y < 2147483648) : (i32 x - i32 x / i32 y * i32 y).toInt = x % y := by
  have h1 : (i32 x / i32 y) = i32 (x / y) := by
    apply Int32.toInt_inj.mp
    rw [Int32.toInt_div, i32_toInt ⟨by omega, by omega⟩, i32_toInt ⟨by omega, by omega⟩]
    have hq : 0 ≤ x / y ∧ x / y ≤ x := ⟨Int.ediv_nonneg hx.1 (by omega), Int.ediv_le_self _ hx.1⟩
    rw [i32_toInt ⟨by omega, by omega⟩, Int.tdiv_eq_ediv_of_nonneg hx.1]
    rw [Int.bmod_eq_of_le (by omega) (by omega)]
  have hq : 0 ≤ x / y ∧ x / y ≤ x := ⟨Int.ediv_nonneg hx.1 (by omega), Int.ediv_le_self _ hx.1⟩
  have e : x % y = x - x / y * y := by have := Int.emod_add_mul_ediv x y; rw [Int.mul_comm] at this; omega
  rw [h1, i32_mul, i32_sub, e]
  have h2 : 0 ≤ x % y ∧ x % y < y := ⟨Int.emod_nonneg _ (by omega), Int.emod_lt_of_pos _ hy.1⟩
  exact i32_toInt ⟨by omega, by omega⟩
theorem i32_divb {x y : Int} (hx : 0 ≤ x ∧ x < 2147483648) (hy : 0 < y ∧ y < 2147483648) : (i32 x / i32 y).toInt = x / y := by
  rw [Int32.toInt_div, i32_toInt ⟨by omega, by omega⟩, i32_toInt ⟨by omega, by omega⟩]
  have hq : 0 ≤ x / y ∧ x / y ≤ x := ⟨Int.ediv_nonneg hx.1 (by omega), Int.ediv_le_self _ hx.1⟩
  rw [Int.tdiv_eq_ediv_of_nonneg hx.1, Int.bmod_eq_of_le (by omega) (by omega)]
theorem remI_b {x y : Int} (hx : 0 ≤ x ∧ x < 2147483648) (hy : 0 < y ∧ y < 2147483648) : remI x y = x % y ∧ 0 ≤ remI x y ∧ remI x y < y := by
  have h : remI x y = x % y := i32_remb hx hy
  rw [h]; exact ⟨rfl, Int.emod_nonneg _ (by omega), Int.emod_lt_of_pos _ hy.1⟩
theorem divI_b {x y : Int} (hx : 0 ≤ x ∧ x < 2147483648) (hy : 0 < y ∧ y < 2147483648) : divI x y = x / y ∧ 0 ≤ divI x y ∧ divI x y ≤ x := by
  have h : divI x y = x / y := i32_divb hx hy
  rw [h]; exact ⟨rfl, Int.ediv_nonneg hx.1 (by omega), Int.ediv_le_self _ hx.1⟩

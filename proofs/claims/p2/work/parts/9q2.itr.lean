/-! going along a chain -/
section ITR
variable {σ : Sg} {gq ci gr nc N N' nu : Nat → Nat} {ot : Nat → Nat → Int} {LL LL' : Nat → List Nat} {pl x b o i G : Nat} {A B : List Nat} {v r : Option Nat}
theorem it_cons (hv : v = B.head?) (e : v = some b) : ∃ B', B = b :: B' := by
  rw [e] at hv
  cases B with
  | nil => cases hv
  | cons d T => cases hv; exact ⟨T, rfl⟩
theorem it_step (h : IV σ pl gq ci gr nc ot LL N nu) (kx : kO σ x 1) (h1 : LL x = A ++ B ∧ v = B.head?) (e : v = some b) : ∃ A' B', LL x = A' ++ B' ∧ gP σ b 1 = B'.head? ∧ B'.length + 1 = B.length ∧ A'.getLast? = some b := by
  obtain ⟨B', e'⟩ := it_cons h1.2 e
  subst e'
  exact ⟨A ++ [b], B', by rw [h1.1]; simp, h.next kx h1.1, by simp, by simp⟩
theorem it_mem (h1 : LL x = A ++ B ∧ v = B.head?) (e : v = some b) : b ∈ LL x := by
  obtain ⟨B', e'⟩ := it_cons h1.2 e
  rw [h1.1, e']; exact List.mem_append_right _ List.mem_cons_self
theorem cut_r {N0 : Nat} {B' : List Nat} {D : Nat → Prop} (e : B = b :: B') (p : (B = [] ∧ r = none ∧ LL' = LL ∧ N' = N) ∨ (∃ c T, B = c :: T ∧ r = some c ∧ LL' = up1 LL x (A ++ T) ∧ D c ∧ (∀ y, c ∉ LL' y) ∧ N' G + 1 = N G ∧ N' 1 = N 1 + 1 ∧ N' 0 = N 0 ∧ N' 2 = N 2)) : r = some b ∧ LL' = up1 LL x (A ++ B') ∧ (∀ y, b ∉ LL' y) ∧ N' G + 1 = N G ∧ N' 1 = N 1 + 1 := by
  subst e
  rcases p with q | ⟨c, T, q1, q2, q3, _, q5, q6, q7, _⟩
  · cases q.1
  · cases q1; exact ⟨q2, q3, q5, q6, q7⟩
theorem take_r {c : Nat} {T : List Nat} {D : Nat → Prop} (e : LL x = c :: T) (p : (LL x = [] ∧ r = none ∧ LL' = LL ∧ N' = N) ∨ (∃ c T, LL x = c :: T ∧ r = some c ∧ LL' = up1 LL x T ∧ D c ∧ (∀ y, c ∉ LL' y) ∧ N' G + 1 = N G ∧ N' 1 = N 1 + 1 ∧ N' 0 = N 0 ∧ N' 2 = N 2)) : r = some c ∧ LL' = up1 LL x T ∧ (∀ y, c ∉ LL' y) ∧ N' G + 1 = N G ∧ N' 1 = N 1 + 1 := by
  rcases p with q | ⟨c', T', q1, q2, q3, _, q5, q6, q7, _⟩
  · rw [q.1] at e; cases e
  · rw [q1] at e; cases e; exact ⟨q2, q3, q5, q6, q7⟩
theorem hd_cons (h : IV σ pl gq ci gr nc ot LL N nu) (kx : kO σ x 1) (e : gP σ x 0 = some b) : ∃ T, LL x = b :: T := by
  rw [h.first kx] at e
  cases q : LL x with
  | nil => rw [q] at e; cases e
  | cons d T => rw [q] at e; cases e; exact ⟨T, rfl⟩
theorem IV.vc4 (h : IV σ pl gq ci gr nc ot LL N nu) (ho : kO σ o 5) (hq : gq o = 16 * nc 0 + i) (hi : i < nc 1) (hk : ot i 6 = 4 ∨ ot i 6 = 5) : gI σ o 4 ≤ 4 := by
  rw [h.op ho hq hi 4 (by decide)]; exact (h.opok hi).2.2.2.2.2.2.2.1 hk
theorem up1_at {α : Type} {f : Nat → α} {y : Nat} {w : α} : up1 f y w y = w := up1_s _ _ _
end ITR
/-! times -/
theorem tb_add {M : Nat} {x : Int64} {m : Int} (hx : -(M : Int) + 2000 ≤ x.toInt ∧ x.toInt + 2000 ≤ (M : Int)) (hM : M ≤ 2305843009213693952) (hm : -2000 ≤ m ∧ m ≤ 2000) : tb M (x + Int64.ofInt m) := by
  have e : (x + Int64.ofInt m).toInt = x.toInt + m := by
    rw [Int64.toInt_add, Int64.toInt_ofInt_of_le (by omega) (by omega)]
    exact Int.bmod_eq_of_le (by omega) (by omega)
  unfold tb; rw [e]; omega
theorem of_ne0 {r : Int} (h : 1 ≤ r ∧ r ≤ 1000) : Int64.ofInt r ≠ 0 := fun q => by
  have := congrArg Int64.toInt q
  rw [Int64.toInt_ofInt_of_le (by omega) (by omega)] at this
  have z : (0 : Int64).toInt = 0 := rfl
  omega
theorem of_int {r : Int} (h : -2000 ≤ r ∧ r ≤ 2000) : (Int64.ofInt r).toInt = r := Int64.toInt_ofInt_of_le (by omega) (by omega)
theorem ad_int {x y : Int64} (hx : -4611686018427387904 ≤ x.toInt ∧ x.toInt ≤ 4611686018427387904) (hy : -10000 ≤ y.toInt ∧ y.toInt ≤ 10000) : (x + y).toInt = x.toInt + y.toInt := by
  rw [Int64.toInt_add]; exact Int.bmod_eq_of_le (by omega) (by omega)
theorem sb_int {x y : Int64} (hx : -4611686018427387904 ≤ x.toInt ∧ x.toInt ≤ 4611686018427387904) (hy : -10000 ≤ y.toInt ∧ y.toInt ≤ 10000) : (x - y).toInt = x.toInt - y.toInt := by
  rw [Int64.toInt_sub]; exact Int.bmod_eq_of_le (by omega) (by omega)
/-- rounding down to a step, or one step lower -/
theorem fdm {x r : Int64} {s : Int} (hx : -2305843009213700000 ≤ x.toInt ∧ x.toInt ≤ 2305843009213700000) (hs : 1 ≤ s ∧ s ≤ 1000) (hr : r = x / Int64.ofInt s ∨ r = x / Int64.ofInt s - 1) : x.toInt - 2000 ≤ (r * Int64.ofInt s).toInt ∧ (r * Int64.ofInt s).toInt ≤ x.toInt + 1000 := by
  have es : (Int64.ofInt s).toInt = s := of_int (by omega)
  have a1 : x.toInt = s * x.toInt.tdiv s + x.toInt.tmod s := (Int.mul_tdiv_add_tmod x.toInt s).symm
  have a2 : x.toInt.tmod s < s := Int.tmod_lt_of_pos _ (by omega)
  have a3 : -s < x.toInt.tmod s := by
    have := Int.lt_tmod_of_pos x.toInt (b := s) (by omega); omega
  have hq : -2305843009213701000 ≤ x.toInt.tdiv s ∧ x.toInt.tdiv s ≤ 2305843009213701000 := by
    constructor
    · by_cases c : 0 ≤ x.toInt.tdiv s
      · omega
      · have : s * x.toInt.tdiv s ≤ x.toInt.tdiv s := by
          have := Int.mul_le_mul_of_nonpos_right (a := s) (b := 1) (c := x.toInt.tdiv s) (by omega) (by omega)
          omega
        omega
    · by_cases c : x.toInt.tdiv s ≤ 0
      · omega
      · have : x.toInt.tdiv s ≤ s * x.toInt.tdiv s := by
          have := Int.mul_le_mul_of_nonneg_right (a := 1) (b := s) (c := x.toInt.tdiv s) (by omega) (by omega)
          omega
        omega
  have ed : (x / Int64.ofInt s).toInt = x.toInt.tdiv s := by
    rw [Int64.toInt_div, es]; exact Int.bmod_eq_of_le (by omega) (by omega)
  have er : r.toInt = x.toInt.tdiv s ∨ r.toInt = x.toInt.tdiv s - 1 := by
    rcases hr with e | e
    · left; rw [e, ed]
    · right
      have o : (1 : Int64).toInt = 1 := rfl
      rw [e, sb_int (by rw [ed]; omega) (by omega), ed, o]
  have em : ∀ q : Int, r.toInt = q → -4611686018427387904 ≤ q * s → q * s ≤ 4611686018427387904 → (r * Int64.ofInt s).toInt = q * s := fun q hq2 b1 b2 => by
    rw [Int64.toInt_mul, es, hq2]; exact Int.bmod_eq_of_le (by omega) (by omega)
  have c1 : x.toInt.tdiv s * s = s * x.toInt.tdiv s := Int.mul_comm _ _
  have c2 : (x.toInt.tdiv s - 1) * s = s * x.toInt.tdiv s - s := by rw [Int.sub_mul, c1]; omega
  rcases er with e | e
  · rw [em _ e (by omega) (by omega)]; omega
  · rw [em _ e (by omega) (by omega)]; omega
section RAI
variable {σ : Sg} {gq ci gr nc N N1 N9 nu : Nat → Nat} {ot : Nat → Nat → Int} {LL LL1 : Nat → List Nat} {pl : Nat}
/-- times may be greater -/
theorem IV.raise (h : IV σ pl gq ci gr nc ot LL N nu) (m : Nat) (hm : N 3 + m ≤ 2305843009213693952) : ∃ N9, IV σ pl gq ci gr nc ot LL N9 nu ∧ (∀ g, g ≠ 3 → N9 g = N g) ∧ N9 3 = N 3 + m := by
  obtain ⟨i1, i2, i3, i4, i5, i6, i7, i8⟩ := h
  have u : ∀ k, k ≠ 3 → up1 N 3 (N 3 + m) k = N k := fun k q => up1_n _ _ q
  have u3 : up1 N 3 (N 3 + m) 3 = N 3 + m := up1_s _ _ _
  refine ⟨up1 N 3 (N 3 + m), ⟨i1, i2, i3.less (fun g hg => by rw [u g (by omega)]; exact Nat.le_refl _) (u 5 (by decide)), ?_, i5, ?_, ⟨i7.1, ?_⟩, i8⟩, u, u3⟩
  · obtain ⟨a1, a2, a3, a4, a5, a6, a7, a8⟩ := i4
    exact ⟨a1, a2, fun g hg => by rw [u g (by omega)]; exact a3 g hg, a4, a5, a6, a7, by rw [u 2 (by decide), u 1 (by decide)]; exact a8⟩
  · unfold SU at i6 ⊢; rw [u 2 (by decide)]; exact i6
  · obtain ⟨a1, a2, a3, a4, a5⟩ := i7.2
    have w : ∀ x, tb (N 3) x → tb (up1 N 3 (N 3 + m) 3) x := fun x hx => by rw [u3]; unfold tb at hx ⊢; omega
    exact ⟨fun c hc => ⟨w _ (a1 c hc).1, w _ (a1 c hc).2⟩, fun c hc => w _ (a2 c hc), fun t ht => w _ (a3 t ht), a4, by rw [u3]; omega⟩
theorem Hn.n3 {D G E : List Nat} (h : Hn D G E gq LL LL1 N N1) (hN : ∀ g, g ≠ 3 → N9 g = N1 g) (h3 : 3 ∈ G) : Hn D G E gq LL LL1 N N9 := ⟨h.1, h.2.1, fun g q a b c => by rw [hN g (fun w => q (by rw [w]; exact h3))]; exact h.2.2 g q a b c⟩
end RAI
theorem grp_b (x : UInt64) : 0 ≤ ((x >>> ((i32 60).toInt64.toUInt64 &&& Int64.toUInt64 63)).toInt64).toInt32.toInt ∧ ((x >>> ((i32 60).toInt64.toUInt64 &&& Int64.toUInt64 63)).toInt64).toInt32.toInt ≤ 15 := by
  have e : ((i32 60).toInt64.toUInt64 &&& Int64.toUInt64 63) = 60 := by decide
  rw [e]
  have h1 : (x >>> 60).toNat < 16 := by
    rw [UInt64.toNat_shiftRight]
    have := x.toNat_lt
    have h60 : (60 : UInt64).toNat % 64 = 60 := by decide
    rw [h60, Nat.shiftRight_eq_div_pow]
    omega
  generalize x >>> 60 = y at h1 ⊢
  have h2 : y.toInt64.toInt = (y.toNat : Int) := by
    show y.toBitVec.toInt = _
    rw [BitVec.toInt_eq_toNat_of_lt (by show 2 * y.toNat < _; omega)]
    rfl
  have h3 : y.toInt64.toInt32.toInt = (y.toNat : Int) := by
    rw [Int64.toInt_toInt32, h2]
    exact Int.bmod_eq_of_le (by omega) (by omega)
  rw [h3]; omega

theorem NU.nx {nu nu1 : Nat → Nat} (h : NU nu nu1) : NX nu nu1 := ⟨fun k q => h.1 k (fun w => q (by simp only [List.mem_cons, List.mem_nil_iff, or_false] at w ⊢; omega)), h.2, by rw [h.1 5 (by decide)]; omega⟩
theorem NX.tr {nu nu1 nu2 : Nat → Nat} (h : NX nu nu1) (h2 : NU nu1 nu2) : NX nu nu2 := ⟨fun k q => (h2.1 k (fun w => q (by simp only [List.mem_cons, List.mem_nil_iff, or_false] at w ⊢; omega))).trans (h.1 k q), Nat.le_trans h.2.1 h2.2, by rw [h2.1 5 (by decide)]; exact h.2.2⟩
theorem turn_b (x : UInt64) {n : Int} (hn : 1 ≤ n ∧ n ≤ 64) : 0 ≤ (((x >>> ((i32 33).toInt64.toUInt64 &&& Int64.toUInt64 63)).toInt64 - (x >>> ((i32 33).toInt64.toUInt64 &&& Int64.toUInt64 63)).toInt64 / (Int64.ofInt n) * (Int64.ofInt n))).toInt32.toInt ∧ (((x >>> ((i32 33).toInt64.toUInt64 &&& Int64.toUInt64 63)).toInt64 - (x >>> ((i32 33).toInt64.toUInt64 &&& Int64.toUInt64 63)).toInt64 / (Int64.ofInt n) * (Int64.ofInt n))).toInt32.toInt < n := by
  have e : ((i32 33).toInt64.toUInt64 &&& Int64.toUInt64 63) = 33 := by decide
  rw [e]
  have h1 : (x >>> 33).toNat < 2147483648 := by
    rw [UInt64.toNat_shiftRight]
    have := x.toNat_lt
    have h33 : (33 : UInt64).toNat % 64 = 33 := by decide
    rw [h33, Nat.shiftRight_eq_div_pow]
    omega
  generalize x >>> 33 = y at h1 ⊢
  have h2 : y.toInt64.toInt = (y.toNat : Int) := by
    show y.toBitVec.toInt = _
    rw [BitVec.toInt_eq_toNat_of_lt (by show 2 * y.toNat < _; omega)]
    rfl
  have en : (Int64.ofInt n).toInt = n := of_int (by omega)
  have q0 : 0 ≤ (y.toNat : Int) / n ∧ (y.toNat : Int) / n ≤ y.toNat := ⟨Int.ediv_nonneg (by omega) (by omega), Int.ediv_le_self _ (by omega)⟩
  have hq : (y.toInt64 / Int64.ofInt n).toInt = (y.toNat : Int) / n := by
    rw [Int64.toInt_div, h2, en, Int.tdiv_eq_ediv_of_nonneg (by omega)]
    exact Int.bmod_eq_of_le (by omega) (by omega)
  have m0 : (y.toNat : Int) % n = y.toNat - (y.toNat : Int) / n * n := by have := Int.emod_add_mul_ediv (y.toNat : Int) n; rw [Int.mul_comm] at this; omega
  have m1 : 0 ≤ (y.toNat : Int) % n := Int.emod_nonneg _ (by omega)
  have m2 : (y.toNat : Int) % n < n := Int.emod_lt_of_pos _ (by omega)
  have m3 : 0 ≤ (y.toNat : Int) / n * n := Int.mul_nonneg q0.1 (by omega)
  have hm : (y.toInt64 / Int64.ofInt n * Int64.ofInt n).toInt = (y.toNat : Int) / n * n := by
    rw [Int64.toInt_mul, hq, en]; exact Int.bmod_eq_of_le (by omega) (by omega)
  have hs : (y.toInt64 - y.toInt64 / Int64.ofInt n * Int64.ofInt n).toInt = (y.toNat : Int) % n := by
    rw [Int64.toInt_sub, h2, hm, m0]; exact Int.bmod_eq_of_le (by omega) (by omega)
  have hf : (y.toInt64 - y.toInt64 / Int64.ofInt n * Int64.ofInt n).toInt32.toInt = (y.toNat : Int) % n := by
    rw [Int64.toInt_toInt32, hs]; exact Int.bmod_eq_of_le (by omega) (by omega)
  rw [hf]; omega

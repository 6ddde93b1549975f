/-! comparisons with 0; longs -/
theorem z_eq {x : Int} (hx : rng x) : i32 x = 0 ↔ x = 0 := i32_eq (y := 0) hx (by unfold rng; omega)
theorem z_lt {x : Int} (hx : rng x) : i32 x < 0 ↔ x < 0 := i32_lt (y := 0) hx (by unfold rng; omega)
theorem z_le {x : Int} (hx : rng x) : i32 x ≤ 0 ↔ x ≤ 0 := i32_le (y := 0) hx (by unfold rng; omega)
theorem z_ge {x : Int} (hx : rng x) : 0 ≤ i32 x ↔ 0 ≤ x := i32_le (x := 0) (by unfold rng; omega) hx
theorem z_gt {x : Int} (hx : rng x) : 0 < i32 x ↔ 0 < x := i32_lt (x := 0) (by unfold rng; omega) hx
theorem rng_toInt (v : Int32) : rng v.toInt := ⟨by have := v.le_toInt; omega, by have := v.toInt_lt; omega⟩
theorem i32_i64 {x : Int} (hx : rng x) : (i32 x).toInt64 = Int64.ofInt x := by
  apply Int64.toInt_inj.mp
  rw [Int32.toInt_toInt64, i32_toInt hx, Int64.toInt_ofInt_of_le (by have := hx.1; omega) (by have := hx.2; omega)]
theorem i32_ne0 {x : Int} (hx : rng x) (h : x ≠ 0) : ¬ i32 x = 0 := fun q => h ((z_eq hx).mp q)

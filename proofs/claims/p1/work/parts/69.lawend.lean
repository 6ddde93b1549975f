/-- the keywords' bytes, in what the Statement gives of the start -/
theorem fl_L {a b w : Cond} (h : w ∈ flatC a) : w ∈ flatC (.and a b) := List.mem_append_left _ h
theorem fl_R {a b w : Cond} (h : w ∈ flatC b) : w ∈ flatC (.and a b) := List.mem_append_right _ h
theorem fl_0 {w : Cond} (h : flatC w = [w]) : w ∈ flatC w := by rw [h]; exact List.mem_singleton.mpr rfl
abbrev xs_C (j : Nat) : Cond := Cond.eq (.elem (.field (.string "StreamHouseModel" 967) "java/lang/String" "value" "[B") (.int (Int32.ofNat j))) (.int (xs_t.getD j 0))
theorem xs_e0 : xs_C 0 ∈ flatC (Jvm.Cond.and given_1 narrow_1) := fl_R (fl_L (fl_R (fl_L (fl_L (fl_R (fl_R (fl_R (fl_R (fl_L (fl_0 rfl))))))))))
theorem xs_e1 : xs_C 1 ∈ flatC (Jvm.Cond.and given_1 narrow_1) := fl_R (fl_L (fl_R (fl_L (fl_L (fl_R (fl_R (fl_R (fl_R (fl_R (fl_0 rfl))))))))))
theorem xs_e2 : xs_C 2 ∈ flatC (Jvm.Cond.and given_1 narrow_1) := fl_R (fl_L (fl_R (fl_L (fl_R (fl_L (fl_L (fl_L (fl_L (fl_L (fl_0 rfl))))))))))
theorem xs_e3 : xs_C 3 ∈ flatC (Jvm.Cond.and given_1 narrow_1) := fl_R (fl_L (fl_R (fl_L (fl_R (fl_L (fl_L (fl_L (fl_L (fl_R (fl_0 rfl))))))))))
theorem xs_e4 : xs_C 4 ∈ flatC (Jvm.Cond.and given_1 narrow_1) := fl_R (fl_L (fl_R (fl_L (fl_R (fl_L (fl_L (fl_L (fl_R (fl_L (fl_0 rfl))))))))))
theorem xs_e5 : xs_C 5 ∈ flatC (Jvm.Cond.and given_1 narrow_1) := fl_R (fl_L (fl_R (fl_L (fl_R (fl_L (fl_L (fl_L (fl_R (fl_R (fl_0 rfl))))))))))
theorem xs_e6 : xs_C 6 ∈ flatC (Jvm.Cond.and given_1 narrow_1) := fl_R (fl_L (fl_R (fl_L (fl_R (fl_L (fl_L (fl_R (fl_L (fl_L (fl_0 rfl))))))))))
theorem xs_e7 : xs_C 7 ∈ flatC (Jvm.Cond.and given_1 narrow_1) := fl_R (fl_L (fl_R (fl_L (fl_R (fl_L (fl_L (fl_R (fl_L (fl_R (fl_0 rfl))))))))))
theorem xs_e8 : xs_C 8 ∈ flatC (Jvm.Cond.and given_1 narrow_1) := fl_R (fl_L (fl_R (fl_L (fl_R (fl_L (fl_L (fl_R (fl_R (fl_L (fl_0 rfl))))))))))
theorem xs_e9 : xs_C 9 ∈ flatC (Jvm.Cond.and given_1 narrow_1) := fl_R (fl_L (fl_R (fl_L (fl_R (fl_L (fl_L (fl_R (fl_R (fl_R (fl_0 rfl))))))))))
theorem xs_e10 : xs_C 10 ∈ flatC (Jvm.Cond.and given_1 narrow_1) := fl_R (fl_L (fl_R (fl_L (fl_R (fl_L (fl_R (fl_L (fl_L (fl_L (fl_0 rfl))))))))))
theorem xs_e11 : xs_C 11 ∈ flatC (Jvm.Cond.and given_1 narrow_1) := fl_R (fl_L (fl_R (fl_L (fl_R (fl_L (fl_R (fl_L (fl_L (fl_R (fl_0 rfl))))))))))
theorem xs_e12 : xs_C 12 ∈ flatC (Jvm.Cond.and given_1 narrow_1) := fl_R (fl_L (fl_R (fl_L (fl_R (fl_L (fl_R (fl_L (fl_R (fl_L (fl_0 rfl))))))))))
theorem xs_e13 : xs_C 13 ∈ flatC (Jvm.Cond.and given_1 narrow_1) := fl_R (fl_L (fl_R (fl_L (fl_R (fl_L (fl_R (fl_L (fl_R (fl_R (fl_0 rfl))))))))))
theorem xs_e14 : xs_C 14 ∈ flatC (Jvm.Cond.and given_1 narrow_1) := fl_R (fl_L (fl_R (fl_L (fl_R (fl_L (fl_R (fl_R (fl_L (fl_L (fl_0 rfl))))))))))
theorem xs_e15 : xs_C 15 ∈ flatC (Jvm.Cond.and given_1 narrow_1) := fl_R (fl_L (fl_R (fl_L (fl_R (fl_L (fl_R (fl_R (fl_L (fl_R (fl_0 rfl))))))))))
theorem xs_e16 : xs_C 16 ∈ flatC (Jvm.Cond.and given_1 narrow_1) := fl_R (fl_L (fl_R (fl_L (fl_R (fl_L (fl_R (fl_R (fl_R (fl_L (fl_0 rfl))))))))))
theorem xs_e17 : xs_C 17 ∈ flatC (Jvm.Cond.and given_1 narrow_1) := fl_R (fl_L (fl_R (fl_L (fl_R (fl_L (fl_R (fl_R (fl_R (fl_R (fl_0 rfl))))))))))
theorem xs_e18 : xs_C 18 ∈ flatC (Jvm.Cond.and given_1 narrow_1) := fl_R (fl_L (fl_R (fl_L (fl_R (fl_R (fl_L (fl_L (fl_L (fl_L (fl_0 rfl))))))))))
theorem xs_e19 : xs_C 19 ∈ flatC (Jvm.Cond.and given_1 narrow_1) := fl_R (fl_L (fl_R (fl_L (fl_R (fl_R (fl_L (fl_L (fl_L (fl_R (fl_0 rfl))))))))))
theorem xs_e20 : xs_C 20 ∈ flatC (Jvm.Cond.and given_1 narrow_1) := fl_R (fl_L (fl_R (fl_L (fl_R (fl_R (fl_L (fl_L (fl_R (fl_L (fl_0 rfl))))))))))
theorem xs_e21 : xs_C 21 ∈ flatC (Jvm.Cond.and given_1 narrow_1) := fl_R (fl_L (fl_R (fl_L (fl_R (fl_R (fl_L (fl_L (fl_R (fl_R (fl_0 rfl))))))))))
theorem xs_e22 : xs_C 22 ∈ flatC (Jvm.Cond.and given_1 narrow_1) := fl_R (fl_L (fl_R (fl_L (fl_R (fl_R (fl_L (fl_R (fl_L (fl_L (fl_0 rfl))))))))))
theorem xs_e23 : xs_C 23 ∈ flatC (Jvm.Cond.and given_1 narrow_1) := fl_R (fl_L (fl_R (fl_L (fl_R (fl_R (fl_L (fl_R (fl_L (fl_R (fl_0 rfl))))))))))
theorem xs_e24 : xs_C 24 ∈ flatC (Jvm.Cond.and given_1 narrow_1) := fl_R (fl_L (fl_R (fl_L (fl_R (fl_R (fl_L (fl_R (fl_R (fl_L (fl_0 rfl))))))))))
theorem xs_e25 : xs_C 25 ∈ flatC (Jvm.Cond.and given_1 narrow_1) := fl_R (fl_L (fl_R (fl_L (fl_R (fl_R (fl_L (fl_R (fl_R (fl_R (fl_0 rfl))))))))))
theorem xs_e26 : xs_C 26 ∈ flatC (Jvm.Cond.and given_1 narrow_1) := fl_R (fl_L (fl_R (fl_L (fl_R (fl_R (fl_R (fl_L (fl_L (fl_L (fl_0 rfl))))))))))
theorem xs_e27 : xs_C 27 ∈ flatC (Jvm.Cond.and given_1 narrow_1) := fl_R (fl_L (fl_R (fl_L (fl_R (fl_R (fl_R (fl_L (fl_L (fl_R (fl_0 rfl))))))))))
theorem xs_e28 : xs_C 28 ∈ flatC (Jvm.Cond.and given_1 narrow_1) := fl_R (fl_L (fl_R (fl_L (fl_R (fl_R (fl_R (fl_L (fl_R (fl_L (fl_0 rfl))))))))))
theorem xs_e29 : xs_C 29 ∈ flatC (Jvm.Cond.and given_1 narrow_1) := fl_R (fl_L (fl_R (fl_L (fl_R (fl_R (fl_R (fl_L (fl_R (fl_R (fl_0 rfl))))))))))
theorem xs_e30 : xs_C 30 ∈ flatC (Jvm.Cond.and given_1 narrow_1) := fl_R (fl_L (fl_R (fl_L (fl_R (fl_R (fl_R (fl_R (fl_L (fl_L (fl_0 rfl))))))))))
theorem xs_e31 : xs_C 31 ∈ flatC (Jvm.Cond.and given_1 narrow_1) := fl_R (fl_L (fl_R (fl_L (fl_R (fl_R (fl_R (fl_R (fl_L (fl_R (fl_0 rfl))))))))))
theorem xs_e32 : xs_C 32 ∈ flatC (Jvm.Cond.and given_1 narrow_1) := fl_R (fl_L (fl_R (fl_L (fl_R (fl_R (fl_R (fl_R (fl_R (fl_L (fl_0 rfl))))))))))
theorem xs_e33 : xs_C 33 ∈ flatC (Jvm.Cond.and given_1 narrow_1) := fl_R (fl_L (fl_R (fl_L (fl_R (fl_R (fl_R (fl_R (fl_R (fl_R (fl_0 rfl))))))))))
theorem xs_e34 : xs_C 34 ∈ flatC (Jvm.Cond.and given_1 narrow_1) := fl_R (fl_L (fl_R (fl_R (fl_L (fl_L (fl_L (fl_L (fl_L (fl_L (fl_0 rfl))))))))))
theorem xs_e35 : xs_C 35 ∈ flatC (Jvm.Cond.and given_1 narrow_1) := fl_R (fl_L (fl_R (fl_R (fl_L (fl_L (fl_L (fl_L (fl_L (fl_R (fl_0 rfl))))))))))
theorem xs_e36 : xs_C 36 ∈ flatC (Jvm.Cond.and given_1 narrow_1) := fl_R (fl_L (fl_R (fl_R (fl_L (fl_L (fl_L (fl_L (fl_R (fl_L (fl_0 rfl))))))))))
theorem xs_e37 : xs_C 37 ∈ flatC (Jvm.Cond.and given_1 narrow_1) := fl_R (fl_L (fl_R (fl_R (fl_L (fl_L (fl_L (fl_L (fl_R (fl_R (fl_0 rfl))))))))))
theorem xs_e38 : xs_C 38 ∈ flatC (Jvm.Cond.and given_1 narrow_1) := fl_R (fl_L (fl_R (fl_R (fl_L (fl_L (fl_L (fl_R (fl_L (fl_L (fl_0 rfl))))))))))
theorem xs_e39 : xs_C 39 ∈ flatC (Jvm.Cond.and given_1 narrow_1) := fl_R (fl_L (fl_R (fl_R (fl_L (fl_L (fl_L (fl_R (fl_L (fl_R (fl_0 rfl))))))))))
theorem xs_e40 : xs_C 40 ∈ flatC (Jvm.Cond.and given_1 narrow_1) := fl_R (fl_L (fl_R (fl_R (fl_L (fl_L (fl_L (fl_R (fl_R (fl_L (fl_0 rfl))))))))))
theorem xs_e41 : xs_C 41 ∈ flatC (Jvm.Cond.and given_1 narrow_1) := fl_R (fl_L (fl_R (fl_R (fl_L (fl_L (fl_L (fl_R (fl_R (fl_R (fl_0 rfl))))))))))
theorem xs_e42 : xs_C 42 ∈ flatC (Jvm.Cond.and given_1 narrow_1) := fl_R (fl_L (fl_R (fl_R (fl_L (fl_L (fl_R (fl_L (fl_L (fl_L (fl_0 rfl))))))))))
theorem xs_e43 : xs_C 43 ∈ flatC (Jvm.Cond.and given_1 narrow_1) := fl_R (fl_L (fl_R (fl_R (fl_L (fl_L (fl_R (fl_L (fl_L (fl_R (fl_0 rfl))))))))))
theorem xs_e44 : xs_C 44 ∈ flatC (Jvm.Cond.and given_1 narrow_1) := fl_R (fl_L (fl_R (fl_R (fl_L (fl_L (fl_R (fl_L (fl_R (fl_L (fl_0 rfl))))))))))
theorem xs_e45 : xs_C 45 ∈ flatC (Jvm.Cond.and given_1 narrow_1) := fl_R (fl_L (fl_R (fl_R (fl_L (fl_L (fl_R (fl_L (fl_R (fl_R (fl_0 rfl))))))))))
theorem xs_e46 : xs_C 46 ∈ flatC (Jvm.Cond.and given_1 narrow_1) := fl_R (fl_L (fl_R (fl_R (fl_L (fl_L (fl_R (fl_R (fl_L (fl_L (fl_0 rfl))))))))))
theorem xs_e47 : xs_C 47 ∈ flatC (Jvm.Cond.and given_1 narrow_1) := fl_R (fl_L (fl_R (fl_R (fl_L (fl_L (fl_R (fl_R (fl_L (fl_R (fl_0 rfl))))))))))
theorem xs_e48 : xs_C 48 ∈ flatC (Jvm.Cond.and given_1 narrow_1) := fl_R (fl_L (fl_R (fl_R (fl_L (fl_L (fl_R (fl_R (fl_R (fl_L (fl_0 rfl))))))))))
theorem xs_e49 : xs_C 49 ∈ flatC (Jvm.Cond.and given_1 narrow_1) := fl_R (fl_L (fl_R (fl_R (fl_L (fl_L (fl_R (fl_R (fl_R (fl_R (fl_0 rfl))))))))))
theorem xs_e50 : xs_C 50 ∈ flatC (Jvm.Cond.and given_1 narrow_1) := fl_R (fl_L (fl_R (fl_R (fl_L (fl_R (fl_L (fl_L (fl_L (fl_L (fl_0 rfl))))))))))
theorem xs_e51 : xs_C 51 ∈ flatC (Jvm.Cond.and given_1 narrow_1) := fl_R (fl_L (fl_R (fl_R (fl_L (fl_R (fl_L (fl_L (fl_L (fl_R (fl_0 rfl))))))))))
theorem xs_e52 : xs_C 52 ∈ flatC (Jvm.Cond.and given_1 narrow_1) := fl_R (fl_L (fl_R (fl_R (fl_L (fl_R (fl_L (fl_L (fl_R (fl_L (fl_0 rfl))))))))))
theorem xs_e53 : xs_C 53 ∈ flatC (Jvm.Cond.and given_1 narrow_1) := fl_R (fl_L (fl_R (fl_R (fl_L (fl_R (fl_L (fl_L (fl_R (fl_R (fl_0 rfl))))))))))
theorem xs_e54 : xs_C 54 ∈ flatC (Jvm.Cond.and given_1 narrow_1) := fl_R (fl_L (fl_R (fl_R (fl_L (fl_R (fl_L (fl_R (fl_L (fl_L (fl_0 rfl))))))))))
theorem xs_e55 : xs_C 55 ∈ flatC (Jvm.Cond.and given_1 narrow_1) := fl_R (fl_L (fl_R (fl_R (fl_L (fl_R (fl_L (fl_R (fl_L (fl_R (fl_0 rfl))))))))))
theorem xs_e56 : xs_C 56 ∈ flatC (Jvm.Cond.and given_1 narrow_1) := fl_R (fl_L (fl_R (fl_R (fl_L (fl_R (fl_L (fl_R (fl_R (fl_L (fl_0 rfl))))))))))
theorem xs_e57 : xs_C 57 ∈ flatC (Jvm.Cond.and given_1 narrow_1) := fl_R (fl_L (fl_R (fl_R (fl_L (fl_R (fl_L (fl_R (fl_R (fl_R (fl_0 rfl))))))))))
theorem xs_e58 : xs_C 58 ∈ flatC (Jvm.Cond.and given_1 narrow_1) := fl_R (fl_L (fl_R (fl_R (fl_L (fl_R (fl_R (fl_L (fl_L (fl_L (fl_0 rfl))))))))))
theorem xs_e59 : xs_C 59 ∈ flatC (Jvm.Cond.and given_1 narrow_1) := fl_R (fl_L (fl_R (fl_R (fl_L (fl_R (fl_R (fl_L (fl_L (fl_R (fl_0 rfl))))))))))
theorem xs_e60 : xs_C 60 ∈ flatC (Jvm.Cond.and given_1 narrow_1) := fl_R (fl_L (fl_R (fl_R (fl_L (fl_R (fl_R (fl_L (fl_R (fl_L (fl_0 rfl))))))))))
theorem xs_e61 : xs_C 61 ∈ flatC (Jvm.Cond.and given_1 narrow_1) := fl_R (fl_L (fl_R (fl_R (fl_L (fl_R (fl_R (fl_L (fl_R (fl_R (fl_0 rfl))))))))))
theorem xs_e62 : xs_C 62 ∈ flatC (Jvm.Cond.and given_1 narrow_1) := fl_R (fl_L (fl_R (fl_R (fl_L (fl_R (fl_R (fl_R (fl_L (fl_L (fl_0 rfl))))))))))
theorem xs_e63 : xs_C 63 ∈ flatC (Jvm.Cond.and given_1 narrow_1) := fl_R (fl_L (fl_R (fl_R (fl_L (fl_R (fl_R (fl_R (fl_L (fl_R (fl_0 rfl))))))))))
theorem xs_e64 : xs_C 64 ∈ flatC (Jvm.Cond.and given_1 narrow_1) := fl_R (fl_L (fl_R (fl_R (fl_L (fl_R (fl_R (fl_R (fl_R (fl_L (fl_0 rfl))))))))))
theorem xs_e65 : xs_C 65 ∈ flatC (Jvm.Cond.and given_1 narrow_1) := fl_R (fl_L (fl_R (fl_R (fl_L (fl_R (fl_R (fl_R (fl_R (fl_R (fl_0 rfl))))))))))
theorem xs_e66 : xs_C 66 ∈ flatC (Jvm.Cond.and given_1 narrow_1) := fl_R (fl_L (fl_R (fl_R (fl_R (fl_L (fl_L (fl_L (fl_L (fl_L (fl_0 rfl))))))))))
theorem xs_e67 : xs_C 67 ∈ flatC (Jvm.Cond.and given_1 narrow_1) := fl_R (fl_L (fl_R (fl_R (fl_R (fl_L (fl_L (fl_L (fl_L (fl_R (fl_0 rfl))))))))))
theorem xs_e68 : xs_C 68 ∈ flatC (Jvm.Cond.and given_1 narrow_1) := fl_R (fl_L (fl_R (fl_R (fl_R (fl_L (fl_L (fl_L (fl_R (fl_L (fl_0 rfl))))))))))
theorem xs_e69 : xs_C 69 ∈ flatC (Jvm.Cond.and given_1 narrow_1) := fl_R (fl_L (fl_R (fl_R (fl_R (fl_L (fl_L (fl_L (fl_R (fl_R (fl_0 rfl))))))))))
theorem xs_e70 : xs_C 70 ∈ flatC (Jvm.Cond.and given_1 narrow_1) := fl_R (fl_L (fl_R (fl_R (fl_R (fl_L (fl_L (fl_R (fl_L (fl_L (fl_0 rfl))))))))))
theorem xs_e71 : xs_C 71 ∈ flatC (Jvm.Cond.and given_1 narrow_1) := fl_R (fl_L (fl_R (fl_R (fl_R (fl_L (fl_L (fl_R (fl_L (fl_R (fl_0 rfl))))))))))
theorem xs_e72 : xs_C 72 ∈ flatC (Jvm.Cond.and given_1 narrow_1) := fl_R (fl_L (fl_R (fl_R (fl_R (fl_L (fl_L (fl_R (fl_R (fl_L (fl_0 rfl))))))))))
theorem xs_e73 : xs_C 73 ∈ flatC (Jvm.Cond.and given_1 narrow_1) := fl_R (fl_L (fl_R (fl_R (fl_R (fl_L (fl_L (fl_R (fl_R (fl_R (fl_0 rfl))))))))))
theorem xs_e74 : xs_C 74 ∈ flatC (Jvm.Cond.and given_1 narrow_1) := fl_R (fl_L (fl_R (fl_R (fl_R (fl_L (fl_R (fl_L (fl_L (fl_L (fl_0 rfl))))))))))
theorem xs_e75 : xs_C 75 ∈ flatC (Jvm.Cond.and given_1 narrow_1) := fl_R (fl_L (fl_R (fl_R (fl_R (fl_L (fl_R (fl_L (fl_L (fl_R (fl_0 rfl))))))))))
theorem xs_e76 : xs_C 76 ∈ flatC (Jvm.Cond.and given_1 narrow_1) := fl_R (fl_L (fl_R (fl_R (fl_R (fl_L (fl_R (fl_L (fl_R (fl_L (fl_0 rfl))))))))))
theorem xs_e77 : xs_C 77 ∈ flatC (Jvm.Cond.and given_1 narrow_1) := fl_R (fl_L (fl_R (fl_R (fl_R (fl_L (fl_R (fl_L (fl_R (fl_R (fl_0 rfl))))))))))
theorem xs_e78 : xs_C 78 ∈ flatC (Jvm.Cond.and given_1 narrow_1) := fl_R (fl_L (fl_R (fl_R (fl_R (fl_L (fl_R (fl_R (fl_L (fl_L (fl_0 rfl))))))))))
theorem xs_e79 : xs_C 79 ∈ flatC (Jvm.Cond.and given_1 narrow_1) := fl_R (fl_L (fl_R (fl_R (fl_R (fl_L (fl_R (fl_R (fl_L (fl_R (fl_0 rfl))))))))))
theorem xs_e80 : xs_C 80 ∈ flatC (Jvm.Cond.and given_1 narrow_1) := fl_R (fl_L (fl_R (fl_R (fl_R (fl_L (fl_R (fl_R (fl_R (fl_L (fl_0 rfl))))))))))
theorem xs_e81 : xs_C 81 ∈ flatC (Jvm.Cond.and given_1 narrow_1) := fl_R (fl_L (fl_R (fl_R (fl_R (fl_L (fl_R (fl_R (fl_R (fl_R (fl_0 rfl))))))))))
theorem xs_e82 : xs_C 82 ∈ flatC (Jvm.Cond.and given_1 narrow_1) := fl_R (fl_L (fl_R (fl_R (fl_R (fl_R (fl_L (fl_L (fl_L (fl_L (fl_0 rfl))))))))))
theorem xs_e83 : xs_C 83 ∈ flatC (Jvm.Cond.and given_1 narrow_1) := fl_R (fl_L (fl_R (fl_R (fl_R (fl_R (fl_L (fl_L (fl_L (fl_R (fl_0 rfl))))))))))
theorem xs_e84 : xs_C 84 ∈ flatC (Jvm.Cond.and given_1 narrow_1) := fl_R (fl_L (fl_R (fl_R (fl_R (fl_R (fl_L (fl_L (fl_R (fl_L (fl_0 rfl))))))))))
theorem xs_e85 : xs_C 85 ∈ flatC (Jvm.Cond.and given_1 narrow_1) := fl_R (fl_L (fl_R (fl_R (fl_R (fl_R (fl_L (fl_L (fl_R (fl_R (fl_0 rfl))))))))))
theorem xs_e86 : xs_C 86 ∈ flatC (Jvm.Cond.and given_1 narrow_1) := fl_R (fl_L (fl_R (fl_R (fl_R (fl_R (fl_L (fl_R (fl_L (fl_L (fl_0 rfl))))))))))
theorem xs_e87 : xs_C 87 ∈ flatC (Jvm.Cond.and given_1 narrow_1) := fl_R (fl_L (fl_R (fl_R (fl_R (fl_R (fl_L (fl_R (fl_L (fl_R (fl_0 rfl))))))))))
theorem xs_e88 : xs_C 88 ∈ flatC (Jvm.Cond.and given_1 narrow_1) := fl_R (fl_L (fl_R (fl_R (fl_R (fl_R (fl_L (fl_R (fl_R (fl_L (fl_0 rfl))))))))))
theorem xs_e89 : xs_C 89 ∈ flatC (Jvm.Cond.and given_1 narrow_1) := fl_R (fl_L (fl_R (fl_R (fl_R (fl_R (fl_L (fl_R (fl_R (fl_R (fl_0 rfl))))))))))
theorem xs_e90 : xs_C 90 ∈ flatC (Jvm.Cond.and given_1 narrow_1) := fl_R (fl_L (fl_R (fl_R (fl_R (fl_R (fl_R (fl_L (fl_L (fl_L (fl_0 rfl))))))))))
theorem xs_e91 : xs_C 91 ∈ flatC (Jvm.Cond.and given_1 narrow_1) := fl_R (fl_L (fl_R (fl_R (fl_R (fl_R (fl_R (fl_L (fl_L (fl_R (fl_0 rfl))))))))))
theorem xs_e92 : xs_C 92 ∈ flatC (Jvm.Cond.and given_1 narrow_1) := fl_R (fl_L (fl_R (fl_R (fl_R (fl_R (fl_R (fl_L (fl_R (fl_L (fl_0 rfl))))))))))
theorem xs_e93 : xs_C 93 ∈ flatC (Jvm.Cond.and given_1 narrow_1) := fl_R (fl_L (fl_R (fl_R (fl_R (fl_R (fl_R (fl_L (fl_R (fl_R (fl_0 rfl))))))))))
theorem xs_e94 : xs_C 94 ∈ flatC (Jvm.Cond.and given_1 narrow_1) := fl_R (fl_L (fl_R (fl_R (fl_R (fl_R (fl_R (fl_R (fl_L (fl_L (fl_0 rfl))))))))))
theorem xs_e95 : xs_C 95 ∈ flatC (Jvm.Cond.and given_1 narrow_1) := fl_R (fl_L (fl_R (fl_R (fl_R (fl_R (fl_R (fl_R (fl_L (fl_R (fl_0 rfl))))))))))
theorem xs_e96 : xs_C 96 ∈ flatC (Jvm.Cond.and given_1 narrow_1) := fl_R (fl_L (fl_R (fl_R (fl_R (fl_R (fl_R (fl_R (fl_R (fl_L (fl_0 rfl))))))))))
theorem xs_e97 : xs_C 97 ∈ flatC (Jvm.Cond.and given_1 narrow_1) := fl_R (fl_L (fl_R (fl_R (fl_R (fl_R (fl_R (fl_R (fl_R (fl_R (fl_L (fl_0 rfl)))))))))))
theorem xs_e98 : xs_C 98 ∈ flatC (Jvm.Cond.and given_1 narrow_1) := fl_R (fl_L (fl_R (fl_R (fl_R (fl_R (fl_R (fl_R (fl_R (fl_R (fl_R (fl_0 rfl)))))))))))
theorem xs_e99 : xs_C 99 ∈ flatC (Jvm.Cond.and given_1 narrow_1) := fl_R (fl_R (fl_L (fl_L (fl_L (fl_L (fl_L (fl_L (fl_L (fl_L (fl_0 rfl))))))))))
theorem xs_e100 : xs_C 100 ∈ flatC (Jvm.Cond.and given_1 narrow_1) := fl_R (fl_R (fl_L (fl_L (fl_L (fl_L (fl_L (fl_L (fl_L (fl_R (fl_0 rfl))))))))))
theorem xs_e101 : xs_C 101 ∈ flatC (Jvm.Cond.and given_1 narrow_1) := fl_R (fl_R (fl_L (fl_L (fl_L (fl_L (fl_L (fl_L (fl_R (fl_L (fl_0 rfl))))))))))
theorem xs_e102 : xs_C 102 ∈ flatC (Jvm.Cond.and given_1 narrow_1) := fl_R (fl_R (fl_L (fl_L (fl_L (fl_L (fl_L (fl_L (fl_R (fl_R (fl_0 rfl))))))))))
theorem xs_e103 : xs_C 103 ∈ flatC (Jvm.Cond.and given_1 narrow_1) := fl_R (fl_R (fl_L (fl_L (fl_L (fl_L (fl_L (fl_R (fl_L (fl_L (fl_0 rfl))))))))))
theorem xs_e104 : xs_C 104 ∈ flatC (Jvm.Cond.and given_1 narrow_1) := fl_R (fl_R (fl_L (fl_L (fl_L (fl_L (fl_L (fl_R (fl_L (fl_R (fl_0 rfl))))))))))
theorem xs_e105 : xs_C 105 ∈ flatC (Jvm.Cond.and given_1 narrow_1) := fl_R (fl_R (fl_L (fl_L (fl_L (fl_L (fl_L (fl_R (fl_R (fl_L (fl_0 rfl))))))))))
theorem xs_e106 : xs_C 106 ∈ flatC (Jvm.Cond.and given_1 narrow_1) := fl_R (fl_R (fl_L (fl_L (fl_L (fl_L (fl_L (fl_R (fl_R (fl_R (fl_0 rfl))))))))))
theorem xs_e107 : xs_C 107 ∈ flatC (Jvm.Cond.and given_1 narrow_1) := fl_R (fl_R (fl_L (fl_L (fl_L (fl_L (fl_R (fl_L (fl_L (fl_L (fl_0 rfl))))))))))
theorem xs_e108 : xs_C 108 ∈ flatC (Jvm.Cond.and given_1 narrow_1) := fl_R (fl_R (fl_L (fl_L (fl_L (fl_L (fl_R (fl_L (fl_L (fl_R (fl_0 rfl))))))))))
theorem xs_e109 : xs_C 109 ∈ flatC (Jvm.Cond.and given_1 narrow_1) := fl_R (fl_R (fl_L (fl_L (fl_L (fl_L (fl_R (fl_L (fl_R (fl_L (fl_0 rfl))))))))))
theorem xs_e110 : xs_C 110 ∈ flatC (Jvm.Cond.and given_1 narrow_1) := fl_R (fl_R (fl_L (fl_L (fl_L (fl_L (fl_R (fl_L (fl_R (fl_R (fl_0 rfl))))))))))
theorem xs_e111 : xs_C 111 ∈ flatC (Jvm.Cond.and given_1 narrow_1) := fl_R (fl_R (fl_L (fl_L (fl_L (fl_L (fl_R (fl_R (fl_L (fl_L (fl_0 rfl))))))))))
theorem xs_e112 : xs_C 112 ∈ flatC (Jvm.Cond.and given_1 narrow_1) := fl_R (fl_R (fl_L (fl_L (fl_L (fl_L (fl_R (fl_R (fl_L (fl_R (fl_0 rfl))))))))))
theorem xs_e113 : xs_C 113 ∈ flatC (Jvm.Cond.and given_1 narrow_1) := fl_R (fl_R (fl_L (fl_L (fl_L (fl_L (fl_R (fl_R (fl_R (fl_L (fl_0 rfl))))))))))
theorem xs_e114 : xs_C 114 ∈ flatC (Jvm.Cond.and given_1 narrow_1) := fl_R (fl_R (fl_L (fl_L (fl_L (fl_L (fl_R (fl_R (fl_R (fl_R (fl_0 rfl))))))))))
theorem xs_e115 : xs_C 115 ∈ flatC (Jvm.Cond.and given_1 narrow_1) := fl_R (fl_R (fl_L (fl_L (fl_L (fl_R (fl_L (fl_L (fl_L (fl_L (fl_0 rfl))))))))))
theorem xs_e116 : xs_C 116 ∈ flatC (Jvm.Cond.and given_1 narrow_1) := fl_R (fl_R (fl_L (fl_L (fl_L (fl_R (fl_L (fl_L (fl_L (fl_R (fl_0 rfl))))))))))
theorem xs_e117 : xs_C 117 ∈ flatC (Jvm.Cond.and given_1 narrow_1) := fl_R (fl_R (fl_L (fl_L (fl_L (fl_R (fl_L (fl_L (fl_R (fl_L (fl_0 rfl))))))))))
theorem xs_e118 : xs_C 118 ∈ flatC (Jvm.Cond.and given_1 narrow_1) := fl_R (fl_R (fl_L (fl_L (fl_L (fl_R (fl_L (fl_L (fl_R (fl_R (fl_0 rfl))))))))))
theorem xs_e119 : xs_C 119 ∈ flatC (Jvm.Cond.and given_1 narrow_1) := fl_R (fl_R (fl_L (fl_L (fl_L (fl_R (fl_L (fl_R (fl_L (fl_L (fl_0 rfl))))))))))
theorem xs_e120 : xs_C 120 ∈ flatC (Jvm.Cond.and given_1 narrow_1) := fl_R (fl_R (fl_L (fl_L (fl_L (fl_R (fl_L (fl_R (fl_L (fl_R (fl_0 rfl))))))))))
theorem xs_e121 : xs_C 121 ∈ flatC (Jvm.Cond.and given_1 narrow_1) := fl_R (fl_R (fl_L (fl_L (fl_L (fl_R (fl_L (fl_R (fl_R (fl_L (fl_0 rfl))))))))))
theorem xs_e122 : xs_C 122 ∈ flatC (Jvm.Cond.and given_1 narrow_1) := fl_R (fl_R (fl_L (fl_L (fl_L (fl_R (fl_L (fl_R (fl_R (fl_R (fl_0 rfl))))))))))
set_option maxRecDepth 100000 in
theorem xs_ea : ∀ j ∈ [0, 1, 2, 3, 4, 5, 6, 7, 8, 9, 10, 11, 12, 13, 14, 15, 16, 17, 18, 19, 20, 21, 22, 23, 24, 25, 26, 27, 28, 29, 30, 31, 32, 33, 34, 35, 36, 37, 38, 39, 40, 41, 42, 43, 44, 45, 46, 47, 48, 49, 50, 51, 52, 53, 54, 55, 56, 57, 58, 59, 60, 61, 62, 63, 64, 65, 66, 67, 68, 69, 70, 71, 72, 73, 74, 75, 76, 77, 78, 79, 80, 81, 82, 83, 84, 85, 86, 87, 88, 89, 90, 91, 92, 93, 94, 95, 96, 97, 98, 99, 100, 101, 102, 103, 104, 105, 106, 107, 108, 109, 110, 111, 112, 113, 114, 115, 116, 117, 118, 119, 120, 121, 122], xs_C j ∈ flatC (Jvm.Cond.and given_1 narrow_1) := List.forall_mem_cons.mpr ⟨xs_e0, List.forall_mem_cons.mpr ⟨xs_e1, List.forall_mem_cons.mpr ⟨xs_e2, List.forall_mem_cons.mpr ⟨xs_e3, List.forall_mem_cons.mpr ⟨xs_e4, List.forall_mem_cons.mpr ⟨xs_e5, List.forall_mem_cons.mpr ⟨xs_e6, List.forall_mem_cons.mpr ⟨xs_e7, List.forall_mem_cons.mpr ⟨xs_e8, List.forall_mem_cons.mpr ⟨xs_e9, List.forall_mem_cons.mpr ⟨xs_e10, List.forall_mem_cons.mpr ⟨xs_e11, List.forall_mem_cons.mpr ⟨xs_e12, List.forall_mem_cons.mpr ⟨xs_e13, List.forall_mem_cons.mpr ⟨xs_e14, List.forall_mem_cons.mpr ⟨xs_e15, List.forall_mem_cons.mpr ⟨xs_e16, List.forall_mem_cons.mpr ⟨xs_e17, List.forall_mem_cons.mpr ⟨xs_e18, List.forall_mem_cons.mpr ⟨xs_e19, List.forall_mem_cons.mpr ⟨xs_e20, List.forall_mem_cons.mpr ⟨xs_e21, List.forall_mem_cons.mpr ⟨xs_e22, List.forall_mem_cons.mpr ⟨xs_e23, List.forall_mem_cons.mpr ⟨xs_e24, List.forall_mem_cons.mpr ⟨xs_e25, List.forall_mem_cons.mpr ⟨xs_e26, List.forall_mem_cons.mpr ⟨xs_e27, List.forall_mem_cons.mpr ⟨xs_e28, List.forall_mem_cons.mpr ⟨xs_e29, List.forall_mem_cons.mpr ⟨xs_e30, List.forall_mem_cons.mpr ⟨xs_e31, List.forall_mem_cons.mpr ⟨xs_e32, List.forall_mem_cons.mpr ⟨xs_e33, List.forall_mem_cons.mpr ⟨xs_e34, List.forall_mem_cons.mpr ⟨xs_e35, List.forall_mem_cons.mpr ⟨xs_e36, List.forall_mem_cons.mpr ⟨xs_e37, List.forall_mem_cons.mpr ⟨xs_e38, List.forall_mem_cons.mpr ⟨xs_e39, List.forall_mem_cons.mpr ⟨xs_e40, List.forall_mem_cons.mpr ⟨xs_e41, List.forall_mem_cons.mpr ⟨xs_e42, List.forall_mem_cons.mpr ⟨xs_e43, List.forall_mem_cons.mpr ⟨xs_e44, List.forall_mem_cons.mpr ⟨xs_e45, List.forall_mem_cons.mpr ⟨xs_e46, List.forall_mem_cons.mpr ⟨xs_e47, List.forall_mem_cons.mpr ⟨xs_e48, List.forall_mem_cons.mpr ⟨xs_e49, List.forall_mem_cons.mpr ⟨xs_e50, List.forall_mem_cons.mpr ⟨xs_e51, List.forall_mem_cons.mpr ⟨xs_e52, List.forall_mem_cons.mpr ⟨xs_e53, List.forall_mem_cons.mpr ⟨xs_e54, List.forall_mem_cons.mpr ⟨xs_e55, List.forall_mem_cons.mpr ⟨xs_e56, List.forall_mem_cons.mpr ⟨xs_e57, List.forall_mem_cons.mpr ⟨xs_e58, List.forall_mem_cons.mpr ⟨xs_e59, List.forall_mem_cons.mpr ⟨xs_e60, List.forall_mem_cons.mpr ⟨xs_e61, List.forall_mem_cons.mpr ⟨xs_e62, List.forall_mem_cons.mpr ⟨xs_e63, List.forall_mem_cons.mpr ⟨xs_e64, List.forall_mem_cons.mpr ⟨xs_e65, List.forall_mem_cons.mpr ⟨xs_e66, List.forall_mem_cons.mpr ⟨xs_e67, List.forall_mem_cons.mpr ⟨xs_e68, List.forall_mem_cons.mpr ⟨xs_e69, List.forall_mem_cons.mpr ⟨xs_e70, List.forall_mem_cons.mpr ⟨xs_e71, List.forall_mem_cons.mpr ⟨xs_e72, List.forall_mem_cons.mpr ⟨xs_e73, List.forall_mem_cons.mpr ⟨xs_e74, List.forall_mem_cons.mpr ⟨xs_e75, List.forall_mem_cons.mpr ⟨xs_e76, List.forall_mem_cons.mpr ⟨xs_e77, List.forall_mem_cons.mpr ⟨xs_e78, List.forall_mem_cons.mpr ⟨xs_e79, List.forall_mem_cons.mpr ⟨xs_e80, List.forall_mem_cons.mpr ⟨xs_e81, List.forall_mem_cons.mpr ⟨xs_e82, List.forall_mem_cons.mpr ⟨xs_e83, List.forall_mem_cons.mpr ⟨xs_e84, List.forall_mem_cons.mpr ⟨xs_e85, List.forall_mem_cons.mpr ⟨xs_e86, List.forall_mem_cons.mpr ⟨xs_e87, List.forall_mem_cons.mpr ⟨xs_e88, List.forall_mem_cons.mpr ⟨xs_e89, List.forall_mem_cons.mpr ⟨xs_e90, List.forall_mem_cons.mpr ⟨xs_e91, List.forall_mem_cons.mpr ⟨xs_e92, List.forall_mem_cons.mpr ⟨xs_e93, List.forall_mem_cons.mpr ⟨xs_e94, List.forall_mem_cons.mpr ⟨xs_e95, List.forall_mem_cons.mpr ⟨xs_e96, List.forall_mem_cons.mpr ⟨xs_e97, List.forall_mem_cons.mpr ⟨xs_e98, List.forall_mem_cons.mpr ⟨xs_e99, List.forall_mem_cons.mpr ⟨xs_e100, List.forall_mem_cons.mpr ⟨xs_e101, List.forall_mem_cons.mpr ⟨xs_e102, List.forall_mem_cons.mpr ⟨xs_e103, List.forall_mem_cons.mpr ⟨xs_e104, List.forall_mem_cons.mpr ⟨xs_e105, List.forall_mem_cons.mpr ⟨xs_e106, List.forall_mem_cons.mpr ⟨xs_e107, List.forall_mem_cons.mpr ⟨xs_e108, List.forall_mem_cons.mpr ⟨xs_e109, List.forall_mem_cons.mpr ⟨xs_e110, List.forall_mem_cons.mpr ⟨xs_e111, List.forall_mem_cons.mpr ⟨xs_e112, List.forall_mem_cons.mpr ⟨xs_e113, List.forall_mem_cons.mpr ⟨xs_e114, List.forall_mem_cons.mpr ⟨xs_e115, List.forall_mem_cons.mpr ⟨xs_e116, List.forall_mem_cons.mpr ⟨xs_e117, List.forall_mem_cons.mpr ⟨xs_e118, List.forall_mem_cons.mpr ⟨xs_e119, List.forall_mem_cons.mpr ⟨xs_e120, List.forall_mem_cons.mpr ⟨xs_e121, List.forall_mem_cons.mpr ⟨xs_e122, (fun _ h => nomatch h)⟩⟩⟩⟩⟩⟩⟩⟩⟩⟩⟩⟩⟩⟩⟩⟩⟩⟩⟩⟩⟩⟩⟩⟩⟩⟩⟩⟩⟩⟩⟩⟩⟩⟩⟩⟩⟩⟩⟩⟩⟩⟩⟩⟩⟩⟩⟩⟩⟩⟩⟩⟩⟩⟩⟩⟩⟩⟩⟩⟩⟩⟩⟩⟩⟩⟩⟩⟩⟩⟩⟩⟩⟩⟩⟩⟩⟩⟩⟩⟩⟩⟩⟩⟩⟩⟩⟩⟩⟩⟩⟩⟩⟩⟩⟩⟩⟩⟩⟩⟩⟩⟩⟩⟩⟩⟩⟩⟩⟩⟩⟩⟩⟩⟩⟩⟩⟩⟩⟩⟩⟩⟩⟩
set_option maxRecDepth 100000 in
theorem xs_er : List.range 123 = [0, 1, 2, 3, 4, 5, 6, 7, 8, 9, 10, 11, 12, 13, 14, 15, 16, 17, 18, 19, 20, 21, 22, 23, 24, 25, 26, 27, 28, 29, 30, 31, 32, 33, 34, 35, 36, 37, 38, 39, 40, 41, 42, 43, 44, 45, 46, 47, 48, 49, 50, 51, 52, 53, 54, 55, 56, 57, 58, 59, 60, 61, 62, 63, 64, 65, 66, 67, 68, 69, 70, 71, 72, 73, 74, 75, 76, 77, 78, 79, 80, 81, 82, 83, 84, 85, 86, 87, 88, 89, 90, 91, 92, 93, 94, 95, 96, 97, 98, 99, 100, 101, 102, 103, 104, 105, 106, 107, 108, 109, 110, 111, 112, 113, 114, 115, 116, 117, 118, 119, 120, 121, 122] := by decide
theorem xs_el (j : Nat) (hj : j < 123) : xs_C j ∈ flatC (Jvm.Cond.and given_1 narrow_1) := xs_ea j (by rw [← xs_er]; exact List.mem_range.mpr hj)
theorem xk_split (k : Int32) (M : Nat) : (k.toInt < 0 ∨ (M : Int) < k.toInt) ∨ ∃ j : Nat, j ≤ M ∧ k = nI j := by
  by_cases h0 : k < 0
  · exact Or.inl (Or.inl (by simpa using Int32.lt_iff_toInt_lt.mp h0))
  · obtain ⟨j, hj, rfl⟩ := nI_of h0
    by_cases hjM : j ≤ M
    · exact Or.inr ⟨j, hjM, rfl⟩
    · exact Or.inl (Or.inr (by rw [nI_toInt hj]; omega))
theorem xk_out3 {k : Int32} (h : k.toInt < 0 ∨ (3 : Int) < k.toInt) : (k < 0 ∨ 4 ≤ k) ∧ (k.toInt64 < 0 ∨ 3 < k.toInt64) := by
  have e0 : (0 : Int32).toInt = 0 := by decide
  have e4 : (4 : Int32).toInt = 4 := by decide
  have f0 : (0 : Int64).toInt = 0 := by decide
  have f3 : (3 : Int64).toInt = 3 := by decide
  rw [Int32.lt_iff_toInt_lt, Int32.le_iff_toInt_le, Int64.lt_iff_toInt_lt, Int64.lt_iff_toInt_lt, Int32.toInt_toInt64, e0, e4, f0, f3]
  omega
theorem xk_out8 {k : Int32} (h : k.toInt < 0 ∨ (8 : Int) < k.toInt) : (k < 1 ∨ 8 < k) ∧ (k.toInt64 < 1 ∨ 8 < k.toInt64) := by
  have e1 : (1 : Int32).toInt = 1 := by decide
  have e8 : (8 : Int32).toInt = 8 := by decide
  have f1 : (1 : Int64).toInt = 1 := by decide
  have f8 : (8 : Int64).toInt = 8 := by decide
  rw [Int32.lt_iff_toInt_lt, Int32.lt_iff_toInt_lt, Int64.lt_iff_toInt_lt, Int64.lt_iff_toInt_lt, Int32.toInt_toInt64, e1, e8, f1, f8]
  omega
theorem xk_len : ∀ L : Nat, L ≤ 11 → L ≠ 11 → (Int32.ofNat L - 11 : Int32) < 0 := by decide
/-- from the end of the loop's body to the end of the law -/
theorem lw_end {p : Program} {l : Launch} {e : Env} {s : State} {m : MethodId} {below : List Frame} {meth : Method} {c : Code} {b : Nat} {xs : Nat → Int32} {A : Nat → Prop} (hAf : ∀ q, A q → s.heap.size ≤ q) (hx : p.tables.exec = Jvm.exec) (hb : c.code = code) (hr : meth.sig.returnType = ret) (hlocks : meth.locks = false) (hX : va_X b 11 xs s s.heap) (hbl : b < s.heap.size) (hbA : ¬ A b) (H : Heap) (locs : List Loc) (ls : Array Slot) (hS : va_S A s.heap H locs) (hl : lv_has ls 8 [(4, .int 0), (0, .ref b)]) : W p l e room_1 s m #[Value.ref b] below meth c H locs 337 600150 (lw_Z below #[Value.ref b] s) (F0 m 1613 ls []) := by
  refine lv_iinc (k := 0) (v := 11) (lv' := [(4, .int 11), (0, .ref b)]) hx hb dL_law_1613 hl rfl (by decide) (by decide) rfl (fun ls hl => ?_)
  refine lv_goto (tgt := 23) hx hb dL_law_1616 (by decide) ?_
  refine lv_iload hx hb dL_law_23 (lv_at hl 0 rfl) ?_
  refine lv_aload_n hx hb dL_law_25 rfl (lv_at hl 1 rfl) ?_
  refine va_slen hx hb hX hbl hbA hS dL_law_26 ?_
  refine lv_bipush (v := 11) hx hb dL_law_27 (by decide) ?_
  refine lv_isub hx hb dL_law_29 ?_
  refine W.eq (g2 := F0 m 30 ls [.int 0, .int 11]) rfl ?_
  refine lv_icmp_gt (tgt := 1619) hx hb dL_law_30 (by decide) (fun _ => ?_) (fun h9 => absurd (by decide) h9)
  refine lv_iconst (v := 1) hx hb dL_law_1619 (by decide) ?_
  refine va_forget (fun q hq => hAf _ (hS.2.2 q hq)) ?_
  refine W.widen (k := 600002) (n := 7302232) (by decide) (by decide) ?_
  exact lw_ret hx hb hr hlocks dL_law_1620

section HPL
variable {σ : Sg} {X : Sg → String → Prop}
/-! the library's small methods: the world stays -/
theorem sC_compare {Q : Sg → Int → Prop} {x y : Int64} (hQ : ∀ r : Int, -1 ≤ r → r ≤ 1 → Q σ r) : wpC_J13_compare_74951 x y σ Q X := by
  unfold wpC_J13_compare_74951 wC_J13_compare_74951_0
  split
  · unfold wC_J13_compare_74951_10
    split
    · exact hQ 1 (by omega) (by omega)
    · exact hQ 0 (by omega) (by omega)
  · exact hQ (-1) (by omega) (by omega)
theorem sC_maxJ {Q : Sg → Int64 → Prop} {x y : Int64} (hQ : Q σ (if x < y then y else x)) : wpC_J9_max_f86c9 x y σ Q X := by
  unfold wpC_J9_max_f86c9 wC_J9_max_f86c9_0
  split at hQ <;> rename_i q
  · rw [if_pos q]; exact hQ
  · rw [if_neg q]; exact hQ
theorem sC_minJ {Q : Sg → Int64 → Prop} {x y : Int64} (hQ : Q σ (if y < x then y else x)) : wpC_J9_min_f86c9 x y σ Q X := by
  unfold wpC_J9_min_f86c9 wC_J9_min_f86c9_0
  split at hQ <;> rename_i q
  · rw [if_pos q]; exact hQ
  · rw [if_neg q]; exact hQ
theorem sC_maxI {Q : Sg → Int → Prop} {x y : Int} (hQ : ∀ r, x ≤ r → y ≤ r → (r = x ∨ r = y) → Q σ r) : wpC_J9_max_7cf53 x y σ Q X := by
  unfold wpC_J9_max_7cf53 wC_J9_max_7cf53_0
  split
  · exact hQ y (by omega) (by omega) (Or.inr rfl)
  · exact hQ x (by omega) (by omega) (Or.inl rfl)
theorem sC_minI {Q : Sg → Int → Prop} {x y : Int} (hQ : ∀ r, r ≤ x → r ≤ y → (r = x ∨ r = y) → Q σ r) : wpC_J9_min_7cf53 x y σ Q X := by
  unfold wpC_J9_min_7cf53 wC_J9_min_7cf53_0
  split
  · exact hQ y (by omega) (by omega) (Or.inr rfl)
  · exact hQ x (by omega) (by omega) (Or.inl rfl)
theorem sC_floorDiv {Q : Sg → Int64 → Prop} {x y : Int64} (hy : y ≠ 0) (h1 : Q σ (x / y)) (h2 : Q σ (x / y - 1)) : wpC_J9_floorDiv_f86c9 x y σ Q X := by
  unfold wpC_J9_floorDiv_f86c9 wC_J9_floorDiv_f86c9_0
  refine ⟨hy, ?_⟩
  split
  · exact h1
  · unfold wC_J9_floorDiv_f86c9_13
    split
    · exact h1
    · exact h2
end HPL

theorem nmX16 : ∀ a, a < 123 → ∀ b, b < 123 → a ≠ b → (TX16 a).2.1 ≠ (TX16 b).2.1 := by decide +kernel
theorem tyX16_ok : ∀ k, k < 123 → parseFieldDescriptor (TX16 k).2.2.1 = some (tyX16 k) := by decide +kernel

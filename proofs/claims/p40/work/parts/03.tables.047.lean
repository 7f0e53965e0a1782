theorem mL_le : ∀ m, m ≤ NM → mL m ≤ 40 := by decide +kernel

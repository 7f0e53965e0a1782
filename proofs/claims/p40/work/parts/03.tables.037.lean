theorem mC_lt : ∀ m, m ≤ NM → mC m < NCL := by decide +kernel

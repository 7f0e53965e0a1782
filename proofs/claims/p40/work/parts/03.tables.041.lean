theorem mm_01 : ∀ c, c < NCL → ∀ e ∈ mmC c, e.2 = 0 ∨ e.2 = 1 := by decide +kernel

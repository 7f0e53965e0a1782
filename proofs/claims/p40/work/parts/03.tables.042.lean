theorem mn_56 : ∀ c, c < NCL → ∀ e ∈ mnC c, e.2 = 5 ∨ e.2 = 6 := by decide +kernel

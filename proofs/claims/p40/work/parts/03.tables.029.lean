theorem ca_lt : ∀ c, c < NCL → ∀ e ∈ caC c, e.2 < NM := by decide +kernel

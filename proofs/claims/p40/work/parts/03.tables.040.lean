theorem nw_lt : ∀ c, c < NCL → ∀ e ∈ nwC c, e.2 < NX := by decide +kernel

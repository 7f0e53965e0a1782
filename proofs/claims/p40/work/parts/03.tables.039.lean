theorem fl_lt : ∀ c, c < NCL → ∀ e ∈ flC c, e.2.1 < NX ∧ e.2.2 < nF e.2.1 := by decide +kernel

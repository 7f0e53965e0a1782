theorem sk_14 : ∀ c, c < NCL → ∀ e ∈ skC c, 1 ≤ e.2 ∧ e.2 < 4 := by decide +kernel

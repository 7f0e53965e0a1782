theorem sgNw_all : ∀ c, c < NCL → ∀ e ∈ nwC c, (c, e) ∈ sgNw.map (fun q => q.2) := by decide +kernel

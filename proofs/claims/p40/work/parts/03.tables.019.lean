theorem sgFl_all : ∀ c, c < NCL → ∀ e ∈ flC c, (c, e) ∈ sgFl.map (fun q => q.2) := by decide +kernel

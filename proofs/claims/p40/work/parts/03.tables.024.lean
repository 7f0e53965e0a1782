theorem sgKl_all : ∀ c, c < NCL → ∀ e ∈ klC c, (c, e) ∈ sgKl.map (fun q => q.2) := by decide +kernel

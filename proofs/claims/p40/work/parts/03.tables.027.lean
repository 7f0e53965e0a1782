theorem sgAc_all : ∀ c, c < NCL → ∀ e ∈ acC c, (c, e) ∈ sgAc.map (fun q => q.2) := by decide +kernel

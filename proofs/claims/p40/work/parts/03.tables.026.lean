theorem sgOi_all : ∀ c, c < NCL → ∀ e ∈ oiC c, (c, e) ∈ sgOi.map (fun q => q.2) := by decide +kernel

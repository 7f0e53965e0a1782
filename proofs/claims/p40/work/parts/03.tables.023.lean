theorem sgKi_all : ∀ c, c < NCL → ∀ e ∈ kiC c, (c, e) ∈ sgKi.map (fun q => q.2) := by decide +kernel

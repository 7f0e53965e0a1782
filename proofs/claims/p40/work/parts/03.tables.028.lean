theorem sgCa_all : ∀ c, c < NCL → ∀ e ∈ caC c, (c, e) ∈ sgCa.map (fun q => q.2) := by decide +kernel

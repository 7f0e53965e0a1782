theorem sgIn_all : ∀ c, c < NCL → c ∈ sgIn.map (fun q => q.2) := by decide +kernel

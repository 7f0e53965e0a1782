theorem sgSk_all : ∀ c, c < NCL → ∀ e ∈ skC c, (c, e) ∈ sgSk.map (fun q => q.2) := by decide +kernel

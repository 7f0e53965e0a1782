theorem sgMn_all : ∀ c, c < NCL → ∀ e ∈ mnC c, (c, e) ∈ sgMn.map (fun q => q.2) := by decide +kernel

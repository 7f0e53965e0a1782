theorem sgMm_all : ∀ c, c < NCL → ∀ e ∈ mmC c, (c, e) ∈ sgMm.map (fun q => q.2) := by decide +kernel

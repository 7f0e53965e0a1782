theorem sgLay_all : ∀ c, c < NX → ∀ k, k < nF c → (c, k) ∈ sgLay.map (fun q => q.2) := by decide +kernel

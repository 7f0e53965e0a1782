theorem sgIs_all : ∀ c, c < NX → c ∈ sgIs.map (fun q => q.2) := by decide +kernel

theorem sgSt_all : ∀ m, m < NM → mK m = 2 → m ∈ sgSt.map (fun q => q.2) := by decide +kernel

theorem sgSel_all : ∀ m, m < NM → mK m = 0 → m ∈ sgSel.map (fun q => q.2) := by decide +kernel

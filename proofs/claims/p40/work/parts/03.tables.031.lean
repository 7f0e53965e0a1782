theorem nm_9999 : NM ≤ 9997 := by decide
theorem sgIm_all : ∀ m, m < NM → ¬ mK m = 2 → m ∈ sgIm.map (fun q => q.2) := by decide +kernel

theorem mY_nA : ∀ m, m < NM → (¬ mK m = 2 → 1 ≤ nA m ∧ mC m < NX) ∧ mK m ≤ 2 := by decide +kernel

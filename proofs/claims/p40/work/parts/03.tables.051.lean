theorem mY_ini : ∀ m, m < NM → mK m = 1 → (mY m).name = "<init>" ∧ mR m = none := by decide +kernel

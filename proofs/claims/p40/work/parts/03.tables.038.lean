theorem mC_nm : ∀ m, m < NM → (mY m).cls = cnm (mC m) := by decide +kernel

theorem mY_plain : ∀ m, m < NM → plainName (mY m).cls = true := by decide +kernel

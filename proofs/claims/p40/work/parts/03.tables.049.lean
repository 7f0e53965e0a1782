theorem mY_mh : ∀ m, m < NM → (mY m).cls ≠ "java/lang/invoke/MethodHandle" ∧ (mY m).cls ≠ "java/lang/invoke/VarHandle" := by decide +kernel

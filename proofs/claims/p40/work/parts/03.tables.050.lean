theorem mY_par : ∀ m, m < NM → (parseMethodDescriptor (mY m).desc).map (fun d => d.parameters.length) = some (bif Nat.beq (mK m) 2 then nA m else nA m - 1) := by decide +kernel

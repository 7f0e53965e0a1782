theorem t32 {x : Int64} (h0 : 0 ≤ x.toInt) (h : x.toInt < 2147483648) : x.toInt32.toInt = x.toInt := by
  rw [Int64.toInt_toInt32]
  exact Int.bmod_eq_of_le (by omega) (by omega)

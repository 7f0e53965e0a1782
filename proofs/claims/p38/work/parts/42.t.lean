/-! tests -/
theorem tt1 {a b : Int32} (h : a < b) (h2 : b < 12) (h3 : 0 ≤ a) : vin a 12 := by
  grind
theorem tt2 {a b : Int32} (h : ¬ b ≤ a) (h2 : b.toInt ≤ 12) (h3 : 0 ≤ a.toInt) : vin a 12 := by
  simp only [vin, Int32.le_iff_toInt_le] at *
  omega
theorem tt3 {a b : Int32} (h : a < b) (h2 : b ≤ 12) (h3 : 0 ≤ a) : a + 1 ≤ b := by
  grind
theorem tt4 {a b : Int32} (h : a < b) (h2 : b ≤ 12) (h3 : 0 ≤ a) : (a + 1).toInt = a.toInt + 1 := by
  grind
theorem tt5 {a b : Int32} (h : a < b) (h2 : b ≤ 12) (h3 : 0 ≤ a) : 0 ≤ (a + 1).toInt ∧ (a + 1).toInt ≤ 12 := by
  grind
theorem tt6 {a b c d : Int32} (h : a < 6) (h2 : b < 60) (h3 : 0 ≤ a) (h4 : 0 ≤ b) : vin (60 * a + b) 360 := by
  grind
theorem tt7 {q : SS} {a : Int32} (h : ¬ a < 0) (h2 : ¬ (6 : Int32) ≤ a) : vin a 6 := by
  grind

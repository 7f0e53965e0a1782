/-! ===== lowest terms; king ===== -/
theorem ldivT {x y : Int64} (hx : 0 ≤ x.toInt) (hy : 0 < y.toInt) : (x / y).toInt = x.toInt / y.toInt := by
  rw [Int64.toInt_div_of_ne_right _ _ (by rintro rfl; exact absurd hy (by decide))]
  exact Int.tdiv_eq_ediv_of_nonneg hx
theorem lremT {x y : Int64} (hx : 0 ≤ x.toInt) (hy : 0 < y.toInt) : (jlrem x y).toInt = x.toInt % y.toInt := by
  have e := ldivT hx hy
  have hb : x.toInt < 9223372036854775808 := Int64.toInt_lt x
  have h1 : x.toInt / y.toInt * y.toInt ≤ x.toInt := Int.ediv_mul_le _ (by omega)
  have h0 : 0 ≤ x.toInt / y.toInt * y.toInt := Int.mul_nonneg (Int.ediv_nonneg hx (by omega)) (by omega)
  have e1 : (x / y * y).toInt = x.toInt / y.toInt * y.toInt := by rw [lmul (by rw [e]; omega) (by rw [e]; omega), e]
  show (x - x / y * y).toInt = _
  rw [Int64.toInt_sub, e1, Int.bmod_eq_of_le (by omega) (by omega)]
  have := Int.emod_add_ediv_mul x.toInt y.toInt
  omega
theorem z64 : (0 : Int64).toInt = 0 := rfl
theorem eq64 {x : Int64} : x = 0 ↔ x.toInt = 0 := by
  rw [← Int64.toInt_inj]
  rfl
/-- the greatest that divides both -/
def gI (x y : Int64) : Nat := Nat.gcd x.toInt.toNat y.toInt.toNat
theorem gI_s {x y : Int64} (hx : 0 ≤ x.toInt) (hy : 0 < y.toInt) : gI y (jlrem x y) = gI x y := by
  unfold gI
  rw [lremT hx hy]
  have e : (x.toInt % y.toInt).toNat = x.toInt.toNat % y.toInt.toNat := by
    have hxn : x.toInt = (x.toInt.toNat : Int) := by omega
    have hyn : y.toInt = (y.toInt.toNat : Int) := by omega
    rw [hxn, hyn, ← Int.natCast_emod]
    simp
  rw [e, Nat.gcd_comm x.toInt.toNat, Nat.gcd_rec y.toInt.toNat x.toInt.toNat, Nat.gcd_comm]
theorem m_low {q : SS} {a b : Int64} (ha : 0 ≤ a.toInt) (hb : 0 ≤ b.toInt) (hab : ¬ (a.toInt = 0 ∧ b.toInt = 0)) (p : Int32) : ∃ g : Int64, g.toInt = (gI a b : Int) ∧ g ≠ 0 ∧ b_X12_lowest_16 q a b p a b = some (if p = 0 then a / g else b / g) := by
  have g0 : gI a b ≠ 0 := by
    unfold gI
    intro x
    have := Nat.eq_zero_of_gcd_eq_zero_left x
    have := Nat.eq_zero_of_gcd_eq_zero_right x
    omega
  have : T (b_X12_lowest_16 q a b p a b) (fun r => ∃ g : Int64, g.toInt = (gI a b : Int) ∧ g ≠ 0 ∧ r = (if p = 0 then a / g else b / g)) := by
    unfold b_X12_lowest_16
    have hB : b.toInt < 9223372036854775808 := Int64.toInt_lt b
    -- the smaller one falls; a bound for the walk is got from halving
    refine T_fx5 (fun l0 l2 l4 l5 l7 => l0 = a ∧ l2 = b ∧ l4 = p ∧ 0 ≤ l5.toInt ∧ 0 ≤ l7.toInt ∧ gI l5 l7 = gI a b) (fun _ _ _ l5 l7 => if l7.toInt = 0 then 0 else if l5.toInt < l7.toInt then 2 + 2 * Nat.log2 l5.toInt.toNat + 1 else 1 + 2 * Nat.log2 l7.toInt.toNat + (if 2 * l7.toInt ≤ l5.toInt then 0 else 0)) ?_ _ _ _ _ _ _ ⟨rfl, rfl, rfl, ha, hb, rfl⟩ ?_
    · rintro rec l0 l2 l4 l5 l7 ⟨rfl, rfl, rfl, h5, h7, hg⟩ hr
      sorry
    · sorry
  obtain ⟨r, h1, g, h2, h3, h4⟩ := this
  exact ⟨g, h2, h3, by rw [h1, h4]⟩

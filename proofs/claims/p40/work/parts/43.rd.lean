/-! ===== readers, exactly: numbers, shelves, bodies ===== -/
def bI (c : Prop) [Decidable c] : Int32 := if c then 1 else 0
theorem bI_0 {c : Prop} [Decidable c] : (bI c = 0) ↔ ¬ c := by
  unfold bI
  by_cases h : c <;> simp [h]
theorem bI_1 {c : Prop} [Decidable c] : (bI c = 1) ↔ c := by
  unfold bI
  by_cases h : c <;> simp [h]
theorem bI_01 {c : Prop} [Decidable c] {α : Type} {a b : α} : (if bI c = 0 ∨ bI c = 1 then a else b) = a := by
  rw [if_pos]
  unfold bI
  by_cases h : c <;> simp [h]
theorem bI_c {c d : Prop} [Decidable c] [Decidable d] (h : c ↔ d) : bI c = bI d := by
  unfold bI
  simp only [h]
theorem lm1 : (-1 : Int32).toInt = -1 := rfl
theorem lm2 : (-2 : Int32).toInt = -2 := rfl
theorem lm3 : (-3 : Int32).toInt = -3 := rfl
/-- bits of a told slipping -/
theorem shr3 (a : Int32) : (jshr a 3).toInt = a.toInt / 8 := by
  have e : (a >>> ((3 : Int32) &&& 31)).toBitVec = a.toBitVec.sshiftRight 3 := by
    rw [Int32.toBitVec_shiftRight, BitVec.sshiftRight_eq']
    rfl
  show (a >>> ((3 : Int32) &&& 31)).toInt = _
  rw [← Int32.toInt_toBitVec, e, BitVec.toInt_sshiftRight, Int.shiftRight_eq_div_pow]
  rfl
theorem and7 (a : Int32) : (a &&& 7).toInt = a.toInt % 8 := by
  have e : (a &&& 7).toBitVec.toNat = a.toBitVec.toNat % 8 := by
    rw [Int32.toBitVec_and, BitVec.toNat_and]
    exact Nat.and_two_pow_sub_one_eq_mod _ 3
  rw [← Int32.toInt_toBitVec, ← Int32.toInt_toBitVec]
  have h1 := BitVec.toInt_eq_toNat_cond (a &&& 7).toBitVec
  have h2 := BitVec.toInt_eq_toNat_cond a.toBitVec
  rw [h1, h2, e]
  have := a.toBitVec.isLt
  split <;> split <;> omega
theorem div8 {a : Int32} (h : 0 ≤ a.toInt) : (a / 8).toInt = a.toInt / 8 := by
  rw [Int32.toInt_div_of_ne_right _ _ (by decide)]
  exact Int.tdiv_eq_ediv_of_nonneg h
theorem rem8 {a : Int32} (h : 0 ≤ a.toInt) : (jrem a 8).toInt = a.toInt % 8 := by
  have e := div8 h
  have hb : a.toInt < 2147483648 := Int32.toInt_lt a
  have e8 : (8 : Int32).toInt = 8 := rfl
  show (a - a / 8 * 8).toInt = _
  have e1 : (a / 8 * 8).toInt = a.toInt / 8 * 8 := by rw [tmul (by rw [e, e8]; omega) (by rw [e, e8]; omega), e, e8]
  rw [tsub (by rw [e1]; omega) (by rw [e1]; omega), e1]
  omega
theorem shr_div {a : Int32} (h : 0 ≤ a.toInt) : jshr a 3 = a / 8 := Int32.toInt_inj.mp ((shr3 a).trans (div8 h).symm)
theorem and_rem {a : Int32} (h : 0 ≤ a.toInt) : a &&& 7 = jrem a 8 := Int32.toInt_inj.mp ((and7 a).trans (rem8 h).symm)
theorem lgc_pos {x y : Int64} : 0 < lg_cmp x y ↔ y.toInt < x.toInt := by
  unfold lg_cmp
  rw [← Int64.lt_iff_toInt_lt]
  by_cases h : x > y
  · rw [if_pos h]; exact ⟨fun _ => h, fun _ => by decide⟩
  · rw [if_neg h]
    by_cases g : x = y
    · rw [if_pos g]; exact ⟨fun k => absurd k (by decide), fun k => absurd k h⟩
    · rw [if_neg g]; exact ⟨fun k => absurd k (by decide), fun k => absurd k h⟩
theorem lgc_z {x y : Int64} : lg_cmp x y = 0 ↔ x = y := by
  unfold lg_cmp
  by_cases h : x > y
  · rw [if_pos h]
    exact ⟨fun k => absurd k (by decide), fun k => by subst k; exact absurd h (Int64.lt_irrefl)⟩
  · rw [if_neg h]
    by_cases g : x = y
    · rw [if_pos g]; exact ⟨fun _ => g, fun _ => rfl⟩
    · rw [if_neg g]; exact ⟨fun k => absurd k (by decide), fun k => absurd k g⟩
theorem lgc_le {x y : Int64} : lg_cmp x y ≤ 0 ↔ x.toInt ≤ y.toInt := by
  rw [← Int32.not_lt, lgc_pos]
  omega
theorem lgc_neg {x y : Int64} : lg_cmp x y < 0 ↔ x.toInt < y.toInt := by
  unfold lg_cmp
  rw [← Int64.lt_iff_toInt_lt]
  by_cases h : x > y
  · rw [if_pos h]; exact ⟨fun k => absurd k (by decide), fun k => absurd (Int64.lt_trans k h) Int64.lt_irrefl⟩
  · rw [if_neg h]
    by_cases g : x = y
    · rw [if_pos g]; subst g; exact ⟨fun k => absurd k (by decide), fun k => absurd k Int64.lt_irrefl⟩
    · rw [if_neg g]
      refine ⟨fun _ => ?_, fun _ => by decide⟩
      rcases Int64.lt_or_eq_of_le (Int64.not_lt.mp h) with k | k
      · exact k
      · exact absurd k g
theorem lgc_ge {x y : Int64} : 0 ≤ lg_cmp x y ↔ y.toInt ≤ x.toInt := by
  rw [← Int32.not_lt, lgc_neg]
  omega
theorem i64 (a : Int32) : a.toInt64.toInt = a.toInt := Int32.toInt_toInt64 a
theorem ladd {a b : Int64} (h1 : -9223372036854775808 ≤ a.toInt + b.toInt) (h2 : a.toInt + b.toInt < 9223372036854775808) : (a + b).toInt = a.toInt + b.toInt := by
  rw [Int64.toInt_add]
  exact Int.bmod_eq_of_le (by omega) (by omega)
theorem lmul {a b : Int64} (h1 : -9223372036854775808 ≤ a.toInt * b.toInt) (h2 : a.toInt * b.toInt < 9223372036854775808) : (a * b).toInt = a.toInt * b.toInt := by
  rw [Int64.toInt_mul]
  exact Int.bmod_eq_of_le (by omega) (by omega)
theorem i64add (a b : Int32) : (a.toInt64 + b.toInt64).toInt = a.toInt + b.toInt := by
  have h1 := Int32.toInt_lt a
  have h2 := Int32.toInt_lt b
  have h3 := Int32.le_toInt a
  have h4 := Int32.le_toInt b
  rw [ladd (by rw [i64, i64]; omega) (by rw [i64, i64]; omega), i64, i64]

/-! ===== readers, exactly: the class ===== -/
theorem x_isShelf (q : SS) (a : Int32) : f_X7_isShelf q a = some (bI (0 ≤ a.toInt ∧ a.toInt < 6)) := by
  unfold f_X7_isShelf bI
  simp only [Int32.lt_iff_toInt_lt, Int32.le_iff_toInt_le, Int32.reduceToInt]
  grind
theorem x_isKind (q : SS) (a : Int32) : f_X3_isKind q a = some (bI (0 ≤ a.toInt ∧ a.toInt < 8)) := by
  unfold f_X3_isKind bI
  simp only [Int32.lt_iff_toInt_lt, Int32.le_iff_toInt_le, Int32.reduceToInt]
  grind
theorem x_isPerson (q : SS) (a : Int32) : f_X10_isPerson q a = some (bI (0 ≤ a.toInt ∧ a.toInt < (q.1 1 1).toInt)) := by
  unfold f_X10_isPerson bI
  simp only [Int32.lt_iff_toInt_lt, Int32.le_iff_toInt_le, Int32.reduceToInt]
  grind
theorem x_isTicket (q : SS) (a : Int32) : f_X10_isTicket q a = some (bI (0 ≤ a.toInt ∧ a.toInt < (q.1 1 2).toInt)) := by
  unfold f_X10_isTicket bI
  simp only [Int32.lt_iff_toInt_lt, Int32.le_iff_toInt_le, Int32.reduceToInt]
  grind
theorem x_isBody (q : SS) (a : Int32) : f_X3_isBody q a = some (bI (0 ≤ a.toInt ∧ a.toInt < (q.1 57 2).toInt)) := by
  unfold f_X3_isBody bI
  simp only [Int32.lt_iff_toInt_lt, Int32.le_iff_toInt_le, Int32.reduceToInt]
  grind
theorem x_isEmpty (q : SS) (a : Int32) : f_X7_isEmpty q a = some (bI (0 ≤ a.toInt ∧ a.toInt < 6 ∧ q.1 27 a.toNatClampNeg = -2)) := by
  unfold f_X7_isEmpty
  rw [x_isShelf, bind_s]
  simp only [bI_0, vin]
  unfold bI
  grind
theorem x_isSort (q : SS) (a : Int32) : f_X7_isSort q a = some (bI (0 ≤ a.toInt ∧ a.toInt ≤ 4)) := by
  unfold f_X7_isSort bI
  simp only [Int32.lt_iff_toInt_lt, Int32.le_iff_toInt_le, Int32.reduceToInt]
  grind
theorem x_isRow (q : SS) (a : Int32) : f_X7_isRow q a = some (bI (0 ≤ a.toInt ∧ a.toInt < 6 ∧ 0 ≤ (q.1 27 a.toNatClampNeg).toInt ∧ (q.1 27 a.toNatClampNeg).toInt ≤ 4)) := by
  unfold f_X7_isRow
  simp only [x_isShelf, x_isSort, bind_s, bI_0, vin]
  unfold bI
  grind
theorem x_sizeOf (q : SS) (a : Int32) : f_X7_sizeOf q a = some (if 0 ≤ a.toInt ∧ a.toInt < 6 ∧ 0 ≤ (q.1 27 a.toNatClampNeg).toInt ∧ (q.1 27 a.toNatClampNeg).toInt ≤ 4 then q.1 28 a.toNatClampNeg else 0) := by
  unfold f_X7_sizeOf
  simp only [x_isRow, bind_s, bI_0, vin]
  grind
theorem x_bodyOn (q : SS) (a : Int32) : f_X7_bodyOn q a = some (if 0 ≤ a.toInt ∧ a.toInt < 6 ∧ q.1 27 a.toNatClampNeg = -1 then q.1 29 a.toNatClampNeg else -1) := by
  unfold f_X7_bodyOn
  simp only [x_isShelf, bind_s, bI_0, vin]
  grind
theorem x_kindOf (q : SS) (h : (q.1 57 2).toInt ≤ 50) (a : Int32) : f_X3_kindOf q a = some (if 0 ≤ a.toInt ∧ a.toInt < (q.1 57 2).toInt then q.1 58 a.toNatClampNeg else -1) := by
  unfold f_X3_kindOf
  simp only [x_isBody, bind_s, bI_0, vin]
  grind
/-- the size of what lies on a shelf -/
def szX (q : SS) (a : Int32) : Int := if 0 ≤ a.toInt ∧ a.toInt < 6 ∧ 0 ≤ (q.1 27 a.toNatClampNeg).toInt ∧ (q.1 27 a.toNatClampNeg).toInt ≤ 4 then (q.1 28 a.toNatClampNeg).toInt else 0
theorem x_hasPlaces (q : SS) (a i n : Int32) : f_X7_hasPlaces q a i n = some (bI (0 ≤ i.toInt ∧ 0 ≤ n.toInt ∧ i.toInt + n.toInt ≤ szX q a)) := by
  unfold f_X7_hasPlaces szX
  by_cases h : 0 ≤ a.toInt ∧ a.toInt < 6 ∧ 0 ≤ (q.1 27 a.toNatClampNeg).toInt ∧ (q.1 27 a.toNatClampNeg).toInt ≤ 4
  · simp only [x_sizeOf, bind_s, if_pos h, lgc_pos, i64add, i64]
    simp only [Int32.lt_iff_toInt_lt, Int32.reduceToInt]
    unfold bI
    grind
  · simp only [x_sizeOf, bind_s, if_neg h, lgc_pos, i64add, i64]
    simp only [Int32.lt_iff_toInt_lt, Int32.reduceToInt]
    unfold bI
    grind
theorem x_refRow (q : SS) (a : Int32) : f_X7_refusalOfRow q a = some (if 0 ≤ a.toInt ∧ a.toInt < 6 then (if q.1 27 a.toNatClampNeg = -2 then -11 else if 0 ≤ (q.1 27 a.toNatClampNeg).toInt ∧ (q.1 27 a.toNatClampNeg).toInt ≤ 4 then 0 else -12) else -1) := by
  unfold f_X7_refusalOfRow
  simp only [x_isShelf, x_isEmpty, x_isRow, bind_s, bI_0]
  grind
theorem x_refBytes (q : SS) (a : Int32) : f_X7_refusalOfBytes q a = some (if 0 ≤ a.toInt ∧ a.toInt < 6 then (if q.1 27 a.toNatClampNeg = -2 then -11 else if q.1 27 a.toNatClampNeg = 0 then 0 else -12) else -1) := by
  unfold f_X7_refusalOfBytes
  rw [x_refRow, bind_s]
  by_cases h1 : 0 ≤ a.toInt ∧ a.toInt < 6
  · rw [if_pos h1, if_pos h1]
    by_cases h2 : q.1 27 a.toNatClampNeg = -2
    · rw [if_pos h2, if_pos h2]; rfl
    · rw [if_neg h2, if_neg h2]
      by_cases h3 : 0 ≤ (q.1 27 a.toNatClampNeg).toInt ∧ (q.1 27 a.toNatClampNeg).toInt ≤ 4
      · rw [if_pos h3, if_pos rfl, if_pos (show vin a 6 from h1)]
        by_cases h4 : q.1 27 a.toNatClampNeg = 0
        · rw [if_pos h4, if_pos h4]
        · rw [if_neg h4, if_neg h4]
      · rw [if_neg h3, if_neg (by decide), if_neg]
        intro h4
        rw [h4] at h3
        exact h3 (by decide)
  · rw [if_neg h1, if_neg h1]; rfl
theorem x_get7 (q : SS) (a i : Int32) (h : szX q a ≤ 60) : f_X7_get q a i = some (if 0 ≤ i.toInt ∧ i.toInt < szX q a then q.2 (31 + a.toNatClampNeg) i.toNatClampNeg else 0) := by
  unfold f_X7_get
  simp only [x_isRow, x_hasPlaces, bind_s, bI_0, vin, Int32.reduceToInt]
  unfold szX at *
  grind
theorem x_hasNumber (q : SS) (w n : Int32) : f_X10_hasNumber q w n = some (bI (0 ≤ w.toInt ∧ w.toInt ≤ 8 ∧ 0 ≤ n.toInt ∧ (w.toInt < 4 → n.toInt < (q.1 1 1).toInt) ∧ (4 ≤ w.toInt → w.toInt < 7 → n.toInt < (q.1 1 2).toInt) ∧ (7 ≤ w.toInt → n.toInt = 0))) := by
  unfold f_X10_hasNumber b_X10_hasNumber_49 bI
  simp only [Int32.lt_iff_toInt_lt, Int32.le_iff_toInt_le, Int32.reduceToInt, ← Int32.toInt_inj]
  grind
theorem x_getP (q : SS) (hp : (q.1 1 1).toInt ≤ 6) (w n : Int32) (h0 : 0 ≤ w.toInt) (h1 : w.toInt < 4) : f_X10_get q w n = some (if 0 ≤ n.toInt ∧ n.toInt < (q.1 1 1).toInt then q.1 (3 + w.toNatClampNeg) n.toNatClampNeg else 0) := by
  unfold f_X10_get
  simp only [x_hasNumber, bind_s, bI_0, vin]
  grind
theorem x_getT (q : SS) (hk : (q.1 1 2).toInt ≤ 12) (w n : Int32) (h0 : 4 ≤ w.toInt) (h1 : w.toInt < 7) : f_X10_get q w n = some (if 0 ≤ n.toInt ∧ n.toInt < (q.1 1 2).toInt then q.1 (3 + w.toNatClampNeg) n.toNatClampNeg else 0) := by
  unfold f_X10_get
  simp only [x_hasNumber, bind_s, bI_0, vin]
  grind
theorem x_getH (q : SS) (w : Int32) (h0 : 7 ≤ w.toInt) (h1 : w.toInt ≤ 8) : f_X10_get q w 0 = some (q.1 (3 + w.toNatClampNeg) 0) := by
  unfold f_X10_get
  simp only [x_hasNumber, bind_s, bI_0, vin, Int32.reduceToInt]
  grind
theorem x_get0 {q : SS} (hp : (q.1 1 1).toInt ≤ 6) (n : Int32) : f_X10_get q 0 n = some (if 0 ≤ n.toInt ∧ n.toInt < (q.1 1 1).toInt then q.1 3 n.toNatClampNeg else 0) := x_getP q hp 0 n (by decide) (by decide)
theorem x_get1 {q : SS} (hp : (q.1 1 1).toInt ≤ 6) (n : Int32) : f_X10_get q 1 n = some (if 0 ≤ n.toInt ∧ n.toInt < (q.1 1 1).toInt then q.1 4 n.toNatClampNeg else 0) := x_getP q hp 1 n (by decide) (by decide)
theorem x_get2 {q : SS} (hp : (q.1 1 1).toInt ≤ 6) (n : Int32) : f_X10_get q 2 n = some (if 0 ≤ n.toInt ∧ n.toInt < (q.1 1 1).toInt then q.1 5 n.toNatClampNeg else 0) := x_getP q hp 2 n (by decide) (by decide)
theorem x_get3 {q : SS} (hp : (q.1 1 1).toInt ≤ 6) (n : Int32) : f_X10_get q 3 n = some (if 0 ≤ n.toInt ∧ n.toInt < (q.1 1 1).toInt then q.1 6 n.toNatClampNeg else 0) := x_getP q hp 3 n (by decide) (by decide)
theorem x_get4 {q : SS} (hk : (q.1 1 2).toInt ≤ 12) (n : Int32) : f_X10_get q 4 n = some (if 0 ≤ n.toInt ∧ n.toInt < (q.1 1 2).toInt then q.1 7 n.toNatClampNeg else 0) := x_getT q hk 4 n (by decide) (by decide)
theorem x_get5 {q : SS} (hk : (q.1 1 2).toInt ≤ 12) (n : Int32) : f_X10_get q 5 n = some (if 0 ≤ n.toInt ∧ n.toInt < (q.1 1 2).toInt then q.1 8 n.toNatClampNeg else 0) := x_getT q hk 5 n (by decide) (by decide)
theorem x_get6 {q : SS} (hk : (q.1 1 2).toInt ≤ 12) (n : Int32) : f_X10_get q 6 n = some (if 0 ≤ n.toInt ∧ n.toInt < (q.1 1 2).toInt then q.1 9 n.toNatClampNeg else 0) := x_getT q hk 6 n (by decide) (by decide)
theorem x_get70 (q : SS) : f_X10_get q 7 0 = some (q.1 10 0) := x_getH q 7 (by decide) (by decide)
theorem x_get80 (q : SS) : f_X10_get q 8 0 = some (q.1 11 0) := x_getH q 8 (by decide) (by decide)
theorem x_hourNow (q : SS) : f_X10_hourNow q = some (q.1 10 0) := by
  unfold f_X10_hourNow
  rw [x_get70, bind_s]
theorem x_isSlipping (q : SS) (a : Int32) : f_X10_isSlipping q a = some (bI (0 ≤ a.toInt ∧ a.toInt / 8 < (q.1 1 2).toInt ∧ a.toInt % 8 < (q.1 1 1).toInt)) := by
  unfold f_X10_isSlipping
  simp only [x_isTicket, x_isPerson, bind_s, bI_0, shr3, and7]
  unfold bI
  grind
theorem x_isReal {q : SS} (hk : (q.1 1 2).toInt ≤ 12) (a : Int32) : f_X10_isReal q a = some (bI (0 ≤ a.toInt ∧ a.toInt < (q.1 1 2).toInt ∧ q.1 8 a.toNatClampNeg = 0)) := by
  unfold f_X10_isReal
  simp only [x_isTicket, x_get5 hk, bind_s, bI_0]
  unfold bI
  grind
theorem x_isLoose {q : SS} (hk : (q.1 1 2).toInt ≤ 12) (a : Int32) : f_X8_isLoose q a = some (bI (0 ≤ a.toInt → a.toInt < (q.1 1 2).toInt → (q.1 9 a.toNatClampNeg).toInt < 4)) := by
  unfold f_X8_isLoose
  rw [x_get6 hk, bind_s]
  by_cases h : 0 ≤ a.toInt ∧ a.toInt < (q.1 1 2).toInt
  · rw [if_pos h]
    simp only [Int32.le_iff_toInt_le, Int32.reduceToInt]
    unfold bI
    grind
  · rw [if_neg h]
    unfold bI
    rw [if_neg (by decide), if_pos (fun h1 h2 => absurd ⟨h1, h2⟩ h)]
theorem x_holderOf {q : SS} (hk : (q.1 1 2).toInt ≤ 12) (a : Int32) : f_X8_holderOf q a = some (if 0 ≤ a.toInt ∧ a.toInt < (q.1 1 2).toInt then q.1 25 a.toNatClampNeg else -2) := by
  unfold f_X8_holderOf
  simp only [x_isTicket, bind_s, bI_0, vin]
  grind
theorem x_canGive {q : SS} (hp : (q.1 1 1).toInt ≤ 6) (a b : Int32) : f_X8_canGive q a b = some (bI (a ≠ b ∧ 0 ≤ b.toInt ∧ b.toInt < (q.1 1 1).toInt ∧ q.1 4 b.toNatClampNeg = 0)) := by
  unfold f_X8_canGive
  simp only [x_isPerson, x_get1 hp, bind_s, bI_0]
  unfold bI
  grind
theorem x_canSlip {q : SS} (hp : (q.1 1 1).toInt ≤ 6) (hk : (q.1 1 2).toInt ≤ 12) (a b : Int32) : f_X8_canSlip q a b = some (bI (0 ≤ a.toInt ∧ a.toInt < (q.1 1 2).toInt ∧ (q.1 9 a.toNatClampNeg).toInt < 4 ∧ q.1 25 a.toNatClampNeg ≠ b ∧ 0 ≤ b.toInt ∧ b.toInt < (q.1 1 1).toInt ∧ q.1 4 b.toNatClampNeg = 0)) := by
  unfold f_X8_canSlip
  simp only [x_isTicket, x_isLoose hk, x_holderOf hk, x_canGive hp, bind_s, bI_0]
  unfold bI
  grind

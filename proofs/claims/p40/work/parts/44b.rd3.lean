/-! ===== readers, exactly: the model ===== -/
theorem m_in (q : SS) (a lo hi : Int32) : f_X12_in q a lo hi = some (bI (lo.toInt ≤ a.toInt ∧ a.toInt ≤ hi.toInt)) := by
  unfold f_X12_in bI
  simp only [Int32.lt_iff_toInt_lt, Int32.le_iff_toInt_le]
  grind
theorem dec1 {a : Int32} (h : 0 ≤ a.toInt) : (a - 1).toInt = a.toInt - 1 := by
  have := Int32.toInt_lt a
  have e : (1 : Int32).toInt = 1 := rfl
  rw [tsub (by omega) (by omega), e]
theorem inc1 {a : Int32} (h : -2 ≤ a.toInt) (h2 : a.toInt < 2000000000) : (a + 1).toInt = a.toInt + 1 := by
  have e : (1 : Int32).toInt = 1 := rfl
  rw [tadd (by omega) (by omega), e]
theorem inn {a : Int32} (h : 0 ≤ a.toInt) (h2 : a.toInt < 2000000000) : (a + 1).toInt.toNat = a.toInt.toNat + 1 := by
  rw [inc1 (by omega) h2]
  omega
theorem m_isShelf (q : SS) (a : Int32) : f_X12_isShelf q a = some (bI (0 ≤ a.toInt ∧ a.toInt < 6)) := by
  unfold f_X12_isShelf
  simp only [m_in, bind_s, bI_01, Int32.reduceToInt]
  exact congrArg some (bI_c (by omega))
theorem m_areMany (q : SS) (a : Int32) : f_X12_areMany q a = some (bI (0 ≤ a.toInt ∧ a.toInt ≤ 12)) := by
  unfold f_X12_areMany
  simp only [m_in, bind_s, bI_01, Int32.reduceToInt]
theorem m_isOne {q : SS} (h : 0 ≤ (q.1 60 1).toInt) (a : Int32) : f_X12_isOne q a = some (bI (0 ≤ a.toInt ∧ a.toInt < (q.1 60 1).toInt)) := by
  unfold f_X12_isOne
  simp only [m_in, bind_s, bI_01, Int32.reduceToInt, dec1 h]
  exact congrArg some (bI_c (by omega))
theorem m_isTicket {q : SS} (h : 0 ≤ (q.1 60 6).toInt) (a : Int32) : f_X12_isTicket q a = some (bI (0 ≤ a.toInt ∧ a.toInt < (q.1 60 6).toInt)) := by
  unfold f_X12_isTicket
  simp only [m_in, bind_s, bI_01, Int32.reduceToInt, dec1 h]
  exact congrArg some (bI_c (by omega))
theorem m_isBody {q : SS} (h : 0 ≤ (q.1 60 52).toInt) (a : Int32) : f_X12_isBody q a = some (bI (0 ≤ a.toInt ∧ a.toInt < (q.1 60 52).toInt)) := by
  unfold f_X12_isBody
  simp only [m_in, bind_s, bI_01, Int32.reduceToInt, dec1 h]
  exact congrArg some (bI_c (by omega))
theorem m_areSlip {q : SS} (hp : 0 ≤ (q.1 60 1).toInt) (hk : 0 ≤ (q.1 60 6).toInt) (a : Int32) : f_X12_areSlip q a = some (bI (0 ≤ a.toInt ∧ a.toInt / 8 < (q.1 60 6).toInt ∧ a.toInt % 8 < (q.1 60 1).toInt)) := by
  unfold f_X12_areSlip
  by_cases h : a.toInt < 0
  · rw [if_pos (Int32.lt_iff_toInt_lt.mpr h)]
    unfold bI
    rw [if_neg (fun k => by omega)]
  · have h0 : 0 ≤ a.toInt := by omega
    rw [if_neg (fun k => h (Int32.lt_iff_toInt_lt.mp k))]
    simp only [m_isTicket hk, m_isOne hp, bind_s, bI_0, div8 h0, rem8 h0]
    unfold bI
    grind
theorem eq0 {n : Int32} : n = 0 ↔ n.toInt = 0 := by
  rw [← Int32.toInt_inj]
  rfl
theorem w08 {w : Int32} (h0 : 0 ≤ w.toInt) (h8 : w.toInt ≤ 8) : w = 0 ∨ w = 1 ∨ w = 2 ∨ w = 3 ∨ w = 4 ∨ w = 5 ∨ w = 6 ∨ w = 7 ∨ w = 8 := by
  simp only [← Int32.toInt_inj, Int32.reduceToInt]
  omega
theorem m_isPlace {q : SS} (hp : 0 ≤ (q.1 60 1).toInt) (hk : 0 ≤ (q.1 60 6).toInt) (n w : Int32) : f_X12_isPlace q n w = some (bI (okN (q.1 60 1).toInt (q.1 60 6).toInt w.toInt n.toInt)) := by
  unfold f_X12_isPlace
  simp only [m_in, m_isOne hp, m_isTicket hk, bind_s, bI_0, bI_01, Int32.reduceToInt]
  simp only [eq0]
  unfold bI
  grind
theorem x_hasN {q : SS} (h : RY q) (w n : Int32) : f_X10_hasNumber q w n = some (bI (okN (q.1 60 1).toInt (q.1 60 6).toInt w.toInt n.toInt)) := by
  rw [x_hasNumber, RY_p h, RY_k h]
  unfold bI
  grind
theorem m_mayHave {q : SS} (hp : 0 ≤ (q.1 60 1).toInt) (w v : Int32) (h0 : 0 ≤ w.toInt) (h8 : w.toInt ≤ 8) : f_X12_mayHave q w v = some (bI (okV (q.1 60 1).toInt w.toInt v.toInt)) := by
  unfold f_X12_mayHave
  simp only [m_in, m_isOne hp, bind_s, bI_01, Int32.reduceToInt]
  rcases w08 h0 h8 with rfl | rfl | rfl | rfl | rfl | rfl | rfl | rfl | rfl
  all_goals
    simp only [sw, Int32.reduceToInt]
    unfold bI
    grind
theorem x_mayBe {q : SS} (w v : Int32) (h0 : 0 ≤ w.toInt) (h8 : w.toInt ≤ 8) : f_X10_mayBe q w v = some (bI (okV (q.1 1 1).toInt w.toInt v.toInt)) := by
  unfold f_X10_mayBe
  simp only [x_isPerson, bind_s, bI_01, vin, Int32.lt_iff_toInt_lt, Int32.le_iff_toInt_le, Int32.reduceToInt]
  rcases w08 h0 h8 with rfl | rfl | rfl | rfl | rfl | rfl | rfl | rfl | rfl
  all_goals
    simp only [Int32.reduceToInt, Int32.reduceToNatClampNeg, ← Int32.toInt_inj, stv3_0, stv3_1, stv3_2, stv3_3, stv3_4, stv3_5, stv3_6, stv3_7, stv3_8]
    unfold bI
    grind
theorem m_rowFault {q : SS} {a : Int32} (h : 0 ≤ a.toInt ∧ a.toInt < 6) : f_X12_rowFault q a = some (if q.1 89 a.toNatClampNeg = -1 then -11 else if q.1 89 a.toNatClampNeg = -2 then 0 else -12) := by
  unfold f_X12_rowFault
  simp only [vin]
  grind
theorem mul60 {a b : Int32} (ha : 0 ≤ a.toInt ∧ a.toInt < 6) (hb : 0 ≤ b.toInt ∧ b.toInt ≤ 60) : ((60 : Int32) * a + b).toInt = 60 * a.toInt + b.toInt := by
  have e : (60 : Int32).toInt = 60 := rfl
  have e1 : ((60 : Int32) * a).toInt = 60 * a.toInt := by rw [tmul (by rw [e]; omega) (by rw [e]; omega), e]
  rw [tadd (by omega) (by omega), e1]
theorem m_at {q : SS} {a b : Int32} (ha : 0 ≤ a.toInt ∧ a.toInt < 6) (hb : 0 ≤ b.toInt ∧ b.toInt < 60) : f_X12_at q a b = some ((q.2 91 (60 * a.toNatClampNeg + b.toNatClampNeg)).toInt32) := by
  unfold f_X12_at
  have e := mul60 ha (b := b) (by omega)
  have e2 : ((60 : Int32) * a + b).toNatClampNeg = 60 * a.toNatClampNeg + b.toNatClampNeg := by
    simp only [cn_eq, e]
    omega
  rw [if_pos ⟨by omega, by omega⟩, e2]
theorem m_maySlip {q : SS} {a b : Int32} (ha : 0 ≤ a.toInt ∧ a.toInt < 12) (hb : 0 ≤ b.toInt ∧ b.toInt < 6) : f_X12_maySlip q a b = some (bI (q.1 67 a.toNatClampNeg ≠ 4 ∧ q.1 81 a.toNatClampNeg ≠ b ∧ q.1 62 b.toNatClampNeg = 0)) := by
  unfold f_X12_maySlip bI
  simp only [vin]
  grind
theorem m_look {q : SS} (h0 : 0 ≤ (q.1 60 19).toInt) (h : (q.1 60 18).toInt ≤ 120) : f_X12_look q = some (if (q.1 60 19).toInt < (q.1 60 18).toInt then q.1 73 (q.1 60 19).toNatClampNeg else -1) := by
  unfold f_X12_look
  simp only [vin, Int32.le_iff_toInt_le]
  grind

/-! the model -/
theorem m_in (q : SS) (a lo hi : Int32) : f_X12_in q a lo hi = some (if lo ≤ a ∧ a ≤ hi then 1 else 0) := by
  unfold f_X12_in
  by_cases g : a < lo
  · rw [if_pos g, if_neg (fun h => absurd g (Int32.not_lt.mpr h.1))]
  · rw [if_neg g]
    by_cases g2 : hi < a
    · rw [if_pos g2, if_neg (fun h => absurd g2 (Int32.not_lt.mpr h.2))]
    · rw [if_neg g2, if_pos ⟨Int32.not_lt.mp g, Int32.not_lt.mp g2⟩]
theorem m_in0 (q : SS) (a : Int32) : f_X12_in q a 0 (0 - 1) = some 0 := by
  rw [m_in, if_neg]
  rintro ⟨h1, h2⟩
  rw [Int32.le_iff_toInt_le] at h1 h2
  have e1 : (0 : Int32).toInt = 0 := rfl
  have e2 : ((0 : Int32) - 1).toInt = -1 := rfl
  omega
theorem m_isOne {q : SS} {a : Int32} (h : q.1 60 1 = 0) : f_X12_isOne q a = some 0 := by
  unfold f_X12_isOne
  rw [h, m_in0]
  rfl
theorem m_isTicket {q : SS} {a : Int32} (h : q.1 60 6 = 0) : f_X12_isTicket q a = some 0 := by
  unfold f_X12_isTicket
  rw [h, m_in0]
  rfl
theorem b01 {c : Prop} [Decidable c] : (if (if c then (1 : Int32) else 0) = 0 ∨ (if c then (1 : Int32) else 0) = 1 then some (if c then (1 : Int32) else 0) else none) = some (if c then (1 : Int32) else 0) := by
  by_cases h : c
  · rw [if_pos h]; rfl
  · rw [if_neg h]; rfl
theorem le5 (a : Int32) : (0 ≤ a ∧ a ≤ 5) = (0 ≤ a ∧ a < 6) := by
  apply propext
  constructor
  · rintro ⟨h1, h2⟩
    refine ⟨h1, ?_⟩
    rw [Int32.le_iff_toInt_le] at h2
    rw [Int32.lt_iff_toInt_lt]
    have e1 : (5 : Int32).toInt = 5 := rfl
    have e2 : (6 : Int32).toInt = 6 := rfl
    omega
  · rintro ⟨h1, h2⟩
    refine ⟨h1, ?_⟩
    rw [Int32.lt_iff_toInt_lt] at h2
    rw [Int32.le_iff_toInt_le]
    have e1 : (5 : Int32).toInt = 5 := rfl
    have e2 : (6 : Int32).toInt = 6 := rfl
    omega
theorem m_isShelf (q : SS) (a : Int32) : f_X12_isShelf q a = some (if 0 ≤ a ∧ a < 6 then 1 else 0) := by
  unfold f_X12_isShelf
  rw [m_in, bind_s, b01]
  simp only [le5]
theorem m_areMany (q : SS) (a : Int32) : f_X12_areMany q a = some (if 0 ≤ a ∧ a ≤ 12 then 1 else 0) := by
  unfold f_X12_areMany
  rw [m_in, bind_s, b01]
theorem m_rowFault {q : SS} (h : FM q) {a : Int32} (g : 0 ≤ a ∧ a < 6) : f_X12_rowFault q a = some (-11) := by
  unfold f_X12_rowFault
  rw [if_pos (vin6 g), fm_89 h _ (vin_cn (vin6 g))]
  rfl
theorem m_areSlip {q : SS} {a : Int32} (h : q.1 60 6 = 0) : f_X12_areSlip q a = some 0 := by
  unfold f_X12_areSlip
  rw [m_isTicket h, bind_s]
  exact ite_same rfl
theorem m_person {q : SS} (h : FM q) (a : Int32) : T (f_X12_person q a) (fun r => r.1 = (if 0 ≤ a ∧ a ≤ 12 then 0 else -1)) := by
  unfold f_X12_person
  rw [m_in, bind_s]
  by_cases g : 0 ≤ a ∧ a ≤ 12
  · rw [if_pos g, if_neg (by decide), if_pos g]
    simp [T_bind, T_some, vin, nm_eq, sI_rd, fm_60_1 h]
  · rw [if_neg g, if_pos rfl, if_neg g]
    exact T_some.mpr rfl
theorem m_ticket {q : SS} (h : FM q) (a b : Int32) : T (f_X12_ticket q a b) (fun r => r.1 = -1) := by
  unfold f_X12_ticket f_X12_areTicket
  rw [m_isOne (fm_60_1 h)]
  exact T_some.mpr rfl
theorem m_tickets {q : SS} (h : FM q) (a b c : Int32) : T (f_X12_tickets q a b c) (fun r => r.1 = (if (0 ≤ a ∧ a < 6) ∧ 1 ≤ c ∧ c ≤ 12 then 0 else -1)) := by
  unfold f_X12_tickets b_X12_tickets_43
  rw [m_isShelf, bind_s]
  by_cases g : 0 ≤ a ∧ a < 6
  · rw [if_pos g, if_neg (by decide), m_in, bind_s]
    by_cases g1 : 1 ≤ c ∧ c ≤ 12
    · rw [if_pos g1, if_neg (by decide), if_pos (vin6 g), fm_89 h _ (vin_cn (vin6 g)), if_pos rfl, if_pos (vin6 g), if_pos rfl, if_pos ⟨g, g1⟩]
      exact T_some.mpr rfl
    · rw [if_neg g1, if_pos rfl, if_neg (fun k => g1 k.2)]
      exact T_some.mpr rfl
  · rw [if_neg g, if_pos rfl, if_neg (fun k => g k.1)]
    exact T_some.mpr rfl
theorem m_feed {q : SS} (h : FM q) (a : Int32) : T (f_X12_feed q a) (fun r => r.1 = (if 0 ≤ a ∧ a ≤ 255 then 1 else -1)) := by
  unfold f_X12_feed
  rw [m_in, bind_s]
  by_cases g : 0 ≤ a ∧ a ≤ 255
  · rw [if_pos g, if_neg (by decide), if_pos g]
    simp [T_bind, T_some, vin, nm_eq, sI_rd, fm_60_18 h]
  · rw [if_neg g, if_pos rfl, if_neg g]
    exact T_some.mpr rfl
theorem m_odds {q : SS} (h : FM q) (a : Int32) : T (f_X12_odds q a) (fun r => r.1 = -1) := by
  unfold f_X12_odds
  rw [m_areSlip (fm_60_6 h)]
  exact T_some.mpr rfl
theorem m_slip {q : SS} (h : FM q) (a b : Int32) : T (f_X12_slip q a b) (fun r => r.1 = -1) := by
  unfold f_X12_slip
  rw [m_areSlip (fm_60_6 h)]
  exact T_some.mpr rfl
theorem m_fold {q : SS} (h : FM q) (a : Int32) : T (f_X12_fold q a) (fun r => r.1 = -1) := by
  unfold f_X12_fold
  rw [m_isTicket (fm_60_6 h)]
  exact T_some.mpr rfl
theorem m_watch {q : SS} (h : FM q) (a : Int32) : T (f_X12_watch q a) (fun r => r.1 = -1) := by
  unfold f_X12_watch
  rw [m_isOne (fm_60_1 h)]
  exact T_some.mpr rfl
theorem m_king {q : SS} (h : FM q) (a b : Int32) : T (f_X12_king q a b) (fun r => r.1 = MINL) := by
  unfold f_X12_king
  rw [m_isOne (fm_60_1 h)]
  exact T_some.mpr rfl
theorem m_rid {q : SS} (h : FM q) (a b c : Int32) : T (f_X12_rid q a b c) (fun r => r.1 = MINL) := by
  unfold f_X12_rid
  rw [m_isOne (fm_60_1 h)]
  exact T_some.mpr rfl
theorem m_first {q : SS} (h : FM q) (a b : Int32) : T (f_X12_first q a b) (fun r => r.1 = -1) := by
  unfold f_X12_first
  rw [m_isOne (fm_60_1 h)]
  exact T_some.mpr rfl
theorem m_hire {q : SS} (h : FM q) (a b c : Int32) : T (f_X12_hire q a b c) (fun r => r.1 = -1) := by
  unfold f_X12_hire
  rw [m_isOne (fm_60_1 h)]
  exact T_some.mpr rfl
theorem m_friend {q : SS} (h : FM q) (a b : Int32) : T (f_X12_friend q a b) (fun r => r.1 = -1) := by
  unfold f_X12_friend
  rw [m_isOne (fm_60_1 h)]
  exact T_some.mpr rfl
theorem m_share {q : SS} (h : FM q) (a b : Int32) : T (f_X12_share q a b) (fun r => r.1 = -1) := by
  unfold f_X12_share
  rw [m_isOne (fm_60_1 h)]
  exact T_some.mpr rfl
theorem m_later {q : SS} (h : FM q) (a b c : Int32) : T (f_X12_later q a b c) (fun r => r.1 = -1) := by
  unfold f_X12_later
  rw [m_isShelf, bind_s, m_areMany, bind_s, m_isTicket (fm_60_6 h), bind_s]
  rw [show ∀ (c1 c2 : Prop) [Decidable c1] [Decidable c2] (X : Option (Int32 × SS)), (if c1 then some ((-1 : Int32), q) else if c2 then some (-1, q) else if (0 : Int32) = 0 then some (-1, q) else X) = some (-1, q) from fun c1 c2 _ _ X => ite_same (ite_same rfl)]
  exact T_some.mpr rfl
theorem m_eve {q : SS} (h : FM q) (a b c : Int32) : T (f_X12_eve q a b c) (fun r => r.1 = (if (0 ≤ a ∧ a < 6) ∧ (0 ≤ b ∧ b ≤ 12) ∧ (c = -1 ∨ c = -2) then -11 else -1)) := by
  unfold f_X12_eve
  rw [m_isShelf, bind_s]
  by_cases g : 0 ≤ a ∧ a < 6
  · rw [if_pos g, if_neg (by decide), m_areMany, bind_s]
    by_cases g1 : 0 ≤ b ∧ b ≤ 12
    · rw [if_pos g1, if_neg (by decide), fm_60_1 h, m_in, bind_s]
      by_cases g2 : (-2 : Int32) ≤ c ∧ c ≤ 0 - 1
      · have g3 : c = -1 ∨ c = -2 := by
          obtain ⟨k1, k2⟩ := g2
          rw [Int32.le_iff_toInt_le] at k1 k2
          rw [← Int32.toInt_inj, ← Int32.toInt_inj]
          have e1 : (-1 : Int32).toInt = -1 := rfl
          have e2 : (-2 : Int32).toInt = -2 := rfl
          have e3 : ((0 : Int32) - 1).toInt = -1 := rfl
          omega
        rw [if_pos g2, if_neg (by decide), m_rowFault h g, bind_s, if_neg (by decide), bind_s, if_pos ⟨g, g1, g3⟩]
        exact T_some.mpr rfl
      · have g3 : ¬ (c = -1 ∨ c = -2) := by
          rintro (rfl | rfl)
          · exact g2 ⟨by decide, by decide⟩
          · exact g2 ⟨by decide, by decide⟩
        rw [if_neg g2, if_pos rfl, if_neg (fun k => g3 k.2.2)]
        exact T_some.mpr rfl
    · rw [if_neg g1, if_pos rfl, if_neg (fun k => g1 k.2.1)]
      exact T_some.mpr rfl
  · rw [if_neg g, if_pos rfl, if_neg (fun k => g k.1)]
    exact T_some.mpr rfl
theorem m_likely {q : SS} (h : FM q) (a b c : Int32) : T (f_X12_likely q a b c) (fun r => r.1 = MINL) := by
  unfold f_X12_likely
  rw [m_isShelf, bind_s]
  by_cases g : 0 ≤ a ∧ a < 6
  · rw [if_pos g, if_neg (by decide), m_in, bind_s, m_in, bind_s, m_rowFault h g, bind_s, if_neg (show ¬ (0 : Int32) ≤ -11 by decide)]
    rw [show ∀ (c1 c2 : Prop) [Decidable c1] [Decidable c2], (if c1 then some (MINL, q) else if c2 then some (MINL, q) else some (MINL, q)) = some (MINL, q) from fun c1 c2 _ _ => ite_same (ite_same rfl)]
    exact T_some.mpr rfl
  · rw [if_neg g, if_pos rfl]
    exact T_some.mpr rfl
theorem m_all {q : SS} (h : FM q) (a b : Int32) : T (f_X12_all q a b) (fun r => r.1 = MINL) := by
  unfold f_X12_all
  rw [m_isShelf, bind_s]
  by_cases g : 0 ≤ a ∧ a < 6
  · rw [if_pos g, if_neg (by decide), m_in, bind_s, m_rowFault h g, bind_s, if_neg (show ¬ (0 : Int32) ≤ -11 by decide)]
    rw [show ∀ (c1 : Prop) [Decidable c1], (if c1 then some (MINL, q) else some (MINL, q)) = some (MINL, q) from fun c1 _ => ite_same rfl]
    exact T_some.mpr rfl
  · rw [if_neg g, if_pos rfl]
    exact T_some.mpr rfl
theorem m_behind {q : SS} (h : FM q) (a b c : Int32) : T (f_X12_behind q a b c) (fun r => r.1 = (if (0 ≤ a ∧ a < 6) ∧ (0 ≤ b ∧ b < 6) ∧ (0 ≤ c ∧ c ≤ 4) then -11 else -1)) := by
  unfold f_X12_behind
  rw [m_isShelf, bind_s]
  by_cases g : 0 ≤ a ∧ a < 6
  · rw [if_pos g, if_neg (by decide), m_isShelf, bind_s]
    by_cases g1 : 0 ≤ b ∧ b < 6
    · rw [if_pos g1, if_neg (by decide), m_in, bind_s]
      by_cases g2 : 0 ≤ c ∧ c ≤ 4
      · rw [if_pos g2, if_neg (by decide), m_rowFault h g, bind_s, if_neg (by decide), bind_s, if_pos ⟨g, g1, g2⟩]
        exact T_some.mpr rfl
      · rw [if_neg g2, if_pos rfl, if_neg (fun k => g2 k.2.2)]
        exact T_some.mpr rfl
    · rw [if_neg g1, if_pos rfl, if_neg (fun k => g1 k.2.1)]
      exact T_some.mpr rfl
  · rw [if_neg g, if_pos rfl, if_neg (fun k => g k.1)]
    exact T_some.mpr rfl

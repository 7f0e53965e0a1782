/-! ===== EVERY CALL ON THE FIRST STATE: the class ===== -/
abbrev MINL : Int64 := -9223372036854775808
theorem bind_s {α ρ : Type} (x : α) (f : α → Option ρ) : (some x).bind f = f x := rfl
theorem fx_p {q : SS} (h : FX q) : q.1 1 1 = 0 := fx_1_1 h
theorem fx_t {q : SS} (h : FX q) : q.1 1 2 = 0 := fx_1_2 h
theorem neg_or_le (a : Int32) (h : ¬ a < 0) : (0 : Int32) ≤ a := Int32.not_lt.mp h
theorem x_isPerson {q : SS} {a : Int32} (h : q.1 1 1 = 0) : f_X10_isPerson q a = some 0 := by
  unfold f_X10_isPerson
  rw [h]
  by_cases g : a < 0
  · rw [if_pos g]
  · rw [if_neg g, if_pos (neg_or_le a g)]
theorem x_isTicket {q : SS} {a : Int32} (h : q.1 1 2 = 0) : f_X10_isTicket q a = some 0 := by
  unfold f_X10_isTicket
  rw [h]
  by_cases g : a < 0
  · rw [if_pos g]
  · rw [if_neg g, if_pos (neg_or_le a g)]
theorem x_isSlipping {q : SS} {a : Int32} (h : q.1 1 2 = 0) : f_X10_isSlipping q a = some 0 := by
  unfold f_X10_isSlipping
  rw [x_isTicket h]
  rfl
theorem x_mayBe4 {q : SS} {a : Int32} (h : q.1 1 1 = 0) : f_X10_mayBe q 4 a = some 0 := by
  unfold f_X10_mayBe
  rw [x_isPerson h]
  rfl
theorem x_ticket {q : SS} (h : FX q) (a b : Int32) : f_X11_ticket q a b = some (-1, q) := by
  unfold f_X11_ticket; rw [x_mayBe4 (fx_p h)]; rfl
theorem x_odds {q : SS} (h : FX q) (a : Int32) : f_X11_odds q a = some (-1, q) := by
  unfold f_X11_odds; rw [x_isSlipping (fx_t h)]; rfl
theorem x_slip {q : SS} (h : FX q) (a b : Int32) : f_X11_slip q a b = some (-1, q) := by
  unfold f_X11_slip; rw [x_isSlipping (fx_t h)]; rfl
theorem x_fold {q : SS} (h : FX q) (a : Int32) : f_X11_fold q a = some (-1, q) := by
  unfold f_X11_fold; rw [x_isTicket (fx_t h)]; rfl
theorem x_watch {q : SS} (h : FX q) (a : Int32) : f_X11_watch q a = some (-1, q) := by
  unfold f_X11_watch; rw [x_isPerson (fx_p h)]; rfl
theorem x_king {q : SS} (h : FX q) (a b : Int32) : f_X11_king q a b = some (MINL, q) := by
  unfold f_X11_king; rw [x_isPerson (fx_p h)]; rfl
theorem x_rid {q : SS} (h : FX q) (a b c : Int32) : f_X11_rid q a b c = some (MINL, q) := by
  unfold f_X11_rid; rw [x_isPerson (fx_p h)]; rfl
theorem x_first {q : SS} (h : FX q) (a b : Int32) : f_X11_first q a b = some (-1, q) := by
  unfold f_X11_first; rw [x_isPerson (fx_p h)]; rfl
theorem x_hire {q : SS} (h : FX q) (a b c : Int32) : f_X11_hire q a b c = some (-1, q) := by
  unfold f_X11_hire; rw [x_isPerson (fx_p h)]; rfl
theorem x_friend {q : SS} (h : FX q) (a b : Int32) : f_X11_friend q a b = some (-1, q) := by
  unfold f_X11_friend; rw [x_isPerson (fx_p h)]; rfl
theorem x_share {q : SS} (h : FX q) (a b : Int32) : f_X11_share q a b = some (-1, q) := by
  unfold f_X11_share; rw [x_isPerson (fx_p h)]; rfl
theorem ite_same {c : Prop} [Decidable c] {α : Type} {a b : α} (h : b = a) : (if c then a else b) = a := by
  by_cases g : c
  · rw [if_pos g]
  · rw [if_neg g]; exact h
theorem x_isShelf (q : SS) (a : Int32) : f_X7_isShelf q a = some (if 0 ≤ a ∧ a < 6 then 1 else 0) := by
  unfold f_X7_isShelf
  by_cases g : a < 0
  · rw [if_pos g, if_neg (fun h => absurd g (Int32.not_lt.mpr h.1))]
  · rw [if_neg g]
    by_cases g2 : (6 : Int32) ≤ a
    · rw [if_pos g2, if_neg (fun h => absurd h.2 (Int32.not_lt.mpr g2))]
    · rw [if_neg g2, if_pos ⟨neg_or_le a g, Int32.not_le.mp g2⟩]
theorem x_later {q : SS} (h : FX q) (a b c : Int32) : f_X11_later q a b c = some (-1, q) := by
  unfold f_X11_later
  rw [x_isShelf, bind_s, x_isTicket (fx_t h), bind_s]
  exact ite_same (ite_same (ite_same rfl))
theorem vin6 {a : Int32} (h : 0 ≤ a ∧ a < 6) : vin a 6 := ⟨Int32.le_iff_toInt_le.mp h.1, Int32.lt_iff_toInt_lt.mp h.2⟩
theorem vin_cn {a : Int32} {n : Nat} (h : vin a n) : a.toNatClampNeg < n := vin_lt h
theorem x_isEmpty {q : SS} (h : FX q) {a : Int32} (g : 0 ≤ a ∧ a < 6) : f_X7_isEmpty q a = some 1 := by
  unfold f_X7_isEmpty
  rw [x_isShelf, bind_s, if_pos g, if_neg (by decide), if_pos (vin6 g), fx_27 h _ (vin_cn (vin6 g))]
  rfl
theorem x_isRow {q : SS} (h : FX q) {a : Int32} (g : 0 ≤ a ∧ a < 6) : f_X7_isRow q a = some 0 := by
  unfold f_X7_isRow
  rw [x_isShelf, bind_s, if_pos g, if_neg (by decide), if_pos (vin6 g), fx_27 h _ (vin_cn (vin6 g))]
  rfl
theorem x_refRow {q : SS} (h : FX q) (a : Int32) : f_X7_refusalOfRow q a = some (if 0 ≤ a ∧ a < 6 then -11 else -1) := by
  unfold f_X7_refusalOfRow
  rw [x_isShelf, bind_s]
  by_cases g : 0 ≤ a ∧ a < 6
  · rw [if_pos g, if_pos g, if_neg (by decide), x_isEmpty h g]; rfl
  · rw [if_neg g, if_neg g]; rfl
theorem x_refBytes {q : SS} (h : FX q) (a : Int32) : f_X7_refusalOfBytes q a = some (if 0 ≤ a ∧ a < 6 then -11 else -1) := by
  unfold f_X7_refusalOfBytes
  rw [x_refRow h, bind_s]
  by_cases g : 0 ≤ a ∧ a < 6
  · rw [if_pos g]; rfl
  · rw [if_neg g]; rfl
theorem x_refElem {q : SS} (h : FX q) (a b : Int32) : f_X7_refusalOfElement q a b = some (if 0 ≤ a ∧ a < 6 then -11 else -1) := by
  unfold f_X7_refusalOfElement
  rw [x_refRow h, bind_s]
  by_cases g : 0 ≤ a ∧ a < 6
  · rw [if_pos g]; rfl
  · rw [if_neg g]; rfl
theorem x_put {q : SS} (h : FX q) (a b : Int32) (c : Int64) : f_X11_put q a b c = some (if 0 ≤ a ∧ a < 6 then -11 else -1, q) := by
  unfold f_X11_put
  rw [x_refElem h, bind_s]
  by_cases g : 0 ≤ a ∧ a < 6
  · rw [if_pos g]; rfl
  · rw [if_neg g]; rfl
theorem x_element {q : SS} (h : FX q) (a b : Int32) : f_X11_element q a b = some MINL := by
  unfold f_X11_element
  rw [x_refElem h, bind_s]
  by_cases g : 0 ≤ a ∧ a < 6
  · rw [if_pos g]; rfl
  · rw [if_neg g]; rfl
theorem x_all {q : SS} (h : FX q) (a b : Int32) : f_X11_all q a b = some (MINL, q) := by
  unfold f_X11_all
  rw [x_refBytes h, bind_s]
  by_cases g : 0 ≤ a ∧ a < 6
  · rw [if_pos g]; rfl
  · rw [if_neg g]; rfl
theorem x_likely {q : SS} (h : FX q) (a b c : Int32) : f_X11_likely q a b c = some (MINL, q) := by
  unfold f_X11_likely
  rw [x_refBytes h, bind_s]
  by_cases g : 0 ≤ a ∧ a < 6
  · rw [if_pos g]; rfl
  · rw [if_neg g]; rfl
theorem x_shift {q : SS} (h : FX q) (a b c d e : Int32) : f_X11_shift q a b c d e = some (if 0 ≤ a ∧ a < 6 ∧ 0 ≤ c ∧ c < 6 then -11 else -1, q) := by
  unfold f_X11_shift f_X7_refusalOfPair
  rw [x_isShelf, bind_s]
  by_cases g : 0 ≤ a ∧ a < 6
  · rw [if_pos g, if_neg (by decide), x_isShelf, bind_s]
    by_cases g2 : 0 ≤ c ∧ c < 6
    · rw [if_pos g2, if_neg (by decide), x_isEmpty h g, bind_s, if_neg (by decide), bind_s, if_neg (by decide), if_pos ⟨g.1, g.2, g2.1, g2.2⟩]
    · rw [if_neg g2, if_pos rfl, bind_s, if_neg (by decide), if_neg (fun k => g2 k.2.2)]
  · rw [if_neg g, if_pos rfl, bind_s, if_neg (by decide), if_neg (fun k => g ⟨k.1, k.2.1⟩)]
theorem x_eve {q : SS} (h : FX q) (a b c : Int32) : f_X11_eve q a b c = some (if (0 ≤ a ∧ a < 6) ∧ (0 ≤ b ∧ b ≤ 12) ∧ (c = -1 ∨ c = -2) then -11 else -1, q) := by
  unfold f_X11_eve b_X11_eve_45
  rw [x_isShelf, bind_s]
  by_cases g : 0 ≤ a ∧ a < 6
  · rw [if_pos g, if_neg (by decide)]
    by_cases g1 : b < 0
    · rw [if_pos g1, if_neg (fun k => absurd g1 (Int32.not_lt.mpr k.2.1.1))]
    · rw [if_neg g1]
      by_cases g2 : 12 < b
      · rw [if_pos g2, if_neg (fun k => absurd g2 (Int32.not_lt.mpr k.2.1.2))]
      · rw [if_neg g2]
        have gb : 0 ≤ b ∧ b ≤ 12 := ⟨neg_or_le b g1, Int32.not_lt.mp g2⟩
        by_cases g3 : c = -1
        · rw [if_pos g3, if_pos ⟨g, gb, Or.inl g3⟩, x_refBytes h, bind_s, if_pos g]; rfl
        · rw [if_neg g3]
          by_cases g4 : c = -2
          · rw [if_pos g4, if_pos ⟨g, gb, Or.inr g4⟩, x_refBytes h, bind_s, if_pos g]; rfl
          · rw [if_neg g4, x_isPerson (fx_p h), bind_s, if_pos rfl, if_neg (fun k => k.2.2.elim g3 g4)]
  · rw [if_neg g, if_pos rfl, if_neg (fun k => g k.1)]
theorem x_tickets {q : SS} (h : FX q) (a b c : Int32) : f_X11_tickets q a b c = some (if (0 ≤ a ∧ a < 6) ∧ 1 ≤ c ∧ c ≤ 12 then 0 else -1, q) := by
  unfold f_X11_tickets
  rw [x_isShelf, bind_s]
  by_cases g : 0 ≤ a ∧ a < 6
  · rw [if_pos g, if_neg (by decide)]
    by_cases g1 : c < 1
    · rw [if_pos g1, if_neg (fun k => absurd g1 (Int32.not_lt.mpr k.2.1))]
    · rw [if_neg g1]
      by_cases g2 : c ≤ 12
      · rw [if_pos g2, x_refBytes h, bind_s, if_pos g, if_neg (by decide), if_pos rfl, if_pos ⟨g, Int32.not_lt.mp g1, g2⟩]
      · rw [if_neg g2, if_neg (fun k => g2 k.2.2)]
  · rw [if_neg g, if_pos rfl, if_neg (fun k => g k.1)]
theorem x_behind {q : SS} (h : FX q) (a b c : Int32) : f_X11_behind q a b c = some (if (0 ≤ a ∧ a < 6) ∧ (0 ≤ b ∧ b < 6) ∧ (0 ≤ c ∧ c ≤ 4) then -11 else -1, q) := by
  unfold f_X11_behind
  rw [x_isShelf, bind_s]
  by_cases g : 0 ≤ a ∧ a < 6
  · rw [if_pos g, if_neg (by decide), x_isShelf, bind_s]
    by_cases g1 : 0 ≤ b ∧ b < 6
    · rw [if_pos g1, if_neg (by decide)]
      by_cases g2 : c < 0
      · rw [if_pos g2, if_neg (fun k => absurd g2 (Int32.not_lt.mpr k.2.2.1))]
      · rw [if_neg g2]
        by_cases g3 : c ≤ 4
        · rw [if_pos g3, x_isEmpty h g, bind_s, if_neg (by decide), if_pos ⟨g, g1, neg_or_le c g2, g3⟩]
        · rw [if_neg g3, if_neg (fun k => g3 k.2.2.2)]
    · rw [if_neg g1, if_pos rfl, if_neg (fun k => g1 k.2.1)]
  · rw [if_neg g, if_pos rfl, if_neg (fun k => g k.1)]
theorem x_back {q : SS} (h : FX q) : f_X11_back q = some (-5, q) := by
  unfold f_X11_back f_X1_hasImage
  rw [fx_47_7 h]
  rfl
theorem x_undo {q : SS} (h : FX q) : f_X11_undo q = some (-5, q) := by
  unfold f_X11_undo f_X0_done
  rw [fx_52_5 h]
  rfl
theorem x_redo {q : SS} (h : FX q) : f_X11_redo q = some (-5, q) := by
  unfold f_X11_redo f_X0_undone
  rw [fx_52_6 h]
  rfl
theorem x_led {q : SS} (h : FX q) (a : Int32) : f_X11_led q a = some (if 0 ≤ a ∧ a < 4 then 0 else -1) := by
  unfold f_X11_led b_X11_led_9 f_X1_noted
  by_cases g : a < 0
  · rw [if_pos g, if_neg (fun k => absurd g (Int32.not_lt.mpr k.1))]
  · rw [if_neg g, if_neg g]
    by_cases g2 : a < 4
    · have hv : vin a 4 := ⟨Int32.le_iff_toInt_le.mp (neg_or_le a g), Int32.lt_iff_toInt_lt.mp g2⟩
      rw [if_pos g2, if_neg (Int32.not_le.mpr g2), if_pos hv, fx_48 h _ (vin_cn hv)]
      exact congrArg some (if_pos ⟨neg_or_le a g, g2⟩).symm
    · rw [if_neg g2, if_neg (fun k => g2 k.2)]
theorem x_trace {q : SS} (h : FX q) (a : Int32) : f_X11_trace q a = some (-1) := by
  unfold f_X11_trace b_X11_trace_15 f_X3_traced
  by_cases g : a < 0
  · rw [if_pos g]
  · rw [if_neg g, fx_57_3 h]
    exact if_neg (fun k => g k)

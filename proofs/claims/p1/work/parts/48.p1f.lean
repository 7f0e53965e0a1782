theorem inc_toInt {x : Int32} (h0 : 0 ≤ x.toInt) (h : x.toInt < 2147483647) : (x + 1).toInt = x.toInt + 1 := by
  rw [Int32.toInt_add]
  have e1 : (1 : Int32).toInt = 1 := rfl
  rw [e1]
  unfold Int.bmod
  have e : (x.toInt + 1) % ((2 ^ 32 : Nat) : Int) = x.toInt + 1 := Int.emod_eq_of_lt (by omega) (by omega)
  simp only [e]
  rw [if_pos (by omega)]
theorem x_isSort (q : SS) (a : Int32) : f_X7_isSort q a = some (if 0 ≤ a ∧ a ≤ 4 then 1 else 0) := by
  unfold f_X7_isSort
  by_cases g : a < 0
  · rw [if_pos g, if_neg (fun h => absurd g (Int32.not_lt.mpr h.1))]
  · rw [if_neg g]
    by_cases g2 : (4 : Int32) < a
    · rw [if_pos g2, if_neg (fun h => absurd g2 (Int32.not_lt.mpr h.2))]
    · rw [if_neg g2, if_pos ⟨neg_or_le a g, Int32.not_lt.mp g2⟩]
theorem x_hold42 {q0 q : SS} {a c i : Int32} (k : K60 q0 q) (g : 0 ≤ a ∧ a < 6) (hc : c ≤ 60) (hi : 0 ≤ i.toInt) : T (b_X7_holdRow_42 q a c i) (K60 q0) := by
  unfold b_X7_holdRow_42
  refine T_fx4 (fun q l1 l3 l4 => K60 q0 q ∧ l1 = a ∧ l3 = c ∧ 0 ≤ l4.toInt) (fun _ _ _ l4 => (60 - l4.toInt).toNat) ?_ _ _ _ _ _ ⟨k, rfl, rfl, hi⟩ (by unfold FU; omega)
  rintro rec q l1 l3 l4 ⟨k, rfl, rfl, h4⟩ hrec
  rw [Int32.le_iff_toInt_le] at hc
  have e60 : (60 : Int32).toInt = 60 := rfl
  rw [T_ite]
  refine ⟨fun _ => T_some.mpr k, fun g2 => ?_⟩
  rw [Int32.le_iff_toInt_le] at g2
  rw [if_pos (vin6 g), if_pos (show vin l4 60 from ⟨h4, by omega⟩), nm_eq]
  have e := inc_toInt h4 (by omega)
  have ha : l1.toNatClampNeg < 6 := vin_cn (vin6 g)
  exact hrec _ _ _ _ ⟨(k60_sL (by omega)).mpr k, rfl, rfl, by omega⟩ (by omega)
theorem x_row {q : SS} (a b c : Int32) : T (f_X11_row q a b c) (fun r => r.1 = (if (0 ≤ a ∧ a < 6) ∧ (0 ≤ b ∧ b ≤ 4) then (if c ≤ 60 then (if 0 ≤ c then 1 else -14) else -1) else -1) ∧ K60 q r.2) := by
  unfold f_X11_row
  rw [x_isShelf, bind_s]
  by_cases g : 0 ≤ a ∧ a < 6
  · rw [if_pos g, if_neg (by decide), x_isSort, bind_s]
    by_cases g1 : 0 ≤ b ∧ b ≤ 4
    · rw [if_pos g1, if_neg (by decide), if_pos (show (0 ≤ a ∧ a < 6) ∧ (0 ≤ b ∧ b ≤ 4) from ⟨g, g1⟩)]
      by_cases g2 : c ≤ 60
      · rw [if_pos g2, if_pos g2]
        by_cases g3 : 0 ≤ c
        · rw [if_pos g3, if_pos g3, T_bind]
          unfold f_X7_holdRow
          rw [x_isShelf, bind_s, if_pos g, if_neg (by decide), x_isSort, bind_s, if_pos g1, if_neg (by decide), if_neg (Int32.not_lt.mpr g3), if_neg (Int32.not_lt.mpr g2), if_pos (vin6 g), nm_eq, if_pos (vin6 g), nm_eq]
          obtain ⟨r, h1, h2⟩ := x_hold42 (q0 := q) (q := sI (sI q 27 a.toNatClampNeg b) 28 a.toNatClampNeg c) (i := 0) ((k60_sI (by decide)).mpr ((k60_sI (by decide)).mpr (k60_r.mpr trivial))) g g2 (by decide)
          exact ⟨r, h1, T_some.mpr ⟨rfl, h2⟩⟩
        · rw [if_neg g3, if_neg g3]
          exact T_some.mpr ⟨rfl, k60_r.mpr trivial⟩
      · rw [if_neg g2, if_neg g2]
        exact T_some.mpr ⟨rfl, k60_r.mpr trivial⟩
    · rw [if_neg g1, if_pos rfl, if_neg (fun k => g1 k.2)]
      exact T_some.mpr ⟨rfl, k60_r.mpr trivial⟩
  · rw [if_neg g, if_pos rfl, if_neg (fun k => g k.1)]
    exact T_some.mpr ⟨rfl, k60_r.mpr trivial⟩
theorem m_row54 {q : SS} {a i : Int32} (ha : (60 * a).toInt = 60 * a.toInt) (ha2 : (60 * a + 60).toInt = 60 * a.toInt + 60) (g : vin a 6) (hi : 0 ≤ i.toInt) : T (b_X12_row_54 q a i) (fun r => r.1 = 1) := by
  unfold b_X12_row_54
  refine T_fx3 (fun q l1 l4 => l1 = a ∧ 0 ≤ l4.toInt) (fun _ _ l4 => (400 - l4.toInt).toNat) ?_ _ _ _ _ ⟨rfl, hi⟩ (by unfold FU; omega)
  rintro rec q l1 l4 ⟨rfl, h4⟩ hrec
  rw [T_ite]
  refine ⟨fun _ => T_some.mpr rfl, fun g2 => ?_⟩
  rw [Int32.le_iff_toInt_le, ha2] at g2
  obtain ⟨g3, g4⟩ := g
  have g5 : l1.toInt < 6 := g4
  rw [if_pos (show vin l4 360 from ⟨h4, by show l4.toInt < 360; omega⟩), nm_eq]
  have e := inc_toInt h4 (by omega)
  exact hrec _ _ _ ⟨rfl, by omega⟩ (by omega)
theorem six {a : Int32} (g : 0 ≤ a ∧ a < 6) : a = 0 ∨ a = 1 ∨ a = 2 ∨ a = 3 ∨ a = 4 ∨ a = 5 := by
  obtain ⟨h1, h2⟩ := vin6 g
  have h2 : a.toInt < 6 := h2
  simp only [← Int32.toInt_inj]
  have e0 : (0 : Int32).toInt = 0 := rfl
  have e1 : (1 : Int32).toInt = 1 := rfl
  have e2 : (2 : Int32).toInt = 2 := rfl
  have e3 : (3 : Int32).toInt = 3 := rfl
  have e4 : (4 : Int32).toInt = 4 := rfl
  have e5 : (5 : Int32).toInt = 5 := rfl
  omega
theorem m_row {q : SS} (a b c : Int32) : T (f_X12_row q a b c) (fun r => r.1 = (if (0 ≤ a ∧ a < 6) ∧ (0 ≤ b ∧ b ≤ 4) then (if c ≤ 60 then (if 0 ≤ c then 1 else -14) else -1) else -1)) := by
  unfold f_X12_row
  rw [m_isShelf, bind_s]
  by_cases g : 0 ≤ a ∧ a < 6
  · rw [if_pos g, if_neg (by decide), m_in, bind_s]
    by_cases g1 : 0 ≤ b ∧ b ≤ 4
    · rw [if_pos g1, if_neg (by decide), if_pos (show (0 ≤ a ∧ a < 6) ∧ (0 ≤ b ∧ b ≤ 4) from ⟨g, g1⟩)]
      by_cases g2 : c ≤ 60
      · rw [if_pos g2, if_pos g2]
        by_cases g3 : 0 ≤ c
        · rw [if_pos g3, if_pos g3, if_pos (vin6 g), nm_eq, if_pos (vin6 g), nm_eq, nm_eq]
          have hv := vin6 g
          rcases six g with rfl | rfl | rfl | rfl | rfl | rfl <;> exact m_row54 (by decide) (by decide) hv (by decide)
        · rw [if_neg g3, if_neg g3]
          exact T_some.mpr rfl
      · rw [if_neg g2, if_neg g2]
        exact T_some.mpr rfl
    · rw [if_neg g1, if_pos rfl, if_neg (fun k => g1 k.2)]
      exact T_some.mpr rfl
  · rw [if_neg g, if_pos rfl, if_neg (fun k => g k.1)]
    exact T_some.mpr rfl
theorem x_hasNumber {q : SS} (h1 : q.1 1 1 = 0) (h2 : q.1 1 2 = 0) (k a : Int32) : f_X10_hasNumber q k a = some (if (k = 7 ∨ k = 8) ∧ a = 0 then 1 else 0) := by
  unfold f_X10_hasNumber b_X10_hasNumber_49
  rw [h1, h2]
  by_cases g : (k = 7 ∨ k = 8) ∧ a = 0
  · obtain ⟨rfl | rfl, rfl⟩ := g <;> rfl
  · rw [if_neg g]
    by_cases g1 : k < 0
    · rw [if_pos g1]
    · rw [if_neg g1]
      by_cases g2 : 8 < k
      · rw [if_pos g2]
      · rw [if_neg g2]
        by_cases g3 : 0 ≤ a
        · rw [if_pos g3, if_pos g3]
          by_cases g4 : k < 7
          · rw [if_pos g4]
            exact ite_same rfl
          · rw [if_neg g4]
            have g5 : k = 7 ∨ k = 8 := by
              rw [Int32.lt_iff_toInt_lt] at g2 g4
              rw [← Int32.toInt_inj, ← Int32.toInt_inj]
              have e7 : (7 : Int32).toInt = 7 := rfl
              have e8 : (8 : Int32).toInt = 8 := rfl
              omega
            rw [if_neg (fun e => g ⟨g5, e⟩)]
        · rw [if_neg g3]
theorem m_isPlace {q : SS} (h1 : q.1 60 1 = 0) (h2 : q.1 60 6 = 0) (a k : Int32) : f_X12_isPlace q a k = some (if (k = 7 ∨ k = 8) ∧ a = 0 then 1 else 0) := by
  unfold f_X12_isPlace
  rw [m_in, bind_s, m_in, bind_s, m_in, bind_s, m_isTicket h2, m_isOne h1, bind_s]
  by_cases g : (k = 7 ∨ k = 8) ∧ a = 0
  · obtain ⟨rfl | rfl, rfl⟩ := g <;> rfl
  · rw [if_neg g]
    by_cases g1 : 0 ≤ k ∧ k ≤ 3
    · rw [if_pos g1]; rfl
    · rw [if_neg g1, if_pos rfl]
      by_cases g2 : 4 ≤ k ∧ k ≤ 6
      · rw [if_pos g2]; rfl
      · rw [if_neg g2, if_pos rfl]
        by_cases g3 : 7 ≤ k ∧ k ≤ 8
        · rw [if_pos g3, if_neg (by decide)]
          have g5 : k = 7 ∨ k = 8 := by
            obtain ⟨k1, k2⟩ := g3
            rw [Int32.le_iff_toInt_le] at k1 k2
            rw [← Int32.toInt_inj, ← Int32.toInt_inj]
            have e7 : (7 : Int32).toInt = 7 := rfl
            have e8 : (8 : Int32).toInt = 8 := rfl
            omega
          rw [if_neg (fun e => g ⟨g5, e⟩)]
        · rw [if_neg g3, if_pos rfl]

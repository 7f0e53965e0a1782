theorem x_get4 {q : SS} (h1 : q.1 1 1 = 0) (h2 : q.1 1 2 = 0) (a : Int32) : f_X10_get q 4 a = some 0 := by
  unfold f_X10_get
  rw [x_hasNumber h1 h2, bind_s, if_neg (show ¬ (((4 : Int32) = 7 ∨ (4 : Int32) = 8) ∧ a = 0) from fun h => absurd h.1 (by decide)), if_pos rfl]
def JX (q0 q : SS) : Prop := q.1 1 1 = 0 ∧ q.1 1 2 = 0 ∧ K60 q0 q
theorem x_begin {q0 q : SS} (j : JX q0 q) : T (f_X8_begin q) (JX q0) := by
  unfold f_X8_begin b_X8_begin_2
  refine T_fx2 (fun q l => JX q0 q ∧ 0 ≤ l.toInt) (fun _ l => (12 - l.toInt).toNat) ?_ _ _ _ ⟨j, by decide⟩ (by decide)
  rintro rec q l ⟨j, h0⟩ hrec
  rw [T_ite]
  refine ⟨fun _ => T_some.mpr j, fun g => ?_⟩
  rw [Int32.le_iff_toInt_le] at g
  have e12 : (12 : Int32).toInt = 12 := rfl
  rw [x_get4 j.1 j.2.1, bind_s, if_pos (show vin l 12 from ⟨h0, by show l.toInt < 12; omega⟩), nm_eq]
  have e := inc_toInt h0 (by omega)
  exact hrec _ _ ⟨⟨by rw [sI_rd, if_neg (by omega)]; exact j.1, by rw [sI_rd, if_neg (by omega)]; exact j.2.1, (k60_sI (by decide)).mpr j.2.2⟩, by omega⟩ (by omega)
theorem x_reals {q : SS} (h : q.1 1 2 = 0) : f_X8_reals q = some 0 := by
  unfold f_X8_reals b_X8_reals_4
  rw [fx2_s]
  unfold f_X10_tickets
  rw [bind_s, h]
  rfl
theorem x_kingDrawn {q : SS} (h : q.1 1 2 = 0) (a : Int32) : f_X8_kingDrawn q a = some (-2) := by
  unfold f_X8_kingDrawn
  rw [x_reals h]
  rfl
theorem x_slipDrawn {q : SS} (h : q.1 1 2 = 0) (a : Int32) : f_X8_slipDrawn q a = some (0, q) := by
  unfold f_X8_slipDrawn f_X10_tickets f_X10_people
  rw [bind_s, bind_s, h]
  rfl
theorem x_drawn87 {q0 q : SS} {P : Int32 × SS → Prop} {r70 : SS → Int32 → Int32 → Int32 → Int32 → Int32 → Int32 → Int32 → Option (Int32 × SS)} {v1 v2 l6 l8 l9 : Int32} (hv : v2 ≤ 30) (j : JX q0 q)
    (H : ∀ q l6 l8, JX q0 q → T (r70 q (-1) v1 v2 l6 0 l8 (l9 + 1)) P) : T (b_X11_drawn_87 r70 q (-1) v1 v2 l6 0 l8 l9 0) P := by
  unfold b_X11_drawn_87
  refine T_fx9 (fun q l3 l4 l5 _ l7 _ m9 l10 => JX q0 q ∧ l3 = -1 ∧ l4 = v1 ∧ l5 = v2 ∧ l7 = 0 ∧ m9 = l9 ∧ 0 ≤ l10.toInt) (fun _ _ _ _ _ _ _ _ l10 => (40 - l10.toInt).toNat) ?_ _ _ _ _ _ _ _ _ _ _ ⟨j, rfl, rfl, rfl, rfl, rfl, by decide⟩ (by decide)
  rintro rec q l3 l4 l5 l6 l7 l8 m9 l10 ⟨j, rfl, rfl, rfl, rfl, rfl, h0⟩ hrec
  rw [T_ite]
  refine ⟨fun _ => ?_, fun g => ?_⟩
  · unfold f_X11_nextDraw
    rw [bind_s, x_kingDrawn j.2.1, bind_s, if_neg (by decide)]
    unfold b_X11_drawn_156
    rw [nm_eq]
    exact H _ _ _ j
  · unfold f_X11_nextDraw
    rw [Int32.le_iff_toInt_le] at g hv
    have e30 : (30 : Int32).toInt = 30 := rfl
    rw [bind_s, x_slipDrawn j.2.1, bind_s, if_pos rfl]
    unfold b_X11_drawn_120
    rw [nm_eq]
    have e := inc_toInt h0 (by omega)
    exact hrec _ _ _ _ _ _ _ _ _ ⟨j, rfl, rfl, rfl, by decide, rfl, by omega⟩ (by omega)
theorem x_drawn58 {q : SS} {a v1 v2 : Int32} (h : FX q) (h1 : v1 ≤ 30) (h2 : v2 ≤ 30) : T (b_X11_drawn_58 q a (-1) v1 v2) (fun r => r.1 = 0 ∧ K60 q r.2) := by
  unfold b_X11_drawn_58 b_X11_drawn_70
  refine T_fx8 (fun r l3 l4 l5 _ l7 _ l9 => JX q r ∧ l3 = -1 ∧ l4 = v1 ∧ l5 = v2 ∧ l7 = 0 ∧ 0 ≤ l9.toInt) (fun _ _ _ _ _ _ _ l9 => (40 - l9.toInt).toNat) ?_ _ _ _ _ _ _ _ _ _ ⟨⟨fx_1_1 h, fx_1_2 h, k60_r.mpr trivial⟩, rfl, rfl, rfl, rfl, by decide⟩ (by decide)
  rintro rec r l3 l4 l5 l6 l7 l8 l9 ⟨j, rfl, rfl, rfl, rfl, h0⟩ hrec
  rw [T_ite]
  refine ⟨fun _ => ?_, fun g => ?_⟩
  · rw [if_pos rfl]
    exact T_some.mpr ⟨rfl, j.2.2⟩
  · rw [Int32.le_iff_toInt_le] at g h1
    have e30 : (30 : Int32).toInt = 30 := rfl
    have e := inc_toInt h0 (by omega)
    rw [T_bind]
    obtain ⟨r2, g1, g2⟩ := x_begin j
    exact ⟨r2, g1, x_drawn87 h2 g2 (fun q3 m6 m8 j3 => hrec _ _ _ _ _ _ _ _ ⟨j3, rfl, rfl, rfl, rfl, by omega⟩ (by omega))⟩
theorem x_drawn {q : SS} (h : FX q) (a b c : Int32) : T (f_X11_drawn q a b c) (fun r => r.1 = (if (1 ≤ b / 100 ∧ b / 100 ≤ 30) ∧ (1 ≤ jrem b 100 ∧ jrem b 100 ≤ 30) ∧ c = -1 then 0 else -1) ∧ K60 q r.2) := by
  unfold f_X11_drawn
  rw [nm_eq, nm_eq]
  generalize b / 100 = v1
  generalize jrem b 100 = v2
  by_cases g1 : v1 < 1
  · rw [if_pos g1, if_neg (fun k => absurd g1 (Int32.not_lt.mpr k.1.1))]
    exact T_some.mpr ⟨rfl, k60_r.mpr trivial⟩
  · rw [if_neg g1]
    by_cases g2 : 30 < v1
    · rw [if_pos g2, if_neg (fun k => absurd g2 (Int32.not_lt.mpr k.1.2))]
      exact T_some.mpr ⟨rfl, k60_r.mpr trivial⟩
    · rw [if_neg g2]
      by_cases g3 : v2 < 1
      · rw [if_pos g3, if_neg (fun k => absurd g3 (Int32.not_lt.mpr k.2.1.1))]
        exact T_some.mpr ⟨rfl, k60_r.mpr trivial⟩
      · rw [if_neg g3]
        by_cases g4 : v2 ≤ 30
        · rw [if_pos g4]
          by_cases g5 : c = -1
          · subst g5
            rw [if_pos rfl, if_pos (show (1 ≤ v1 ∧ v1 ≤ 30) ∧ (1 ≤ v2 ∧ v2 ≤ 30) ∧ (-1 : Int32) = -1 from ⟨⟨Int32.not_lt.mp g1, Int32.not_lt.mp g2⟩, ⟨Int32.not_lt.mp g3, g4⟩, rfl⟩)]
            exact x_drawn58 h (Int32.not_lt.mp g2) g4
          · rw [if_neg g5, x_isPerson (fx_p h), bind_s, if_pos rfl, if_neg (fun k => g5 k.2.2)]
            exact T_some.mpr ⟨rfl, k60_r.mpr trivial⟩
        · rw [if_neg g4, if_neg (fun k => g4 k.2.1.2)]
          exact T_some.mpr ⟨rfl, k60_r.mpr trivial⟩
theorem div_neg {b : Int32} (h : b < 0) : ¬ (1 : Int32) ≤ b / 100 := by
  rw [Int32.lt_iff_toInt_lt] at h
  rw [Int32.le_iff_toInt_le, Int32.toInt_div]
  have e0 : (0 : Int32).toInt = 0 := rfl
  have e1 : (1 : Int32).toInt = 1 := rfl
  have e2 : (100 : Int32).toInt = 100 := rfl
  have hl := Int32.le_toInt b
  rw [e2, e1]
  have e : b.toInt.tdiv 100 = -((-b.toInt) / 100) := by
    rw [← Int.tdiv_eq_ediv_of_nonneg (by omega), Int.neg_tdiv, Int.neg_neg]
  rw [e]
  unfold Int.bmod
  simp only []
  split <;> omega
theorem m_drawn {q : SS} (h : FM q) (a b c : Int32) : T (f_X12_drawn q a b c) (fun r => r.1 = (if (1 ≤ b / 100 ∧ b / 100 ≤ 30) ∧ (1 ≤ jrem b 100 ∧ jrem b 100 ≤ 30) ∧ c = -1 then 0 else -1)) := by
  unfold f_X12_drawn
  by_cases g0 : b < 0
  · rw [if_pos g0, if_neg (fun k => div_neg g0 k.1.1)]
    exact T_some.mpr rfl
  · rw [if_neg g0, m_in, bind_s]
    by_cases g1 : 1 ≤ b / 100 ∧ b / 100 ≤ 30
    · rw [if_pos g1, if_neg (by decide), m_in, bind_s]
      by_cases g2 : 1 ≤ jrem b 100 ∧ jrem b 100 ≤ 30
      · rw [if_pos g2, if_neg (by decide), fm_60_1 h, m_in, bind_s]
        by_cases g3 : (-1 : Int32) ≤ c ∧ c ≤ 0 - 1
        · have g4 : c = -1 := by
            obtain ⟨k1, k2⟩ := g3
            rw [Int32.le_iff_toInt_le] at k1 k2
            rw [← Int32.toInt_inj]
            have e1 : (-1 : Int32).toInt = -1 := rfl
            have e3 : ((0 : Int32) - 1).toInt = -1 := rfl
            omega
          rw [if_pos g3, if_neg (by decide), if_pos (show (1 ≤ b / 100 ∧ b / 100 ≤ 30) ∧ (1 ≤ jrem b 100 ∧ jrem b 100 ≤ 30) ∧ c = -1 from ⟨g1, g2, g4⟩)]
          unfold b_X12_drawn_58 b_X12_drawn_232
          rw [fx7_s, fm_60_6 h, if_pos (show (0 : Int32) ≤ 0 by decide)]
          simp [T_ite, T_some]
        · have g4 : ¬ c = -1 := by
            rintro rfl
            exact g3 ⟨by decide, by decide⟩
          rw [if_neg g3, if_pos rfl, if_neg (fun k => g4 k.2.2)]
          exact T_some.mpr rfl
      · rw [if_neg g2, if_pos rfl, if_neg (fun k => g2 k.2.1)]
        exact T_some.mpr rfl
    · rw [if_neg g1, if_pos rfl, if_neg (fun k => g1 k.1)]
      exact T_some.mpr rfl

theorem T_of {ρ : Type} {o : Option ρ} {r : ρ} {P : ρ → Prop} (h : o = some r) (k : P r) : T o P := ⟨r, h, k⟩
theorem lt4 (a : Int32) : (0 ≤ a ∧ a ≤ 3) = (0 ≤ a ∧ a < 4) := by
  apply propext
  constructor
  · rintro ⟨h1, h2⟩
    refine ⟨h1, ?_⟩
    rw [Int32.le_iff_toInt_le] at h2
    rw [Int32.lt_iff_toInt_lt]
    have e1 : (3 : Int32).toInt = 3 := rfl
    have e2 : (4 : Int32).toInt = 4 := rfl
    omega
  · rintro ⟨h1, h2⟩
    refine ⟨h1, ?_⟩
    rw [Int32.lt_iff_toInt_lt] at h2
    rw [Int32.le_iff_toInt_le]
    have e1 : (3 : Int32).toInt = 3 := rfl
    have e2 : (4 : Int32).toInt = 4 := rfl
    omega
theorem m_led {q : SS} (h : FM q) (a : Int32) : T (f_X12_led q a) (fun r => r = (if 0 ≤ a ∧ a < 4 then 0 else -1)) := by
  unfold f_X12_led
  rw [m_in, bind_s]
  simp only [lt4]
  by_cases g : 0 ≤ a ∧ a < 4
  · have hv : vin a 4 := ⟨Int32.le_iff_toInt_le.mp g.1, Int32.lt_iff_toInt_lt.mp g.2⟩
    rw [if_pos g, if_neg (by decide), if_pos hv, fm_83 h _ (vin_cn hv)]
    exact T_some.mpr (if_pos g).symm
  · rw [if_neg g, if_pos rfl]
    exact T_some.mpr (if_neg g).symm
theorem m_trace {q : SS} (h : FM q) (a : Int32) : T (f_X12_trace q a) (fun r => r = -1) := by
  unfold f_X12_trace
  by_cases g : a < 0
  · rw [if_pos g]; exact T_some.mpr rfl
  · rw [if_neg g, fm_60_54 h, if_pos (neg_or_le a g)]; exact T_some.mpr rfl
theorem m_count {q : SS} (h : FM q) (a : Int32) : T (f_X12_count q a) (fun r => r = (if 0 ≤ a ∧ a ≤ 5 then 0 else -1)) := by
  unfold f_X12_count
  simp only [fm_60_1 h, fm_60_6 h, fm_60_18 h, fm_60_11 h, fm_60_52 h, fm_60_54 h, sw]
  simp only [T_ite, T_some, Int32.le_iff_toInt_le]
  simp
  omega
theorem m_isBody {q : SS} {a : Int32} (h : q.1 60 52 = 0) : f_X12_isBody q a = some 0 := by
  unfold f_X12_isBody
  rw [h, m_in0]
  rfl
theorem m_body {q : SS} (h : FM q) (a : Int32) : T (f_X12_body q a) (fun r => r.1 = (if 0 ≤ a ∧ a ≤ 7 then 0 else -1)) := by
  unfold f_X12_body
  rw [m_in, bind_s]
  by_cases g : 0 ≤ a ∧ a ≤ 7
  · rw [if_pos g, if_neg (by decide), if_pos g]
    simp [T_bind, T_some, vin, nm_eq, sI_rd, fm_60_52 h]
  · rw [if_neg g, if_pos rfl, if_neg g]
    exact T_some.mpr rfl
theorem m_act {q : SS} (h : FM q) (a b c : Int32) : T (f_X12_act q a b c) (fun r => r.1 = 0) := by
  unfold f_X12_act
  rw [nm_eq, m_isBody (by rw [sI_rd, if_neg (by decide)]; exact fm_60_52 h)]
  exact T_some.mpr rfl
theorem m_keep {q : SS} (h : FM q) (a b : Int32) : T (f_X12_keep q a b) (fun r => r.1 = (if (0 ≤ a ∧ a < 6) ∧ b = -1 then 1 else -1)) := by
  unfold f_X12_keep b_X12_keep_22
  rw [m_isShelf, bind_s]
  by_cases g : 0 ≤ a ∧ a < 6
  · rw [if_pos g, if_neg (by decide)]
    by_cases g1 : b = -1
    · rw [if_pos g1, if_pos (vin6 g), if_pos ⟨g, g1⟩]
      exact T_some.mpr rfl
    · rw [if_neg g1, m_isBody (fm_60_52 h), if_neg (fun k : (0 ≤ a ∧ a < 6) ∧ b = -1 => g1 k.2)]
      exact T_some.mpr rfl
  · rw [if_neg g, if_pos rfl, if_neg (fun k => g k.1)]
    exact T_some.mpr rfl
theorem m_whyNoPlace {q : SS} (h : FM q) (a b : Int32) : f_X12_whyNoPlace q a b = some (if 0 ≤ a ∧ a < 6 then -11 else -1) := by
  unfold f_X12_whyNoPlace
  rw [m_isShelf, bind_s]
  by_cases g : 0 ≤ a ∧ a < 6
  · rw [if_pos g, if_neg (by decide), if_pos (vin6 g), fm_89 h _ (vin_cn (vin6 g)), if_pos rfl, if_pos g]
  · rw [if_neg g, if_pos rfl, if_neg g]
theorem m_put {q : SS} (h : FM q) (a b : Int32) (c : Int64) : T (f_X12_put q a b c) (fun r => r.1 = (if 0 ≤ a ∧ a < 6 then -11 else -1)) := by
  unfold f_X12_put
  rw [m_whyNoPlace h, bind_s]
  by_cases g : 0 ≤ a ∧ a < 6
  · rw [if_pos g]; exact T_some.mpr rfl
  · rw [if_neg g]; exact T_some.mpr rfl
theorem m_element {q : SS} (h : FM q) (a b : Int32) : T (f_X12_element q a b) (fun r => r = MINL) := by
  unfold f_X12_element
  rw [m_whyNoPlace h, bind_s]
  by_cases g : 0 ≤ a ∧ a < 6
  · rw [if_pos g]; exact T_some.mpr rfl
  · rw [if_neg g]; exact T_some.mpr rfl
theorem m_shift {q : SS} (h : FM q) (a b c d e : Int32) : T (f_X12_shift q a b c d e) (fun r => r.1 = (if 0 ≤ a ∧ a < 6 ∧ 0 ≤ c ∧ c < 6 then -11 else -1)) := by
  unfold f_X12_shift
  rw [m_isShelf, bind_s]
  by_cases g : 0 ≤ a ∧ a < 6
  · rw [if_pos g, if_neg (by decide), m_isShelf, bind_s]
    by_cases g2 : 0 ≤ c ∧ c < 6
    · rw [if_pos g2, if_neg (by decide), if_pos (vin6 g), fm_89 h _ (vin_cn (vin6 g)), if_pos rfl, if_pos ⟨g.1, g.2, g2.1, g2.2⟩]
      exact T_some.mpr rfl
    · rw [if_neg g2, if_pos rfl, if_neg (fun k => g2 k.2.2)]
      exact T_some.mpr rfl
  · rw [if_neg g, if_pos rfl, if_neg (fun k => g ⟨k.1, k.2.1⟩)]
    exact T_some.mpr rfl
theorem lt8 (a : Int32) (g : ¬ a < 0) : ((8 : Int32) ≤ a) = ¬ (0 ≤ a ∧ a ≤ 7) := by
  have h0 := neg_or_le a g
  apply propext
  constructor
  · rintro h ⟨-, h2⟩
    rw [Int32.le_iff_toInt_le] at h h2
    have e1 : (7 : Int32).toInt = 7 := rfl
    have e2 : (8 : Int32).toInt = 8 := rfl
    omega
  · intro h
    have h2 : ¬ a ≤ 7 := fun k => h ⟨h0, k⟩
    rw [Int32.le_iff_toInt_le] at h2 ⊢
    have e1 : (7 : Int32).toInt = 7 := rfl
    have e2 : (8 : Int32).toInt = 8 := rfl
    omega
theorem x_isKind (q : SS) (a : Int32) : f_X3_isKind q a = some (if 0 ≤ a ∧ a ≤ 7 then 1 else 0) := by
  unfold f_X3_isKind
  by_cases g : a < 0
  · rw [if_pos g, if_neg (fun h => absurd g (Int32.not_lt.mpr h.1))]
  · rw [if_neg g]
    simp only [lt8 a g]
    by_cases g2 : 0 ≤ a ∧ a ≤ 7
    · rw [if_neg (fun k => k g2), if_pos g2]
    · rw [if_pos g2, if_neg g2]
theorem x_taken {q : SS} (h : FX q) (a b : Int32) : f_X11_taken q a b = some (if (0 ≤ a ∧ a < 6) ∧ (0 ≤ b ∧ b ≤ 7) then -11 else -1) := by
  unfold f_X11_taken
  rw [x_isShelf, bind_s]
  by_cases g : 0 ≤ a ∧ a < 6
  · rw [if_pos g, if_neg (by decide), x_isKind, bind_s]
    by_cases g2 : 0 ≤ b ∧ b ≤ 7
    · rw [if_pos g2, if_neg (by decide), x_isEmpty h g, bind_s, if_neg (by decide), if_pos ⟨g, g2⟩]
    · rw [if_neg g2, if_pos rfl, if_neg (fun k => g2 k.2)]
  · rw [if_neg g, if_pos rfl, if_neg (fun k => g k.1)]
theorem m_taken {q : SS} (h : FM q) (a b : Int32) : T (f_X12_taken q a b) (fun r => r = (if (0 ≤ a ∧ a < 6) ∧ (0 ≤ b ∧ b ≤ 7) then -11 else -1)) := by
  unfold f_X12_taken
  rw [m_isShelf, bind_s]
  by_cases g : 0 ≤ a ∧ a < 6
  · rw [if_pos g, if_neg (by decide), m_in, bind_s]
    by_cases g2 : 0 ≤ b ∧ b ≤ 7
    · rw [if_pos g2, if_neg (by decide), if_pos (vin6 g), fm_89 h _ (vin_cn (vin6 g)), if_pos rfl, if_pos ⟨g, g2⟩]
      exact T_some.mpr rfl
    · rw [if_neg g2, if_pos rfl, if_neg (fun k => g2 k.2)]
      exact T_some.mpr rfl
  · rw [if_neg g, if_pos rfl, if_neg (fun k => g k.1)]
    exact T_some.mpr rfl

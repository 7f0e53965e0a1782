/-- the model's cells stay -/
def K60 (q r : SS) : Prop := ∀ o, 60 ≤ o → r.1 o = q.1 o ∧ r.2 o = q.2 o
theorem k60_r {q : SS} : K60 q q ↔ True := ⟨fun _ => trivial, fun _ o _ => ⟨rfl, rfl⟩⟩
theorem sI_o {q : SS} {o i a : Nat} {x : Int32} (h : a ≠ o) : (sI q o i x).1 a = q.1 a := up2_n h
theorem sL_o {q : SS} {o i a : Nat} {x : Int64} (h : a ≠ o) : (sL q o i x).2 a = q.2 a := up2_n h
theorem sR_o {q : SS} {o a : Nat} {f : Nat → Int32} (h : a ≠ o) : (sR q o f).1 a = q.1 a := up1_n h
theorem k60_sI {q r : SS} {o i : Nat} {x : Int32} (h : o < 60) : K60 q (sI r o i x) ↔ K60 q r := by
  unfold K60
  constructor
  · intro k a ha
    have := k a ha
    rw [sI_o (by omega)] at this
    exact this
  · intro k a ha
    rw [sI_o (by omega)]
    exact k a ha
theorem k60_sL {q r : SS} {o i : Nat} {x : Int64} (h : o < 60) : K60 q (sL r o i x) ↔ K60 q r := by
  unfold K60
  constructor
  · intro k a ha
    have := k a ha
    rw [sL_o (by omega)] at this
    exact this
  · intro k a ha
    rw [sL_o (by omega)]
    exact k a ha
theorem k60_sR {q r : SS} {o : Nat} {f : Nat → Int32} (h : o < 60) : K60 q (sR r o f) ↔ K60 q r := by
  unfold K60
  constructor
  · intro k a ha
    have := k a ha
    rw [sR_o (by omega)] at this
    exact this
  · intro k a ha
    rw [sR_o (by omega)]
    exact k a ha
theorem sI_rd {q : SS} {o i a j : Nat} {x : Int32} : (sI q o i x).1 a j = if a = o ∧ j = i then x else q.1 a j := rfl
theorem sI_2 {q : SS} {o i : Nat} {x : Int32} : (sI q o i x).2 = q.2 := rfl
theorem sL_rd {q : SS} {o i a j : Nat} {x : Int64} : (sL q o i x).2 a j = if a = o ∧ j = i then x else q.2 a j := rfl
theorem sL_1 {q : SS} {o i : Nat} {x : Int64} : (sL q o i x).1 = q.1 := rfl
theorem sR_rd {q : SS} {o a : Nat} {f : Nat → Int32} : (sR q o f).1 a = if a = o then f else q.1 a := by
  by_cases h : a = o
  · subst h; rw [if_pos rfl]; exact up1_s
  · rw [if_neg h]; exact up1_n h
theorem fm_k {q r : SS} (k : K60 q r) (h : FM q) : FM r := by
  unfold FM at h ⊢
  simp only [(k 60 (by decide)).1, (k 60 (by decide)).2, (k 61 (by decide)).1, (k 61 (by decide)).2, (k 62 (by decide)).1, (k 62 (by decide)).2, (k 63 (by decide)).1, (k 63 (by decide)).2, (k 64 (by decide)).1, (k 64 (by decide)).2, (k 65 (by decide)).1, (k 65 (by decide)).2, (k 66 (by decide)).1, (k 66 (by decide)).2, (k 67 (by decide)).1, (k 67 (by decide)).2, (k 68 (by decide)).1, (k 68 (by decide)).2, (k 69 (by decide)).1, (k 69 (by decide)).2, (k 70 (by decide)).1, (k 70 (by decide)).2, (k 71 (by decide)).1, (k 71 (by decide)).2, (k 72 (by decide)).1, (k 72 (by decide)).2, (k 73 (by decide)).1, (k 73 (by decide)).2, (k 74 (by decide)).1, (k 74 (by decide)).2, (k 75 (by decide)).1, (k 75 (by decide)).2, (k 76 (by decide)).1, (k 76 (by decide)).2, (k 77 (by decide)).1, (k 77 (by decide)).2, (k 78 (by decide)).1, (k 78 (by decide)).2, (k 79 (by decide)).1, (k 79 (by decide)).2, (k 80 (by decide)).1, (k 80 (by decide)).2, (k 81 (by decide)).1, (k 81 (by decide)).2, (k 82 (by decide)).1, (k 82 (by decide)).2, (k 83 (by decide)).1, (k 83 (by decide)).2, (k 84 (by decide)).1, (k 84 (by decide)).2, (k 85 (by decide)).1, (k 85 (by decide)).2, (k 86 (by decide)).1, (k 86 (by decide)).2, (k 87 (by decide)).1, (k 87 (by decide)).2, (k 88 (by decide)).1, (k 88 (by decide)).2, (k 89 (by decide)).1, (k 89 (by decide)).2, (k 90 (by decide)).1, (k 90 (by decide)).2, (k 91 (by decide)).1, (k 91 (by decide)).2, (k 92 (by decide)).1, (k 92 (by decide)).2]
  exact h
theorem x_person {q : SS} (h : FX q) (a : Int32) : T (f_X11_person q a) (fun r => r.1 = (if 0 ≤ a ∧ a ≤ 12 then 0 else -1) ∧ K60 q r.2) := by
  by_cases g : a < 0
  · have g2 : ¬ (0 ≤ a ∧ a ≤ 12) := fun k => absurd g (Int32.not_lt.mpr k.1)
    simp [f_X11_person, f_X10_mayBe, T_bind, T_some, vin, g, g2, k60_r]
  · by_cases g1 : a ≤ 12
    · have g2 : 0 ≤ a ∧ a ≤ 12 := ⟨neg_or_le a g, g1⟩
      have g3 : ¬ (12 : Int32) < a := Int32.not_lt.mpr g1
      simp [f_X11_person, f_X10_mayBe, f_X10_addPerson, f_X10_set, f_X10_hasNumber, b_X10_hasNumber_49, T_bind, T_some, vin, g, g2, g3, k60_r, k60_sI, sI_rd, nm_eq, fx_1_1 h, stv3_0]
    · have g2 : ¬ (0 ≤ a ∧ a ≤ 12) := fun k => g1 k.2
      have g3 : (12 : Int32) < a := Int32.not_le.mp g1
      simp [f_X11_person, f_X10_mayBe, T_bind, T_some, vin, g, g2, g3, k60_r, stv3_0]
theorem x_feed {q : SS} (h : FX q) (a : Int32) : T (f_X11_feed q a) (fun r => r.1 = (if 0 ≤ a ∧ a ≤ 255 then 1 else -1) ∧ K60 q r.2) := by
  by_cases g : a < 0
  · have g2 : ¬ (0 ≤ a ∧ a ≤ 255) := fun k => absurd g (Int32.not_lt.mpr k.1)
    simp [f_X11_feed, T_bind, T_some, vin, g, g2, k60_r]
  · by_cases g1 : a ≤ 255
    · have g2 : 0 ≤ a ∧ a ≤ 255 := ⟨neg_or_le a g, g1⟩
      simp [f_X11_feed, f_X5_addByte, T_bind, T_some, vin, g, g2, k60_r, k60_sI, sI_rd, nm_eq, fx_17_2 h]
    · have g2 : ¬ (0 ≤ a ∧ a ≤ 255) := fun k => g1 k.2
      simp [f_X11_feed, T_bind, T_some, vin, g, g1, g2, k60_r]
theorem x_hour {q : SS} (h : FX q) : T (f_X11_hour q) (fun r => r.1 = 1 ∧ K60 q r.2) := by
  simp [f_X11_hour, b_X11_hour_25, f_X10_hourNow, f_X10_get, f_X1_note, f_X10_set, f_X10_hasNumber, T_bind, T_some, vin, k60_r, k60_sI, sI_rd, nm_eq, fx_10 h]
theorem x_body {q : SS} (h : FX q) (a : Int32) : T (f_X11_body q a) (fun r => r.1 = (if 0 ≤ a ∧ a ≤ 7 then 0 else -1) ∧ K60 q r.2) := by
  by_cases g : a < 0
  · have g2 : ¬ (0 ≤ a ∧ a ≤ 7) := fun k => absurd g (Int32.not_lt.mpr k.1)
    simp [f_X11_body, f_X3_isKind, T_bind, T_some, vin, g, g2, k60_r]
  · by_cases g1 : a ≤ 7
    · have g2 : 0 ≤ a ∧ a ≤ 7 := ⟨neg_or_le a g, g1⟩
      have g3 : ¬ (8 : Int32) ≤ a := by rw [Int32.le_iff_toInt_le] at g1 ⊢; simp at g1 ⊢; omega
      simp [f_X11_body, f_X3_isKind, f_X3_addBody, T_bind, T_some, vin, g, g2, g3, k60_r, k60_sI, sI_rd, nm_eq, fx_57_2 h]
    · have g2 : ¬ (0 ≤ a ∧ a ≤ 7) := fun k => g1 k.2
      have g3 : (8 : Int32) ≤ a := by rw [Int32.le_iff_toInt_le] at g1 ⊢; simp at g1 ⊢; omega
      simp [f_X11_body, f_X3_isKind, T_bind, T_some, vin, g, g3, g2, k60_r]
theorem x_act {q : SS} (h : FX q) (a b c : Int32) : T (f_X11_act q a b c) (fun r => r.1 = 0 ∧ K60 q r.2) := by
  by_cases g : a < 0
  · simp [f_X11_act, f_X3_begin, f_X3_isBody, T_bind, T_some, vin, g, k60_r, k60_sI, nm_eq]
  · have g2 := neg_or_le a g
    simp [f_X11_act, f_X3_begin, f_X3_isBody, T_bind, T_some, vin, g, g2, k60_r, k60_sI, sI_rd, nm_eq, fx_57_2 h]
theorem x_count {q : SS} (h : FX q) (a : Int32) : T (f_X11_count q a) (fun r => r = (if 0 ≤ a ∧ a ≤ 5 then 0 else -1)) := by
  unfold f_X11_count
  simp only [f_X10_people, f_X10_tickets, f_X5_tapeLength, f_X0_done, f_X3_bodies, f_X3_ran, bind_s, fx_1_1 h, fx_1_2 h, fx_17_2 h, fx_52_5 h, fx_57_2 h, fx_57_3 h, sw]
  simp only [T_ite, T_some, Int32.le_iff_toInt_le]
  simp
  omega
theorem x_keep {q : SS} (h : FX q) (a b : Int32) : T (f_X11_keep q a b) (fun r => r.1 = (if (0 ≤ a ∧ a < 6) ∧ b = -1 then 1 else -1) ∧ K60 q r.2) := by
  unfold f_X11_keep b_X11_keep_29
  rw [x_isShelf, bind_s]
  by_cases g : 0 ≤ a ∧ a < 6
  · rw [if_pos g, if_neg (by decide)]
    by_cases g1 : b = -1
    · rw [if_pos g1, if_pos g1, if_pos ⟨g, g1⟩]
      unfold f_X7_clear
      rw [x_isShelf, bind_s, if_pos g, if_neg (by decide), if_pos (vin6 g)]
      simp [T_bind, T_some, vin, nm_eq, k60_sI, k60_r]
    · rw [if_neg g1, if_neg (fun k : (0 ≤ a ∧ a < 6) ∧ b = -1 => g1 k.2)]
      unfold f_X3_isBody
      by_cases g2 : b < 0
      · simp [T_bind, T_some, vin, g2, k60_r]
      · simp [T_bind, T_some, vin, g2, fx_57_2 h, neg_or_le b g2, k60_r]
  · rw [if_neg g, if_pos rfl, if_neg (fun k => g k.1)]
    exact T_some.mpr ⟨rfl, k60_r.mpr trivial⟩

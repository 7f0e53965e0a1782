/-! ===== the class reads a law: what calls itself ===== -/
theorem x_level5 (z : SS) (a : Int32) : T (f_X5_levelOf z a) (fun r => 0 ≤ r.toInt ∧ r.toInt ≤ 5) := by
  unfold f_X5_levelOf
  repeat (refine T_sw (fun _ => T_some.mpr (by decide)) (fun _ => ?_))
  exact T_sw0 (T_some.mpr (by decide))
def b01 (a : Int32) : Prop := a = 0 ∨ a = 1
def PX (q : SS) (r : Int32 × SS) : Prop := XL q r.2 ∧ (r.1 = 0 ∨ r.1 = 1)
def LJ (n : Nat) : Prop := ∀ (q z : SS), XL q z →
  (∀ a1 a2 : Int32, (1 ≤ a1.toInt ∧ a1.toInt ≤ 6) → (0 ≤ a2.toInt ∧ a2.toInt ≤ 6) → 10 * (6 - a2.toInt) + 8 - a1.toInt ≤ (n : Int) → T ((g_X5_readJoined n).1 z a1 a2) (PX q))
  ∧ (∀ a1 : Int32, (0 ≤ a1.toInt ∧ a1.toInt ≤ 6) → 10 * (6 - a1.toInt) + 1 ≤ (n : Int) → T ((g_X5_readJoined n).2.1 z a1) (PX q))
  ∧ (∀ a1 a2 : Int32, (0 ≤ a2.toInt ∧ a2.toInt ≤ 6) → 10 * (6 - a2.toInt) + 2 ≤ (n : Int) → T ((g_X5_readJoined n).2.2.1 z a1 a2) (PX q))
  ∧ (∀ a1 : Int32, (0 ≤ a1.toInt ∧ a1.toInt ≤ 6) → 10 * (6 - a1.toInt) + 8 ≤ (n : Int) → T ((g_X5_readJoined n).2.2.2 z a1) (PX q))
theorem LJ_0 : LJ 0 := by
  intro q z _
  exact ⟨fun a1 a2 h1 h2 h => absurd h (by omega), fun a1 h1 h => absurd h (by omega), fun a1 a2 h1 h => absurd h (by omega), fun a1 h1 h => absurd h (by omega)⟩
theorem LJ_J {n : Nat} (ih : LJ n) {q z : SS} (hz : XL q z) {a1 a2 : Int32} (h1 : 1 ≤ a1.toInt ∧ a1.toInt ≤ 6) (h2 : 0 ≤ a2.toInt ∧ a2.toInt ≤ 6) (hn : 10 * (6 - a2.toInt) + 8 - a1.toInt ≤ ((n + 1 : Nat) : Int)) : T (fb_X5_readJoined (g_X5_readJoined n) z a1 a2) (PX q) := by
  have l120 : (120 : Int32).toInt = 120 := rfl
  unfold fb_X5_readJoined b_X5_readJoined_12 b_X5_readJoined_97
  refine T_b ((ih q z hz).2.1 a2 h2 (by omega)) (fun r1 hr1 => ?_)
  refine T_fx6 (fun y l1 l2 _ l4 l5 => XL q y ∧ l1 = a1 ∧ l2 = a2 ∧ (l4 = 0 ∨ l4 = 1) ∧ 0 ≤ l5.toInt ∧ l5.toInt ≤ 120) (fun _ _ _ _ _ l5 => (120 - l5.toInt).toNat) ?_ _ _ _ _ _ _ _ ⟨hr1.1, rfl, rfl, hr1.2, by decide, by decide⟩ (by unfold FU; decide)
  rintro rec y l1 l2 l3 l4 l5 ⟨hy, rfl, rfl, h4, b0, b1⟩ hr
  refine T_le (fun _ => T_p h4 (T_some.mpr ⟨hy, h4⟩)) (fun g => T_i (fun _ => T_p h4 (T_some.mpr ⟨hy, h4⟩)) (fun _ => T_b (x_next y) (fun r2 _ => T_b (x_level5 y r2) (fun r3 h3 => T_lt (fun _ => T_some.mpr ⟨hy, Or.inr rfl⟩) (fun g3 => T_i (fun _ => ?_) (fun _ => T_some.mpr ⟨hy, Or.inr rfl⟩))))))
  have e3 := inc1 (a := r3) (by omega) (by omega)
  have e5 := inc1 (a := l5) (by omega) (by omega)
  refine T_nm (T_b ((ih q _ (XL_s hy)).1 (r3 + 1) l2 ⟨by omega, by omega⟩ h2 (by omega)) (fun r5 h5 => T_b (x_addStep h5.1 r2 0) (fun r6 h6 => T_i (fun _ => ?_) (fun _ => ?_))))
  · exact hr _ _ _ _ _ _ ⟨h6, rfl, rfl, h5.2, by omega, by omega⟩ (by omega)
  · exact hr _ _ _ _ _ _ ⟨h6, rfl, rfl, h5.2, by omega, by omega⟩ (by omega)
theorem LJ_O {n : Nat} (ih : LJ n) {q z : SS} (hz : XL q z) {a1 : Int32} (h1 : 0 ≤ a1.toInt ∧ a1.toInt ≤ 6) (hn : 10 * (6 - a1.toInt) + 1 ≤ ((n + 1 : Nat) : Int)) : T (fb_X5_readOperand (g_X5_readJoined n) z a1) (PX q) := by
  have l6 : (6 : Int32).toInt = 6 := rfl
  have e1 := inc1 (a := a1) (by omega) (by omega)
  have t75 : ∀ l2 : Int32, a1.toInt < 6 → T (b_X5_readOperand_75 (g_X5_readJoined n) z a1 l2) (PX q) := by
    intro l2 h6
    unfold b_X5_readOperand_75
    refine T_nm (T_i (fun _ => T_b ((ih q _ (XL_s hz)).2.2.2 (a1 + 1) ⟨by omega, by omega⟩ (by omega)) (fun r5 h5 => T_p h5.2 (T_some.mpr ⟨h5.1, h5.2⟩))) (fun _ => T_b ((ih q _ (XL_s hz)).2.2.1 l2 (a1 + 1) ⟨by omega, by omega⟩ (by omega)) (fun r6 h6 => T_p h6.2 (T_some.mpr ⟨h6.1, h6.2⟩))))
  unfold fb_X5_readOperand
  refine T_b (x_next z) (fun r1 _ => T_b (x_nameOf z r1) (fun r2 _ => T_b (x_isDigit z r1) (fun r3 _ => T_i (fun _ => T_i (fun _ => T_le (fun _ => T_some.mpr ⟨hz, Or.inl rfl⟩) (fun g => ?_)) (fun _ => ?_)) (fun _ => ?_))))
  · exact T_i (fun _ => t75 _ (by omega)) (fun _ => T_i (fun _ => t75 _ (by omega)) (fun _ => T_i (fun _ => t75 _ (by omega)) (fun _ => T_some.mpr ⟨hz, Or.inl rfl⟩)))
  · exact T_nm (T_b (x_addStep (XL_s hz) _ _) (fun r hr => T_some.mpr ⟨hr, Or.inr rfl⟩))
  · exact T_b (x_number hz) (fun r hr => T_some.mpr ⟨hr, Or.inr rfl⟩)
theorem LJ_T {n : Nat} (ih : LJ n) {q z : SS} (hz : XL q z) (a1 : Int32) {a2 : Int32} (h2 : 0 ≤ a2.toInt ∧ a2.toInt ≤ 6) (hn : 10 * (6 - a2.toInt) + 2 ≤ ((n + 1 : Nat) : Int)) : T (fb_X5_readTurned (g_X5_readJoined n) z a1 a2) (PX q) := by
  unfold fb_X5_readTurned b_X5_readTurned_23
  refine T_b ((ih q z hz).2.1 a2 h2 (by omega)) (fun r1 hr1 => T_i (fun _ => ?_) (fun _ => ?_))
  · exact T_b (x_addStep hr1.1 _ _) (fun r hr => T_p hr1.2 (T_some.mpr ⟨hr, hr1.2⟩))
  · exact T_b (x_addStep hr1.1 _ _) (fun r hr => T_p hr1.2 (T_some.mpr ⟨hr, hr1.2⟩))
theorem LJ_E {n : Nat} (ih : LJ n) {q z : SS} (hz : XL q z) {a1 : Int32} (h1 : 0 ≤ a1.toInt ∧ a1.toInt ≤ 6) (hn : 10 * (6 - a1.toInt) + 8 ≤ ((n + 1 : Nat) : Int)) : T (fb_X5_readEnclosed (g_X5_readJoined n) z a1) (PX q) := by
  have l1 : (1 : Int32).toInt = 1 := rfl
  unfold fb_X5_readEnclosed
  refine T_b ((ih q z hz).1 1 a1 ⟨by omega, by omega⟩ h1 (by omega)) (fun r1 hr1 => T_i (fun _ => T_some.mpr ⟨hr1.1, Or.inl rfl⟩) (fun _ => T_b (x_next r1.2) (fun r2 _ => T_i (fun _ => T_nm (T_some.mpr ⟨XL_s hr1.1, Or.inr rfl⟩)) (fun _ => T_some.mpr ⟨hr1.1, Or.inl rfl⟩))))
theorem LJ_all : ∀ n, LJ n
  | 0 => LJ_0
  | n + 1 => fun q z hz => ⟨fun a1 a2 h1 h2 h => LJ_J (LJ_all n) hz h1 h2 h, fun a1 h1 h => LJ_O (LJ_all n) hz h1 h, fun a1 a2 h2 h => LJ_T (LJ_all n) hz a1 h2 h, fun a1 h1 h => LJ_E (LJ_all n) hz h1 h⟩
theorem x_joined {q z : SS} (hz : XL q z) : T (f_X5_readJoined z 1 0) (PX q) := (LJ_all 900 q z hz).1 1 0 (by decide) (by decide) (by decide)
theorem x_readLine {q z : SS} (hz : XL q z) : T (f_X5_readLine z) (PX q) := by
  unfold f_X5_readLine b_X5_readLine_47
  have fin : ∀ y l, XL q y → (l = 0 ∨ l = 1) → T ((f_X4_addStep y 59 0).bind fun r2 => if l = (0 : Int32) ∨ l = 1 then some (l, r2) else none) (PX q) := fun y l hy hl => T_b (x_addStep hy _ _) (fun r hr => T_p hl (T_some.mpr ⟨hr, hl⟩))
  exact T_b (x_joined hz) (fun r1 h1 => T_i (fun _ => fin _ _ h1.1 h1.2) (fun _ => T_b (x_next r1.2) (fun r3 _ => T_i (fun _ => T_nm (T_b (x_addStep (XL_s h1.1) _ _) (fun r5 h5 => T_b (x_joined h5) (fun r6 h6 => fin _ _ h6.1 h6.2)))) (fun _ => fin _ _ h1.1 h1.2))))
theorem x_readText (q : SS) : T (f_X5_readText q) (fun r => XL q r.2) := by
  have l120 : (120 : Int32).toInt = 120 := rfl
  unfold f_X5_readText f_X4_clear
  have x0 : XL q (sI (sI q 17 3 0) 19 4 0) := ⟨Fr_sI (Fr_sI (Fr_refl q) rfl) rfl, by simp [sI_rd]⟩
  refine T_nm (T_rw rfl (T_b (x_readLine x0) (fun r3 h3 => ?_)))
  unfold b_X5_readText_19
  have fin : ∀ y l, XL q y → T (b_X5_readText_59 y l) (fun r => XL q r.2) := fun y l hy => by
    unfold b_X5_readText_59
    exact T_i (fun _ => T_some.mpr hy) (fun _ => T_i (fun _ => T_some.mpr hy) (fun _ => T_some.mpr hy))
  refine T_fx3 (fun y _ l2 => XL q y ∧ 0 ≤ l2.toInt ∧ l2.toInt ≤ 120) (fun _ _ l2 => (120 - l2.toInt).toNat) ?_ _ _ _ _ ⟨h3.1, by decide, by decide⟩ (by unfold FU; decide)
  rintro rec y l1 l2 ⟨hy, b0, b1⟩ hr
  have e2 : l2.toInt < 120 → (l2 + 1).toInt = l2.toInt + 1 := fun _ => inc1 (by omega) (by omega)
  exact T_le (fun _ => fin y l1 hy) (fun g => T_i (fun _ => fin y l1 hy) (fun _ => T_b (x_next y) (fun r6 _ => T_i (fun _ => T_nm (T_b (x_readLine (XL_s hy)) (fun r8 h8 => hr _ _ _ ⟨h8.1, by have := e2 (by omega); omega, by have := e2 (by omega); omega⟩ (by have := e2 (by omega); omega)))) (fun _ => fin y l1 hy))))

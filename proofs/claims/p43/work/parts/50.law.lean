/-! ===== the class's law: it answers, and what it writes ===== -/
def wL (k i : Nat) : Bool := k == 19 || k == 20 || k == 21 || k == 12 || k == 13 || k == 14 || (k == 17 && i == 3)
theorem RY_wL {q q' : SS} (f : Fr wL v0 q q') (h : RY q) : RY q' := RY_fr (Fr_r f fun _ => rfl) (Fr_r f fun _ => rfl) (Fr_r f fun _ => rfl) (Fr_r f fun _ => rfl) (Fr_r f fun _ => rfl) (Fr_r f fun _ => rfl) (Fr_r f fun _ => rfl) (Fr_r f fun _ => rfl) (Fr_r f fun _ => rfl) (Fr_r f fun _ => rfl) (Fr_r f fun _ => rfl) (Fr_r f fun _ => rfl) (Fr_r f fun _ => rfl) (Fr_r f fun _ => rfl) (f.1 _ _ rfl) (f.1 _ _ rfl) (f.1 _ _ rfl) (f.1 _ _ rfl) (f.1 _ _ rfl) (f.1 _ _ rfl) (f.1 _ _ rfl) (f.1 _ _ rfl) h
theorem RC_wL {q q' : SS} (f : Fr wL v0 q q') (h : RC q) : RC q' := RC_fr (Fr_r f fun _ => rfl) (Fr_r f fun _ => rfl) (Fr_r f fun _ => rfl) (Fr_r f fun _ => rfl) (Fr_r f fun _ => rfl) (Fr_r f fun _ => rfl) (Fr_r f fun _ => rfl) (Fr_r f fun _ => rfl) (f.1 _ _ rfl) (f.1 _ _ rfl) (f.1 _ _ rfl) (f.1 _ _ rfl) (f.1 _ _ rfl) (f.1 _ _ rfl) h
theorem RD_wL {q q' : SS} (f : Fr wL v0 q q') (h : RD q) : RD q' := RD_fr (Fr_r f fun _ => rfl) (Fr_r f fun _ => rfl) (Fr_r f fun _ => rfl) (Fr_r f fun _ => rfl) (Fr_r f fun _ => rfl) (Fr_r f fun _ => rfl) (Fr_r f fun _ => rfl) (Fr_r f fun _ => rfl) (f.1 _ _ rfl) (f.1 _ _ rfl) (f.1 _ _ rfl) (f.1 _ _ rfl) (f.1 _ _ rfl) (f.1 _ _ rfl) (f.1 _ _ rfl) (f.1 _ _ rfl) h
theorem RT_wL {q q' : SS} (f : Fr wL v0 q q') (h : RT q) : RT q' := RT_fr (Fr_r f fun _ => rfl) (Fr_r f fun _ => rfl) (f.1 _ _ rfl) (f.1 _ _ rfl) h
theorem RH_wL {q q' : SS} (f : Fr wL v0 q q') (h : RH q) : RH q' := RH_fr (Fr_r f fun _ => rfl) (Fr_r f fun _ => rfl) (Fr_r f fun _ => rfl) (Fr_r f fun _ => rfl) (f.1 _ _ rfl) (f.1 _ _ rfl) (f.1 _ _ rfl) (f.1 _ _ rfl) h
theorem RS_wL {q q' : SS} (f : Fr wL v0 q q') (h : RS q) : RS q' := RS_fr (Fr_r f fun _ => rfl) (Fr_r f fun _ => rfl) (Fr_r f fun _ => rfl) (Fr_r f fun _ => rfl) (Fr_r f fun _ => rfl) (f.1 _ _ rfl) (f.2 _ rfl) (fun s hs => f.2 _ (by rcases s6 hs with rfl | rfl | rfl | rfl | rfl | rfl <;> rfl)) h
theorem RW_wL {q q' : SS} (f : Fr wL v0 q q') (h : RW q) : RW q' := RW_fr (Fr_r f fun _ => rfl) (Fr_r f fun _ => rfl) (Fr_r f fun _ => rfl) (Fr_r f fun _ => rfl) (f.1 _ _ rfl) (f.1 _ _ rfl) h
theorem RJ_wL {q q' : SS} (f : Fr wL v0 q q') (h : RJ q) : RJ q' := RJ_fr (Fr_r f fun _ => rfl) (f.1 _ _ rfl) h
theorem INV_wL {q q' : SS} (f : Fr wL v0 q q') (h : INV q) : INV q' := ⟨RY_wL f h.1, RC_wL f h.2.1, RD_wL f h.2.2.1, RT_wL f h.2.2.2.1, RH_wL f h.2.2.2.2.1, RS_wL f h.2.2.2.2.2.1, RW_wL f h.2.2.2.2.2.2.1, RJ_wL f h.2.2.2.2.2.2.2⟩
/-- the class reads its law: the frame, and the draft's length -/
def XL (q z : SS) : Prop := Fr wL v0 q z ∧ 0 ≤ (z.1 19 4).toInt ∧ (z.1 19 4).toInt ≤ 121
theorem XL_s {q z : SS} (h : XL q z) {x : Int32} : XL q (sI z 17 3 x) := ⟨Fr_sI h.1 rfl, h.2⟩
theorem x_next (z : SS) : T (f_X5_next z) (fun _ => True) := by
  have l120 : (120 : Int32).toInt = 120 := rfl
  have l0 : (0 : Int32).toInt = 0 := rfl
  unfold f_X5_next
  exact T_lt (fun _ => T_some.mpr trivial) (fun a => T_i (fun _ => T_some.mpr trivial) (fun _ => T_le (fun _ => T_some.mpr trivial) (fun b => T_vp (by omega) (by show (z.1 17 3).toInt < 120; omega) (T_some.mpr trivial))))
theorem x_isDigit (z : SS) (a : Int32) : T (f_X5_isDigit z a) (fun _ => True) := by
  unfold f_X5_isDigit
  exact T_i (fun _ => T_some.mpr trivial) (fun _ => T_i (fun _ => T_some.mpr trivial) (fun _ => T_some.mpr trivial))
theorem x_nameOf (z : SS) (a : Int32) : T (f_X5_nameOf z a) (fun _ => True) := by
  unfold f_X5_nameOf
  repeat (refine T_sw (fun _ => T_some.mpr trivial) (fun _ => ?_))
  exact T_sw0 (T_some.mpr trivial)
theorem x_levelOf (z : SS) (a : Int32) : T (f_X5_levelOf z a) (fun _ => True) := by
  unfold f_X5_levelOf
  repeat (refine T_sw (fun _ => T_some.mpr trivial) (fun _ => ?_))
  exact T_sw0 (T_some.mpr trivial)
theorem x_addStep {q z : SS} (h : XL q z) (a b : Int32) : T (f_X4_addStep z a b) (fun r => XL q r) := by
  have l121 : (121 : Int32).toInt = 121 := rfl
  unfold f_X4_addStep
  refine T_le (fun _ => T_some.mpr h) (fun g => T_vp h.2.1 (by show (z.1 19 4).toInt < 121; omega) (T_nm (T_vp h.2.1 (by show (z.1 19 4).toInt < 121; omega) (T_nm (T_nm (T_some.mpr ⟨Fr_sI (Fr_sI (Fr_sI h.1 rfl) rfl) rfl, ?_⟩))))))
  have e := inc1 (a := z.1 19 4) (by have := h.2.1; omega) (by omega)
  have ee : ((sI (sI (sI z 20 (z.1 19 4).toNatClampNeg a) 21 ((sI z 20 (z.1 19 4).toNatClampNeg a).1 19 4).toNatClampNeg b) 19 4 ((sI (sI z 20 (z.1 19 4).toNatClampNeg a) 21 ((sI z 20 (z.1 19 4).toNatClampNeg a).1 19 4).toNatClampNeg b).1 19 4 + 1)).1 19 4) = z.1 19 4 + 1 := by simp [sI_rd]
  have h0 := h.2.1
  rw [ee, e]
  omega
theorem x_number {q z : SS} (h : XL q z) : T (f_X5_readNumber z) (fun r => XL q r) := by
  have l4 : (4 : Int32).toInt = 4 := rfl
  unfold f_X5_readNumber b_X5_readNumber_4 b_X5_readNumber_48
  refine T_fx3 (fun y _ l2 => XL q y ∧ 0 ≤ l2.toInt ∧ l2.toInt ≤ 4) (fun _ _ l2 => (4 - l2.toInt).toNat) ?_ _ _ _ _ ⟨h, by decide, by decide⟩ (by unfold FU; decide)
  rintro rec y l1 l2 ⟨hy, b0, b1⟩ hr
  have fin : T ((f_X4_addStep y 48 l1).bind fun r1 => some r1) (fun r => XL q r) := T_b (x_addStep hy 48 l1) (fun r hr => T_some.mpr hr)
  refine T_le (fun _ => fin) (fun g => T_b (x_next y) (fun r2 _ => T_b (x_isDigit y r2) (fun r3 _ => T_i (fun _ => fin) (fun _ => T_b (x_next y) (fun r4 _ => T_nm (T_nm ?_))))))
  have e := inc1 (a := l2) (by omega) (by omega)
  exact hr _ _ _ ⟨XL_s hy, by omega, by omega⟩ (by omega)
/-! ===== the class reads a law: what calls itself ===== -/
theorem x_level5 (z : SS) (a : Int32) : T (f_X5_levelOf z a) (fun r => 0 ≤ r.toInt ∧ r.toInt ≤ 5) := by
  unfold f_X5_levelOf
  repeat (refine T_sw (fun _ => T_some.mpr (by decide)) (fun _ => ?_))
  exact T_sw0 (T_some.mpr (by decide))
def b01 (a : Int32) : Prop := a = 0 ∨ a = 1
def PX (q : SS) (r : Int32 × SS) : Prop := XL q r.2 ∧ (r.1 = 0 ∨ r.1 = 1)
def LJ (n : Nat) : Prop := ∀ (q z : SS), XL q z →
  (∀ a1 a2 : Int32, (1 ≤ a1.toInt ∧ a1.toInt ≤ 6) → (0 ≤ a2.toInt ∧ a2.toInt ≤ 6) → 10 * (6 - a2.toInt) + 8 - a1.toInt ≤ (n : Int) → T ((g_X5_readJoined n).1 z a1 a2) (PX q))
  ∧ (∀ a1 : Int32, (0 ≤ a1.toInt ∧ a1.toInt ≤ 6) → 10 * (6 - a1.toInt) + 1 ≤ (n : Int) → T ((g_X5_readJoined n).2.1 z a1) (PX q))
  ∧ (∀ a1 a2 : Int32, (0 ≤ a2.toInt ∧ a2.toInt ≤ 6) → 10 * (6 - a2.toInt) + 2 ≤ (n : Int) → T ((g_X5_readJoined n).2.2.1 z a1 a2) (PX q))
  ∧ (∀ a1 : Int32, (0 ≤ a1.toInt ∧ a1.toInt ≤ 6) → 10 * (6 - a1.toInt) + 8 ≤ (n : Int) → T ((g_X5_readJoined n).2.2.2 z a1) (PX q))
theorem LJ_0 : LJ 0 := by
  intro q z _
  exact ⟨fun a1 a2 h1 h2 h => absurd h (by omega), fun a1 h1 h => absurd h (by omega), fun a1 a2 h1 h => absurd h (by omega), fun a1 h1 h => absurd h (by omega)⟩
theorem LJ_J {n : Nat} (ih : LJ n) {q z : SS} (hz : XL q z) {a1 a2 : Int32} (h1 : 1 ≤ a1.toInt ∧ a1.toInt ≤ 6) (h2 : 0 ≤ a2.toInt ∧ a2.toInt ≤ 6) (hn : 10 * (6 - a2.toInt) + 8 - a1.toInt ≤ ((n + 1 : Nat) : Int)) : T (fb_X5_readJoined (g_X5_readJoined n) z a1 a2) (PX q) := by
  have l120 : (120 : Int32).toInt = 120 := rfl
  unfold fb_X5_readJoined b_X5_readJoined_12 b_X5_readJoined_97
  refine T_b ((ih q z hz).2.1 a2 h2 (by omega)) (fun r1 hr1 => ?_)
  refine T_fx6 (fun y l1 l2 _ l4 l5 => XL q y ∧ l1 = a1 ∧ l2 = a2 ∧ (l4 = 0 ∨ l4 = 1) ∧ 0 ≤ l5.toInt ∧ l5.toInt ≤ 120) (fun _ _ _ _ _ l5 => (120 - l5.toInt).toNat) ?_ _ _ _ _ _ _ _ ⟨hr1.1, rfl, rfl, hr1.2, by decide, by decide⟩ (by unfold FU; decide)
  rintro rec y l1 l2 l3 l4 l5 ⟨hy, rfl, rfl, h4, b0, b1⟩ hr
  refine T_le (fun _ => T_p h4 (T_some.mpr ⟨hy, h4⟩)) (fun g => T_i (fun _ => T_p h4 (T_some.mpr ⟨hy, h4⟩)) (fun _ => T_b (x_next y) (fun r2 _ => T_b (x_level5 y r2) (fun r3 h3 => T_lt (fun _ => T_some.mpr ⟨hy, Or.inr rfl⟩) (fun g3 => T_i (fun _ => ?_) (fun _ => T_some.mpr ⟨hy, Or.inr rfl⟩))))))
  have e3 := inc1 (a := r3) (by omega) (by omega)
  have e5 := inc1 (a := l5) (by omega) (by omega)
  refine T_nm (T_b ((ih q _ (XL_s hy)).1 (r3 + 1) l2 ⟨by omega, by omega⟩ h2 (by omega)) (fun r5 h5 => T_b (x_addStep h5.1 r2 0) (fun r6 h6 => T_i (fun _ => ?_) (fun _ => ?_))))
  · exact hr _ _ _ _ _ _ ⟨h6, rfl, rfl, h5.2, by omega, by omega⟩ (by omega)
  · exact hr _ _ _ _ _ _ ⟨h6, rfl, rfl, h5.2, by omega, by omega⟩ (by omega)
theorem LJ_O {n : Nat} (ih : LJ n) {q z : SS} (hz : XL q z) {a1 : Int32} (h1 : 0 ≤ a1.toInt ∧ a1.toInt ≤ 6) (hn : 10 * (6 - a1.toInt) + 1 ≤ ((n + 1 : Nat) : Int)) : T (fb_X5_readOperand (g_X5_readJoined n) z a1) (PX q) := by
  have l6 : (6 : Int32).toInt = 6 := rfl
  have e1 := inc1 (a := a1) (by omega) (by omega)
  have t75 : ∀ l2 : Int32, a1.toInt < 6 → T (b_X5_readOperand_75 (g_X5_readJoined n) z a1 l2) (PX q) := by
    intro l2 h6
    unfold b_X5_readOperand_75
    refine T_nm (T_i (fun _ => T_b ((ih q _ (XL_s hz)).2.2.2 (a1 + 1) ⟨by omega, by omega⟩ (by omega)) (fun r5 h5 => T_p h5.2 (T_some.mpr ⟨h5.1, h5.2⟩))) (fun _ => T_b ((ih q _ (XL_s hz)).2.2.1 l2 (a1 + 1) ⟨by omega, by omega⟩ (by omega)) (fun r6 h6 => T_p h6.2 (T_some.mpr ⟨h6.1, h6.2⟩))))
  unfold fb_X5_readOperand
  refine T_b (x_next z) (fun r1 _ => T_b (x_nameOf z r1) (fun r2 _ => T_b (x_isDigit z r1) (fun r3 _ => T_i (fun _ => T_i (fun _ => T_le (fun _ => T_some.mpr ⟨hz, Or.inl rfl⟩) (fun g => ?_)) (fun _ => ?_)) (fun _ => ?_))))
  · exact T_i (fun _ => t75 _ (by omega)) (fun _ => T_i (fun _ => t75 _ (by omega)) (fun _ => T_i (fun _ => t75 _ (by omega)) (fun _ => T_some.mpr ⟨hz, Or.inl rfl⟩)))
  · exact T_nm (T_b (x_addStep (XL_s hz) _ _) (fun r hr => T_some.mpr ⟨hr, Or.inr rfl⟩))
  · exact T_b (x_number hz) (fun r hr => T_some.mpr ⟨hr, Or.inr rfl⟩)
theorem LJ_T {n : Nat} (ih : LJ n) {q z : SS} (hz : XL q z) (a1 : Int32) {a2 : Int32} (h2 : 0 ≤ a2.toInt ∧ a2.toInt ≤ 6) (hn : 10 * (6 - a2.toInt) + 2 ≤ ((n + 1 : Nat) : Int)) : T (fb_X5_readTurned (g_X5_readJoined n) z a1 a2) (PX q) := by
  unfold fb_X5_readTurned b_X5_readTurned_23
  refine T_b ((ih q z hz).2.1 a2 h2 (by omega)) (fun r1 hr1 => T_i (fun _ => ?_) (fun _ => ?_))
  · exact T_b (x_addStep hr1.1 _ _) (fun r hr => T_p hr1.2 (T_some.mpr ⟨hr, hr1.2⟩))
  · exact T_b (x_addStep hr1.1 _ _) (fun r hr => T_p hr1.2 (T_some.mpr ⟨hr, hr1.2⟩))
theorem LJ_E {n : Nat} (ih : LJ n) {q z : SS} (hz : XL q z) {a1 : Int32} (h1 : 0 ≤ a1.toInt ∧ a1.toInt ≤ 6) (hn : 10 * (6 - a1.toInt) + 8 ≤ ((n + 1 : Nat) : Int)) : T (fb_X5_readEnclosed (g_X5_readJoined n) z a1) (PX q) := by
  have l1 : (1 : Int32).toInt = 1 := rfl
  unfold fb_X5_readEnclosed
  refine T_b ((ih q z hz).1 1 a1 ⟨by omega, by omega⟩ h1 (by omega)) (fun r1 hr1 => T_i (fun _ => T_some.mpr ⟨hr1.1, Or.inl rfl⟩) (fun _ => T_b (x_next r1.2) (fun r2 _ => T_i (fun _ => T_nm (T_some.mpr ⟨XL_s hr1.1, Or.inr rfl⟩)) (fun _ => T_some.mpr ⟨hr1.1, Or.inl rfl⟩))))
theorem LJ_all : ∀ n, LJ n
  | 0 => LJ_0
  | n + 1 => fun q z hz => ⟨fun a1 a2 h1 h2 h => LJ_J (LJ_all n) hz h1 h2 h, fun a1 h1 h => LJ_O (LJ_all n) hz h1 h, fun a1 a2 h2 h => LJ_T (LJ_all n) hz a1 h2 h, fun a1 h1 h => LJ_E (LJ_all n) hz h1 h⟩
theorem x_joined {q z : SS} (hz : XL q z) : T (f_X5_readJoined z 1 0) (PX q) := (LJ_all 900 q z hz).1 1 0 (by decide) (by decide) (by decide)
theorem x_readLine {q z : SS} (hz : XL q z) : T (f_X5_readLine z) (PX q) := by
  unfold f_X5_readLine b_X5_readLine_47
  have fin : ∀ y l, XL q y → (l = 0 ∨ l = 1) → T ((f_X4_addStep y 59 0).bind fun r2 => if l = (0 : Int32) ∨ l = 1 then some (l, r2) else none) (PX q) := fun y l hy hl => T_b (x_addStep hy _ _) (fun r hr => T_p hl (T_some.mpr ⟨hr, hl⟩))
  exact T_b (x_joined hz) (fun r1 h1 => T_i (fun _ => fin _ _ h1.1 h1.2) (fun _ => T_b (x_next r1.2) (fun r3 _ => T_i (fun _ => T_nm (T_b (x_addStep (XL_s h1.1) _ _) (fun r5 h5 => T_b (x_joined h5) (fun r6 h6 => fin _ _ h6.1 h6.2)))) (fun _ => fin _ _ h1.1 h1.2))))
theorem x_readText (q : SS) : T (f_X5_readText q) (fun r => XL q r.2) := by
  have l120 : (120 : Int32).toInt = 120 := rfl
  unfold f_X5_readText f_X4_clear
  have x0 : XL q (sI (sI q 17 3 0) 19 4 0) := ⟨Fr_sI (Fr_sI (Fr_refl q) rfl) rfl, by simp [sI_rd]⟩
  refine T_nm (T_rw rfl (T_b (x_readLine x0) (fun r3 h3 => ?_)))
  unfold b_X5_readText_19
  have fin : ∀ y l, XL q y → T (b_X5_readText_59 y l) (fun r => XL q r.2) := fun y l hy => by
    unfold b_X5_readText_59
    exact T_i (fun _ => T_some.mpr hy) (fun _ => T_i (fun _ => T_some.mpr hy) (fun _ => T_some.mpr hy))
  refine T_fx3 (fun y _ l2 => XL q y ∧ 0 ≤ l2.toInt ∧ l2.toInt ≤ 120) (fun _ _ l2 => (120 - l2.toInt).toNat) ?_ _ _ _ _ ⟨h3.1, by decide, by decide⟩ (by unfold FU; decide)
  rintro rec y l1 l2 ⟨hy, b0, b1⟩ hr
  have e2 : l2.toInt < 120 → (l2 + 1).toInt = l2.toInt + 1 := fun _ => inc1 (by omega) (by omega)
  exact T_le (fun _ => fin y l1 hy) (fun g => T_i (fun _ => fin y l1 hy) (fun _ => T_b (x_next y) (fun r6 _ => T_i (fun _ => T_nm (T_b (x_readLine (XL_s hy)) (fun r8 h8 => hr _ _ _ ⟨h8.1, by have := e2 (by omega); omega, by have := e2 (by omega); omega⟩ (by have := e2 (by omega); omega)))) (fun _ => fin y l1 hy))))
/-! ===== the class's law ===== -/
theorem Fr_R {q z : SS} (h : Fr wL v0 q z) {k : Nat} {f : Nat → Int32} (hk : ∀ i, wL k i = true) : Fr wL v0 q (sR z k f) := ⟨fun a i e => by
    have : a ≠ k := by
      rintro rfl
      rw [hk i] at e
      cases e
    rw [sR_ro this]
    exact h.1 a i e, fun a e => h.2 a e⟩
theorem xo_law {q : SS} (h : INV q) : T (f_X11_law q) (fun r => ∃ y, INV y ∧ Fr wL v0 q y ∧ r.2 = sI y 17 2 0) := by
  unfold f_X11_law
  have fin : ∀ (y : SS) (l : Int32), Fr wL v0 q y → T (b_X11_law_26 y l) (fun r => ∃ y, INV y ∧ Fr wL v0 q y ∧ r.2 = sI y 17 2 0) := by
    intro y l hy
    unfold b_X11_law_26 f_X5_emptyTape
    exact T_rw rfl (T_i (fun _ => T_some.mpr ⟨y, INV_wL hy h, hy, rfl⟩) (fun _ => T_some.mpr ⟨y, INV_wL hy h, hy, rfl⟩))
  refine T_b (x_readText q) (fun r1 h1 => T_i (fun _ => fin _ _ h1.1) (fun _ => T_rw rfl ?_))
  unfold f_X4_become
  have c : cpok 121 121 (0 : Int32) (0 : Int32) (121 : Int32) := by decide
  refine T_b (Q := fun r => Fr wL v0 q r) (T_nm (T_p c (T_nm (T_p c (T_nm (T_some.mpr ?_)))))) (fun r4 h4 => fin _ _ h4)
  exact Fr_R (Fr_R (Fr_sI h1.1 rfl) (fun _ => rfl)) (fun _ => rfl)
/-! ===== the model's law: how a line of steps is told ===== -/
theorem dp_c {A W A' W' : Nat → Int32} : ∀ (n i d : Nat), (∀ k, i ≤ k → k < i + n → A k = A' k ∧ W k = W' k) → dp A W n i d = dp A' W' n i d
  | 0, _, _, _ => rfl
  | n + 1, i, d, h => by
    have e := h i (by omega) (by omega)
    show (stepd (A i) (W i) d).bind (fun d' => dp A W n (i + 1) d') = (stepd (A' i) (W' i) d).bind (fun d' => dp A' W' n (i + 1) d')
    rw [e.1, e.2]
    exact congrArg _ (funext fun d' => dp_c n (i + 1) d' (fun k hk hl => h k (by omega) (by omega)))
theorem dp_add {A W : Nat → Int32} : ∀ (n m i d : Nat), dp A W (n + m) i d = (dp A W n i d).bind (fun d' => dp A W m (i + n) d')
  | 0, m, i, d => by
    show dp A W (0 + m) i d = dp A W m (i + 0) d
    rw [Nat.zero_add, Nat.add_zero]
  | n + 1, m, i, d => by
    have e : n + 1 + m = (n + m) + 1 := by omega
    rw [e]
    show (stepd (A i) (W i) d).bind (fun d' => dp A W (n + m) (i + 1) d') = ((stepd (A i) (W i) d).bind (fun d' => dp A W n (i + 1) d')).bind _
    cases stepd (A i) (W i) d with
    | none => rfl
    | some d1 =>
      show dp A W (n + m) (i + 1) d1 = (dp A W n (i + 1) d1).bind _
      rw [dp_add n m (i + 1) d1]
      have e2 : i + 1 + n = i + (n + 1) := by omega
      rw [e2]
theorem okSeg_c {A W A' W' : Nat → Int32} {i j : Int} (hi : 0 ≤ i) (h : ∀ k : Nat, i ≤ (k : Int) → (k : Int) < j → A k = A' k ∧ W k = W' k) (o : okSeg A W i j) : okSeg A' W' i j := by
  unfold okSeg at *
  rw [← o]
  exact (dp_c _ _ _ (fun k h1 h2 => h k (by omega) (by omega))).symm
theorem stepd_l {a w : Int32} {d e : Nat} (c : Nat) (h : stepd a w d = some e) : stepd a w (d + c) = some (e + c) := by
  unfold stepd at h ⊢
  by_cases h1 : a = 1
  · rw [if_pos h1] at h ⊢
    have := Option.some.inj h
    exact congrArg some (by omega)
  rw [if_neg h1] at h ⊢
  by_cases h2 : a = 2
  · rw [if_pos h2] at h ⊢
    by_cases hw : 0 ≤ w.toInt ∧ w.toInt < 6
    · rw [if_pos hw] at h ⊢
      have := Option.some.inj h
      exact congrArg some (by omega)
    · rw [if_neg hw] at h
      cases h
  rw [if_neg h2] at h ⊢
  by_cases h3 : a = 3 ∨ a = 4
  · rw [if_pos h3] at h ⊢
    by_cases hd : 1 ≤ d
    · rw [if_pos hd] at h
      rw [if_pos (by omega)]
      have := Option.some.inj h
      exact congrArg some (by omega)
    · rw [if_neg hd] at h
      cases h
  rw [if_neg h3] at h ⊢
  by_cases hd : 2 ≤ d
  · rw [if_pos hd] at h
    rw [if_pos (by omega)]
    have := Option.some.inj h
    exact congrArg some (by omega)
  · rw [if_neg hd] at h
    cases h
theorem dp_l {A W : Nat → Int32} (c : Nat) : ∀ (n i d e : Nat), dp A W n i d = some e → dp A W n i (d + c) = some (e + c)
  | 0, _, d, e, h => by
    have h' : some d = some e := h
    have := Option.some.inj h'
    show some (d + c) = some (e + c)
    exact congrArg some (by omega)
  | n + 1, i, d, e, h => by
    have h' : (stepd (A i) (W i) d).bind (fun d' => dp A W n (i + 1) d') = some e := h
    show (stepd (A i) (W i) (d + c)).bind (fun d' => dp A W n (i + 1) d') = some (e + c)
    cases g : stepd (A i) (W i) d with
    | none => rw [g] at h'; cases h'
    | some d1 =>
      rw [g] at h'
      rw [stepd_l c g]
      exact dp_l c n (i + 1) d1 e h'
/-! ===== the model reads its law: a refused reading leaves what holds ===== -/
def wR (k i : Nat) : Bool := (k == 74 && Nat.ble 130 i) || (k == 75 && Nat.ble 130 i) || (k == 77 && Nat.ble 61 i) || (k == 78 && Nat.ble 61 i) || (k == 76 && i == 1) || (k == 60 && (Nat.ble 18 i && Nat.ble i 22))
def wN (k i : Nat) : Bool := wR k i || (k == 17 && i == 2)
theorem RY_wN {q q' : SS} (f : Fr wN v0 q q') (h : RY q) : RY q' := RY_fr (Fr_r f fun _ => rfl) (Fr_r f fun _ => rfl) (Fr_r f fun _ => rfl) (Fr_r f fun _ => rfl) (Fr_r f fun _ => rfl) (Fr_r f fun _ => rfl) (Fr_r f fun _ => rfl) (Fr_r f fun _ => rfl) (Fr_r f fun _ => rfl) (Fr_r f fun _ => rfl) (Fr_r f fun _ => rfl) (Fr_r f fun _ => rfl) (Fr_r f fun _ => rfl) (Fr_r f fun _ => rfl) (f.1 _ _ rfl) (f.1 _ _ rfl) (f.1 _ _ rfl) (f.1 _ _ rfl) (f.1 _ _ rfl) (f.1 _ _ rfl) (f.1 _ _ rfl) (f.1 _ _ rfl) h
theorem RC_wN {q q' : SS} (f : Fr wN v0 q q') (h : RC q) : RC q' := RC_fr (Fr_r f fun _ => rfl) (Fr_r f fun _ => rfl) (Fr_r f fun _ => rfl) (Fr_r f fun _ => rfl) (Fr_r f fun _ => rfl) (Fr_r f fun _ => rfl) (Fr_r f fun _ => rfl) (Fr_r f fun _ => rfl) (f.1 _ _ rfl) (f.1 _ _ rfl) (f.1 _ _ rfl) (f.1 _ _ rfl) (f.1 _ _ rfl) (f.1 _ _ rfl) h
theorem RD_wN {q q' : SS} (f : Fr wN v0 q q') (h : RD q) : RD q' := RD_fr (Fr_r f fun _ => rfl) (Fr_r f fun _ => rfl) (Fr_r f fun _ => rfl) (Fr_r f fun _ => rfl) (Fr_r f fun _ => rfl) (Fr_r f fun _ => rfl) (Fr_r f fun _ => rfl) (Fr_r f fun _ => rfl) (f.1 _ _ rfl) (f.1 _ _ rfl) (f.1 _ _ rfl) (f.1 _ _ rfl) (f.1 _ _ rfl) (f.1 _ _ rfl) (f.1 _ _ rfl) (f.1 _ _ rfl) h
theorem RH_wN {q q' : SS} (f : Fr wN v0 q q') (h : RH q) : RH q' := RH_fr (Fr_r f fun _ => rfl) (Fr_r f fun _ => rfl) (Fr_r f fun _ => rfl) (Fr_r f fun _ => rfl) (f.1 _ _ rfl) (f.1 _ _ rfl) (f.1 _ _ rfl) (f.1 _ _ rfl) h
theorem RS_wN {q q' : SS} (f : Fr wN v0 q q') (h : RS q) : RS q' := RS_fr (Fr_r f fun _ => rfl) (Fr_r f fun _ => rfl) (Fr_r f fun _ => rfl) (Fr_r f fun _ => rfl) (Fr_r f fun _ => rfl) (f.1 _ _ rfl) (f.2 _ rfl) (fun s hs => f.2 _ (by rcases s6 hs with rfl | rfl | rfl | rfl | rfl | rfl <;> rfl)) h
theorem RJ_wN {q q' : SS} (f : Fr wN v0 q q') (h : RJ q) : RJ q' := RJ_fr (Fr_r f fun _ => rfl) (f.1 _ _ rfl) h
theorem okLine_c {A W A' W' : Nat → Int32} {s t e : Int} (h : ∀ k : Nat, (k : Int) < 130 → A k = A' k ∧ W k = W' k) (o : okLine A W s t e) : okLine A' W' s t e := by
  obtain ⟨h1, h2, h3, h4, h5, h6⟩ := o
  exact ⟨h1, h2, h3, h4, okSeg_c (by omega) (fun k _ hk => h k (by omega)) h5, fun n => okSeg_c h1 (fun k _ hk => h k (by omega)) (h6 n)⟩
theorem RW_wN {q q' : SS} (f : Fr wN v0 q q') (h : RW q) : RW q' := by
  have e30 := f.1 60 30 rfl
  have e76 := f.1 76 0 rfl
  have lo : ∀ a n : Nat, (a = 74 ∧ n < 130) ∨ (a = 75 ∧ n < 130) ∨ (a = 77 ∧ n < 61) ∨ (a = 78 ∧ n < 61) → q'.1 a n = q.1 a n := fun a n c => f.1 a n (by
    rcases c with ⟨rfl, c⟩ | ⟨rfl, c⟩ | ⟨rfl, c⟩ | ⟨rfl, c⟩
    · have : Nat.ble 130 n = false := by
        cases g : Nat.ble 130 n
        · rfl
        · exact absurd (Nat.le_of_ble_eq_true g) (by omega)
      unfold wN wR
      rw [this]
      simp
    · have : Nat.ble 130 n = false := by
        cases g : Nat.ble 130 n
        · rfl
        · exact absurd (Nat.le_of_ble_eq_true g) (by omega)
      unfold wN wR
      rw [this]
      simp
    · have : Nat.ble 61 n = false := by
        cases g : Nat.ble 61 n
        · rfl
        · exact absurd (Nat.le_of_ble_eq_true g) (by omega)
      unfold wN wR
      rw [this]
      simp
    · have : Nat.ble 61 n = false := by
        cases g : Nat.ble 61 n
        · rfl
        · exact absurd (Nat.le_of_ble_eq_true g) (by omega)
      unfold wN wR
      rw [this]
      simp)
  refine ⟨by rw [e30]; exact RW_told h, fun t => by rw [e76]; exact RW_m h (e30.symm.trans t), fun t l hl => ?_⟩
  have t' := e30.symm.trans t
  rw [e76] at hl
  have m := RW_m h t'
  have L := RW_line h t' l hl
  rw [lo 77 l (by omega), lo 78 l (by omega)]
  have e1 : (if l = 0 then (0 : Int) else (q'.1 78 (l - 1)).toInt) = (if l = 0 then 0 else (q.1 78 (l - 1)).toInt) := by
    by_cases c : l = 0
    · rw [if_pos c, if_pos c]
    · rw [if_neg c, if_neg c, lo 78 (l - 1) (by omega)]
  rw [e1]
  exact okLine_c (fun k hk => ⟨(lo 74 k (by omega)).symm, (lo 75 k (by omega)).symm⟩) L
theorem RT_wN {q : SS} (e17 : q.1 17 2 = 0) (e18 : q.1 60 18 = 0) : RT q := by
  have z : (0 : Int32).toInt = 0 := rfl
  refine ⟨e17.trans e18.symm, by rw [e18]; decide, by rw [e18]; decide, fun i hi => ?_, fun i hi => ?_⟩
  · rw [e18, z] at hi; exact absurd hi (by omega)
  · rw [e18, z] at hi; exact absurd hi (by omega)
theorem INV_wN {q q' : SS} (f : Fr wN v0 q q') (h : INV q) (e17 : q'.1 17 2 = 0) (e18 : q'.1 60 18 = 0) : INV q' := ⟨RY_wN f h.1, RC_wN f h.2.1, RD_wN f h.2.2.1, RT_wN e17 e18, RH_wN f h.2.2.2.2.1, RS_wN f h.2.2.2.2.2.1, RW_wN f h.2.2.2.2.2.2.1, RJ_wN f h.2.2.2.2.2.2.2⟩
/-! and one that is taken over -/
def wU (k i : Nat) : Bool := k == 74 || k == 75 || k == 76 || k == 77 || k == 78 || (k == 60 && (Nat.ble 18 i && Nat.ble i 22)) || (k == 60 && i == 30)
def wT (k i : Nat) : Bool := wU k i || (k == 17 && i == 2)
theorem RY_wT {q q' : SS} (f : Fr wT v0 q q') (h : RY q) : RY q' := RY_fr (Fr_r f fun _ => rfl) (Fr_r f fun _ => rfl) (Fr_r f fun _ => rfl) (Fr_r f fun _ => rfl) (Fr_r f fun _ => rfl) (Fr_r f fun _ => rfl) (Fr_r f fun _ => rfl) (Fr_r f fun _ => rfl) (Fr_r f fun _ => rfl) (Fr_r f fun _ => rfl) (Fr_r f fun _ => rfl) (Fr_r f fun _ => rfl) (Fr_r f fun _ => rfl) (Fr_r f fun _ => rfl) (f.1 _ _ rfl) (f.1 _ _ rfl) (f.1 _ _ rfl) (f.1 _ _ rfl) (f.1 _ _ rfl) (f.1 _ _ rfl) (f.1 _ _ rfl) (f.1 _ _ rfl) h
theorem RC_wT {q q' : SS} (f : Fr wT v0 q q') (h : RC q) : RC q' := RC_fr (Fr_r f fun _ => rfl) (Fr_r f fun _ => rfl) (Fr_r f fun _ => rfl) (Fr_r f fun _ => rfl) (Fr_r f fun _ => rfl) (Fr_r f fun _ => rfl) (Fr_r f fun _ => rfl) (Fr_r f fun _ => rfl) (f.1 _ _ rfl) (f.1 _ _ rfl) (f.1 _ _ rfl) (f.1 _ _ rfl) (f.1 _ _ rfl) (f.1 _ _ rfl) h
theorem RD_wT {q q' : SS} (f : Fr wT v0 q q') (h : RD q) : RD q' := RD_fr (Fr_r f fun _ => rfl) (Fr_r f fun _ => rfl) (Fr_r f fun _ => rfl) (Fr_r f fun _ => rfl) (Fr_r f fun _ => rfl) (Fr_r f fun _ => rfl) (Fr_r f fun _ => rfl) (Fr_r f fun _ => rfl) (f.1 _ _ rfl) (f.1 _ _ rfl) (f.1 _ _ rfl) (f.1 _ _ rfl) (f.1 _ _ rfl) (f.1 _ _ rfl) (f.1 _ _ rfl) (f.1 _ _ rfl) h
theorem RH_wT {q q' : SS} (f : Fr wT v0 q q') (h : RH q) : RH q' := RH_fr (Fr_r f fun _ => rfl) (Fr_r f fun _ => rfl) (Fr_r f fun _ => rfl) (Fr_r f fun _ => rfl) (f.1 _ _ rfl) (f.1 _ _ rfl) (f.1 _ _ rfl) (f.1 _ _ rfl) h
theorem RS_wT {q q' : SS} (f : Fr wT v0 q q') (h : RS q) : RS q' := RS_fr (Fr_r f fun _ => rfl) (Fr_r f fun _ => rfl) (Fr_r f fun _ => rfl) (Fr_r f fun _ => rfl) (Fr_r f fun _ => rfl) (f.1 _ _ rfl) (f.2 _ rfl) (fun s hs => f.2 _ (by rcases s6 hs with rfl | rfl | rfl | rfl | rfl | rfl <;> rfl)) h
theorem RJ_wT {q q' : SS} (f : Fr wT v0 q q') (h : RJ q) : RJ q' := RJ_fr (Fr_r f fun _ => rfl) (f.1 _ _ rfl) h
theorem INV_wT {q q' : SS} (f : Fr wT v0 q q') (h : INV q) (e17 : q'.1 17 2 = 0) (e18 : q'.1 60 18 = 0) (w : RW q') : INV q' := ⟨RY_wT f h.1, RC_wT f h.2.1, RD_wT f h.2.2.1, RT_wN e17 e18, RH_wT f h.2.2.2.2.1, RS_wT f h.2.2.2.2.2.1, w, RJ_wT f h.2.2.2.2.2.2.2⟩
theorem Fr_NT {a b : SS} (h : Fr wR v0 a b) : Fr wU v0 a b := Fr_le h (fun k i e => by
    unfold wU at e
    unfold wR
    simp only [Bool.or_eq_false_iff] at e ⊢
    obtain ⟨⟨⟨⟨⟨⟨e1, e2⟩, e3⟩, e4⟩, e5⟩, e6⟩, _⟩ := e
    simp [e1, e2, e3, e4, e5, e6]) (fun _ h => h)
/-! ===== the model reads its law: what a piece of a line lays ===== -/
def wS (k i : Nat) : Bool := (k == 74 && Nat.ble 130 i) || (k == 75 && Nat.ble 130 i) || (k == 60 && (Nat.ble 19 i && Nat.ble i 22))
def EN (q : SS) : Prop := 0 ≤ (q.1 60 19).toInt ∧ (q.1 60 19).toInt ≤ (q.1 60 18).toInt ∧ (q.1 60 18).toInt ≤ 120 ∧ 0 ≤ (q.1 60 22).toInt ∧ (q.1 60 22).toInt ≤ (q.1 60 19).toInt ∧ q.1 60 20 = -1 ∧ 0 ≤ (q.1 60 21).toInt ∧ (q.1 60 21).toInt ≤ 6
def SG (o : Int32) (c : Int) (d : Nat) (q z : SS) : Prop := Fr wS v0 q z ∧ ((q.1 60 19).toInt ≤ (z.1 60 19).toInt ∧ (z.1 60 19).toInt ≤ (q.1 60 18).toInt) ∧ (q.1 60 22).toInt ≤ (z.1 60 22).toInt ∧ (∀ k : Nat, (k : Int) < 130 + (q.1 60 22).toInt → z.1 74 k = q.1 74 k ∧ z.1 75 k = q.1 75 k) ∧ (∀ k : Nat, 130 + (q.1 60 22).toInt ≤ (k : Int) → (k : Int) < 130 + (z.1 60 22).toInt → (z.1 74 k).toInt8.toInt32 = z.1 74 k) ∧ ((z.1 60 20 = -1 ∧ z.1 60 21 = o ∧ (z.1 60 22).toInt + c ≤ (q.1 60 22).toInt + ((z.1 60 19).toInt - (q.1 60 19).toInt) ∧ dp (z.1 74) (z.1 75) ((z.1 60 22).toInt - (q.1 60 22).toInt).toNat (130 + (q.1 60 22).toInt).toNat 0 = some d) ∨ (0 ≤ (z.1 60 20).toInt ∧ (z.1 60 22).toInt + c ≤ (q.1 60 22).toInt + ((z.1 60 19).toInt - (q.1 60 19).toInt) + 1))
theorem m1i : (-1 : Int32).toInt = -1 := rfl
theorem SG_tp {o : Int32} {c : Int} {d : Nat} {q z : SS} (g : SG o c d q z) : z.1 60 18 = q.1 60 18 := g.1.1 60 18 rfl
theorem SG_nw {o : Int32} {c : Int} {d : Nat} {q z : SS} (g : SG o c d q z) (n : z.1 60 20 = -1) : z.1 60 21 = o ∧ (z.1 60 22).toInt + c ≤ (q.1 60 22).toInt + ((z.1 60 19).toInt - (q.1 60 19).toInt) ∧ dp (z.1 74) (z.1 75) ((z.1 60 22).toInt - (q.1 60 22).toInt).toNat (130 + (q.1 60 22).toInt).toNat 0 = some d := by
  rcases g.2.2.2.2.2 with h | h
  · exact h.2
  · rw [n, m1i] at h
    exact absurd h.1 (by omega)
theorem SG_no {o : Int32} {c : Int} {d : Nat} {q z : SS} (g : SG o c d q z) (n : (z.1 60 20).toInt < 0) : z.1 60 20 = -1 := by
  rcases g.2.2.2.2.2 with h | h
  · exact h.1
  · exact absurd h.1 (by omega)
theorem SG_w {o o' : Int32} {c : Int} {d d' : Nat} {q z : SS} (g : SG o c d q z) (n : 0 ≤ (z.1 60 20).toInt) : SG o' c d' q z := by
  refine ⟨g.1, g.2.1, g.2.2.1, g.2.2.2.1, g.2.2.2.2.1, Or.inr ?_⟩
  rcases g.2.2.2.2.2 with h | h
  · rw [h.1, m1i] at n
    exact absurd n (by omega)
  · exact h
theorem SG_le {o : Int32} {c c' : Int} {d : Nat} {q z : SS} (g : SG o c d q z) (n : c' ≤ c) : SG o c' d q z := by
  refine ⟨g.1, g.2.1, g.2.2.1, g.2.2.2.1, g.2.2.2.2.1, ?_⟩
  rcases g.2.2.2.2.2 with ⟨h1, h2, h3, h4⟩ | ⟨h1, h2⟩
  · exact Or.inl ⟨h1, h2, by omega, h4⟩
  · exact Or.inr ⟨h1, by omega⟩
theorem SG_refl {q : SS} (e : EN q) : SG (q.1 60 21) 0 0 q q := ⟨Fr_refl q, ⟨by omega, e.2.1⟩, by omega, fun _ _ => ⟨rfl, rfl⟩, fun k h1 h2 => absurd h1 (by omega), Or.inl ⟨e.2.2.2.2.2.1, rfl, by omega, by rw [Int.sub_self]; rfl⟩⟩
theorem SG_EN {o : Int32} {c : Int} {d : Nat} {q z : SS} (e : EN q) (g : SG o c d q z) (n : z.1 60 20 = -1) (h : 0 ≤ c) (ho : 0 ≤ o.toInt ∧ o.toInt ≤ 6) : EN z := by
  obtain ⟨e1, e2, e3, e4, e5, e6, e7, e8⟩ := e
  have t := SG_tp g
  obtain ⟨n1, n2, _⟩ := SG_nw g n
  obtain ⟨_, ⟨g1, g2⟩, g3, _⟩ := g
  refine ⟨by omega, by rw [t]; omega, by rw [t]; omega, by omega, by omega, n, by rw [n1]; omega, by rw [n1]; omega⟩
/-- a byte read -/
theorem SG_hr {o : Int32} {c : Int} {d : Nat} {q z : SS} (e : EN q) (g : SG o c d q z) (n : z.1 60 20 = -1) (h : (z.1 60 19).toInt < (z.1 60 18).toInt) : SG o (c + 1) d q (sI z 60 19 (z.1 60 19 + 1)) := by
  obtain ⟨e1, e2, e3, e4, e5, e6, e7, e8⟩ := e
  have t := SG_tp g
  obtain ⟨n1, n2, n3⟩ := SG_nw g n
  obtain ⟨g0, ⟨g1, g2⟩, g3, g4, g5, _⟩ := g
  rw [t] at h
  have i := inc1 (a := z.1 60 19) (by omega) (by omega)
  have r19 : (sI z 60 19 (z.1 60 19 + 1)).1 60 19 = z.1 60 19 + 1 := rfl
  have r22 : (sI z 60 19 (z.1 60 19 + 1)).1 60 22 = z.1 60 22 := rfl
  refine ⟨Fr_sI g0 rfl, ⟨by rw [r19]; omega, by rw [r19]; omega⟩, g3, g4, g5, Or.inl ⟨n, n1, ?_, n3⟩⟩
  rw [r19, r22]
  omega
/-- open brackets counted -/
theorem SG_op {o o' : Int32} {c : Int} {d : Nat} {q z : SS} {x : Int32} (g : SG o c d q z) (n : z.1 60 20 = -1 → x = o') : SG o' c d q (sI z 60 21 x) := by
  obtain ⟨g0, g1, g3, g4, g5, g6⟩ := g
  refine ⟨Fr_sI g0 rfl, g1, g3, g4, g5, ?_⟩
  rcases g6 with ⟨h1, h2, h3, h4⟩ | h
  · exact Or.inl ⟨h1, n h1, h3, h4⟩
  · exact Or.inr h
/-- refused -/
theorem SG_wr {o o' : Int32} {c : Int} {d d' : Nat} {q z : SS} (e : EN q) (g : SG o c d q z) (n : z.1 60 20 = -1) : T (f_X12_wrong z) (fun r => SG o' (c + 1) d' q r ∧ 0 ≤ (r.1 60 20).toInt) := by
  obtain ⟨e1, e2, e3, e4, e5, e6, e7, e8⟩ := e
  obtain ⟨n1, n2, n3⟩ := SG_nw g n
  obtain ⟨g0, ⟨g1, g2⟩, g3, g4, g5, _⟩ := g
  unfold f_X12_wrong
  refine T_q (by rw [n]; decide) (T_nm (T_some.mpr ?_))
  have w : 0 ≤ ((sI z 60 20 (z.1 60 19)).1 60 20).toInt := by
    show 0 ≤ (z.1 60 19).toInt
    omega
  refine ⟨⟨Fr_sI g0 rfl, ⟨g1, g2⟩, g3, g4, g5, Or.inr ⟨w, ?_⟩⟩, w⟩
  show (z.1 60 22).toInt + (c + 1) ≤ (q.1 60 22).toInt + ((z.1 60 19).toInt - (q.1 60 19).toInt) + 1
  omega
theorem n8 (a : Int32) : (a.toInt8.toInt32).toInt8.toInt32 = a.toInt8.toInt32 := by
  rw [Int8.toInt8_toInt32]
/-- a step laid -/
theorem SG_add {o : Int32} {c : Int} {d e' : Nat} {q z : SS} {a w : Int32} (e : EN q) (g : SG o (c + 1) d q z) (hc : -1 ≤ c) (s : z.1 60 20 = -1 → stepd (a.toInt8.toInt32) w d = some e') : T (f_X12_addStep z a w) (fun r => SG o c e' q r ∧ r.1 60 19 = z.1 60 19 ∧ r.1 60 20 = z.1 60 20 ∧ r.1 60 18 = z.1 60 18) := by
  obtain ⟨e1, e2, e3, e4, e5, e6, e7, e8⟩ := e
  obtain ⟨g0, ⟨g1, g2⟩, g3, g4, g5, g6⟩ := g
  have b : (z.1 60 22).toInt + c ≤ (q.1 60 22).toInt + ((z.1 60 19).toInt - (q.1 60 19).toInt) := by
    rcases g6 with h | h
    · have := h.2.2.1; omega
    · have := h.2; omega
  have l130 : (130 : Int32).toInt = 130 := rfl
  have ad : ((130 : Int32) + z.1 60 22).toInt = 130 + (z.1 60 22).toInt := by rw [tadd (by omega) (by omega), l130]
  have i := inc1 (a := z.1 60 22) (by omega) (by omega)
  have ix : ((130 : Int32) + z.1 60 22).toNatClampNeg = (130 + (z.1 60 22).toInt).toNat := congrArg Int.toNat ad
  unfold f_X12_addStep
  rw [n8]
  refine T_vp (by omega) (by omega) (T_nm (T_vp (n := 260) (by show 0 ≤ ((130 : Int32) + z.1 60 22).toInt; omega) (by show ((130 : Int32) + z.1 60 22).toInt < _; omega) (T_nm (T_nm (T_some.mpr ?_)))))
  show SG o c e' q (sI (sI (sI z 74 ((130 : Int32) + z.1 60 22).toNatClampNeg (a.toInt8.toInt32)) 75 ((130 : Int32) + z.1 60 22).toNatClampNeg w) 60 22 (z.1 60 22 + 1)) ∧ _
  rw [ix]
  have bl : Nat.ble 130 (130 + (z.1 60 22).toInt).toNat = true := Nat.ble_eq_true_of_le (by omega)
  refine ⟨?_, rfl, rfl, rfl⟩
  have c74 : ∀ k : Nat, (sI (sI (sI z 74 (130 + (z.1 60 22).toInt).toNat (a.toInt8.toInt32)) 75 (130 + (z.1 60 22).toInt).toNat w) 60 22 (z.1 60 22 + 1)).1 74 k = if k = (130 + (z.1 60 22).toInt).toNat then a.toInt8.toInt32 else z.1 74 k := fun k => by
    rw [sI_ro (by decide), sI_ro (by decide), sI_rd]
    simp
  have c75 : ∀ k : Nat, (sI (sI (sI z 74 (130 + (z.1 60 22).toInt).toNat (a.toInt8.toInt32)) 75 (130 + (z.1 60 22).toInt).toNat w) 60 22 (z.1 60 22 + 1)).1 75 k = if k = (130 + (z.1 60 22).toInt).toNat then w else z.1 75 k := fun k => by
    rw [sI_ro (by decide), sI_rd, sI_ro (by decide)]
    simp
  have lo74 : ∀ k : Nat, (k : Int) < 130 + (z.1 60 22).toInt → (sI (sI (sI z 74 (130 + (z.1 60 22).toInt).toNat (a.toInt8.toInt32)) 75 (130 + (z.1 60 22).toInt).toNat w) 60 22 (z.1 60 22 + 1)).1 74 k = z.1 74 k := fun k hk => by rw [c74, if_neg (by omega)]
  have lo75 : ∀ k : Nat, (k : Int) < 130 + (z.1 60 22).toInt → (sI (sI (sI z 74 (130 + (z.1 60 22).toInt).toNat (a.toInt8.toInt32)) 75 (130 + (z.1 60 22).toInt).toNat w) 60 22 (z.1 60 22 + 1)).1 75 k = z.1 75 k := fun k hk => by rw [c75, if_neg (by omega)]
  have r22 : (sI (sI (sI z 74 (130 + (z.1 60 22).toInt).toNat (a.toInt8.toInt32)) 75 (130 + (z.1 60 22).toInt).toNat w) 60 22 (z.1 60 22 + 1)).1 60 22 = z.1 60 22 + 1 := rfl
  refine ⟨Fr_sI (Fr_sI (Fr_sI g0 (by unfold wS; rw [bl]; rfl)) (by unfold wS; rw [bl]; rfl)) rfl, ⟨g1, g2⟩, by rw [r22]; omega, fun k hk => ?_, fun k h1 h2 => ?_, ?_⟩
  · rw [lo74 k (by omega), lo75 k (by omega)]
    exact g4 k hk
  · rw [r22, i] at h2
    by_cases x : k = (130 + (z.1 60 22).toInt).toNat
    · rw [c74, if_pos x, n8]
    · rw [lo74 k (by omega)]
      exact g5 k h1 (by omega)
  · rcases g6 with ⟨h1, h2, h3, h4⟩ | ⟨h1, h2⟩
    · refine Or.inl ⟨h1, h2, ?_, ?_⟩
      · show (z.1 60 22 + 1).toInt + c ≤ (q.1 60 22).toInt + ((z.1 60 19).toInt - (q.1 60 19).toInt)
        omega
      · rw [r22, i]
        have en : ((z.1 60 22).toInt + 1 - (q.1 60 22).toInt).toNat = ((z.1 60 22).toInt - (q.1 60 22).toInt).toNat + 1 := by omega
        rw [en, dp_add]
        rw [← dp_c (A := z.1 74) (W := z.1 75) _ _ _ (fun k hk hl => ⟨(lo74 k (by omega)).symm, (lo75 k (by omega)).symm⟩), h4]
        have ei : (130 + (q.1 60 22).toInt).toNat + ((z.1 60 22).toInt - (q.1 60 22).toInt).toNat = (130 + (z.1 60 22).toInt).toNat := by omega
        rw [ei]
        show (stepd _ _ d).bind (fun d' => some d') = some e'
        rw [c74, c75, if_pos rfl, if_pos rfl, s h1]
        rfl
    · refine Or.inr ⟨h1, ?_⟩
      show (z.1 60 22 + 1).toInt + c ≤ (q.1 60 22).toInt + ((z.1 60 19).toInt - (q.1 60 19).toInt) + 1
      omega
/-- one piece behind another -/
theorem SG_tr {o o2 : Int32} {c c2 : Int} {d d2 : Nat} {q z y : SS} (e : EN q) (g : SG o c d q z) (n : z.1 60 20 = -1) (k : SG o2 c2 d2 z y) : SG o2 (c + c2) (d + d2) q y := by
  have t := SG_tp g
  obtain ⟨n1, n2, n3⟩ := SG_nw g n
  obtain ⟨e1, e2, e3, e4, e5, e6, e7, e8⟩ := e
  obtain ⟨g0, ⟨g1, g2⟩, g3, g4, g5, _⟩ := g
  obtain ⟨k0, ⟨k1, k2⟩, k3, k4, k5, k6⟩ := k
  rw [t] at k2
  refine ⟨Fr_tr g0 k0, ⟨by omega, by omega⟩, by omega, fun j hj => ?_, fun j h1 h2 => ?_, ?_⟩
  · have a := k4 j (by omega)
    have b := g4 j hj
    exact ⟨a.1.trans b.1, a.2.trans b.2⟩
  · by_cases x : (j : Int) < 130 + (z.1 60 22).toInt
    · rw [(k4 j x).1]
      exact g5 j h1 x
    · exact k5 j (by omega) h2
  · rcases k6 with ⟨h1, h2, h3, h4⟩ | ⟨h1, h2⟩
    · refine Or.inl ⟨h1, h2, by omega, ?_⟩
      have en : ((y.1 60 22).toInt - (q.1 60 22).toInt).toNat = ((z.1 60 22).toInt - (q.1 60 22).toInt).toNat + ((y.1 60 22).toInt - (z.1 60 22).toInt).toNat := by omega
      rw [en, dp_add]
      rw [dp_c (A := y.1 74) (W := y.1 75) (A' := z.1 74) (W' := z.1 75) _ _ _ (fun j hj hl => k4 j (by omega)), n3]
      have ei : (130 + (q.1 60 22).toInt).toNat + ((z.1 60 22).toInt - (q.1 60 22).toInt).toNat = (130 + (z.1 60 22).toInt).toNat := by omega
      rw [ei]
      show dp (y.1 74) (y.1 75) ((y.1 60 22).toInt - (z.1 60 22).toInt).toNat (130 + (z.1 60 22).toInt).toNat d = some (d + d2)
      have := dp_l d _ _ _ _ h4
      rw [Nat.zero_add] at this
      rw [this, Nat.add_comm]
    · exact Or.inr ⟨h1, by omega⟩
/-! ===== the model reads its law: what calls itself ===== -/
theorem mk_look (z : SS) (h0 : 0 ≤ (z.1 60 19).toInt) (h1 : (z.1 60 18).toInt ≤ 120) : ∃ v, f_X12_look z = some v ∧ (v ≠ -1 → (z.1 60 19).toInt < (z.1 60 18).toInt) := by
  unfold f_X12_look
  by_cases g : z.1 60 18 ≤ z.1 60 19
  · rw [if_pos g]
    exact ⟨-1, rfl, fun h => absurd rfl h⟩
  · have l := Int32.lt_iff_toInt_lt.mp (Int32.not_le.mp g)
    rw [if_neg g, if_pos ⟨h0, by show (z.1 60 19).toInt < 120; omega⟩]
    exact ⟨_, rfl, fun _ => l⟩
theorem m_name (z : SS) (a : Int32) : T (f_X12_nameOf z a) (fun r => r = -1 ∨ (0 ≤ r.toInt ∧ r.toInt < 6 ∧ a ≠ -1)) := by
  unfold f_X12_nameOf
  repeat (refine T_sw (fun h => T_some.mpr (Or.inr ⟨by decide, by decide, fun e => by rw [e] at h; exact absurd h (by decide)⟩)) (fun _ => ?_))
  exact T_sw0 (T_some.mpr (Or.inl rfl))
theorem m_dig (z : SS) (a : Int32) : T (f_X12_in z a 48 57) (fun r => r ≠ 0 → a ≠ -1) := by
  have l48 : (48 : Int32).toInt = 48 := rfl
  unfold f_X12_in
  exact T_lt (fun _ => T_some.mpr (fun h => absurd rfl h)) (fun g => T_lt (fun _ => T_some.mpr (fun h => absurd rfl h)) (fun _ => T_some.mpr (fun _ e => by rw [e, l48, m1i] at g; exact absurd g (by omega))))
theorem m_opens {q z : SS} {o o' : Int32} {c : Int} {d d' : Nat} (e : EN q) (g : SG o c d q z) (n : z.1 60 20 = -1) (ho : 0 ≤ o.toInt ∧ o.toInt ≤ 6) (h : (z.1 60 19).toInt < (z.1 60 18).toInt) : T (f_X12_opens z) (fun r => (r.1 = 0 ∧ SG o' (c + 1) d' q r.2 ∧ 0 ≤ (r.2.1 60 20).toInt) ∨ (r.1 = 1 ∧ o.toInt < 6 ∧ SG (o + 1) (c + 1) d q r.2 ∧ r.2.1 60 20 = -1)) := by
  have l6 : (6 : Int32).toInt = 6 := rfl
  have n1 := (SG_nw g n).1
  unfold f_X12_opens
  refine T_eq (fun _ => T_b (SG_wr e g n) (fun r hr => T_some.mpr (Or.inl ⟨rfl, hr.1, hr.2⟩))) (fun ne => T_nm (T_nm (T_some.mpr (Or.inr ⟨rfl, ?_, ?_, n⟩))))
  · rw [n1] at ne
    omega
  · exact SG_hr e (SG_op g (fun _ => by rw [n1])) n h
theorem m_fig {q : SS} (e : EN q) : T (f_X12_figure q) (SG (q.1 60 21) 0 1 q) := by
  have l4 : (4 : Int32).toInt = 4 := rfl
  have l0 : (0 : Int32).toInt = 0 := rfl
  have b74 : ∀ (y : SS) (l1 : Int32), SG (q.1 60 21) 1 0 q y → T (b_X12_figure_74 y l1) (SG (q.1 60 21) 0 1 q) := fun y l1 g => by
    unfold b_X12_figure_74
    exact T_b (SG_add (c := 0) (e' := 1) e g (by decide) (fun _ => rfl)) (fun r hr => T_some.mpr hr.1)
  have b70 : ∀ (y : SS) (l1 : Int32), SG (q.1 60 21) 0 0 q y → y.1 60 20 = -1 → T (b_X12_figure_70 y l1) (SG (q.1 60 21) 0 1 q) := fun y l1 g n => by
    unfold b_X12_figure_70
    exact T_b (SG_wr (d' := 0) e g n) (fun r hr => b74 r l1 hr.1)
  have bd : ∀ y : SS, SG (q.1 60 21) 0 0 q y → 0 ≤ (y.1 60 19).toInt ∧ (y.1 60 18).toInt ≤ 120 := fun y g => by
    have t := SG_tp g
    have g1 := g.2.1.1
    obtain ⟨e1, e2, e3, _⟩ := e
    exact ⟨by omega, by rw [t]; omega⟩
  have b52 : ∀ (y : SS) (l1 l2 : Int32), SG (q.1 60 21) l2.toInt 0 q y → 0 ≤ l2.toInt → y.1 60 20 = -1 → T (b_X12_figure_52 y l1 l2) (SG (q.1 60 21) 0 1 q) := fun y l1 l2 g h n => by
    have g0 : SG (q.1 60 21) 0 0 q y := SG_le g h
    unfold b_X12_figure_52
    refine T_eq (fun _ => b70 y l1 g0 n) (fun ne => ?_)
    obtain ⟨v, hv, _⟩ := mk_look y (bd y g0).1 (bd y g0).2
    exact T_rw hv (T_b (m_dig y v) (fun r4 _ => T_i (fun _ => b74 y l1 (SG_le g (by omega))) (fun _ => b70 y l1 g0 n)))
  unfold f_X12_figure b_X12_figure_4
  refine T_fx3 (fun y _ l2 => SG (q.1 60 21) l2.toInt 0 q y ∧ y.1 60 20 = -1 ∧ 0 ≤ l2.toInt ∧ l2.toInt ≤ 4) (fun _ _ l2 => (4 - l2.toInt).toNat) ?_ _ _ _ _ ⟨SG_refl e, e.2.2.2.2.2.1, by decide, by decide⟩ (by unfold FU; decide)
  rintro rec y l1 l2 ⟨g, n, h0, h4⟩ hr
  have g0 : SG (q.1 60 21) 0 0 q y := SG_le g h0
  refine T_le (fun _ => b52 y l1 l2 g h0 n) (fun lt => ?_)
  obtain ⟨v, hv, hl⟩ := mk_look y (bd y g0).1 (bd y g0).2
  refine T_rw hv (T_b (m_dig y v) (fun r8 h8 => T_i (fun _ => b52 y l1 l2 g h0 n) (fun ne => T_rw hv (T_nm (T_nm ?_)))))
  have i := inc1 (a := l2) (by omega) (by omega)
  exact hr _ _ _ ⟨by rw [i]; exact SG_hr e g n (hl (h8 ne)), n, by omega, by omega⟩ (by omega)
def MO (k n : Nat) (f : SS → Option SS) : Prop := ∀ q : SS, EN q → 10 * (6 - (q.1 60 21).toInt) + k ≤ (n : Int) → T (f q) (SG (q.1 60 21) 0 1 q)
theorem SG_bin {f : SS → Option SS} {k n : Nat} (hf : MO k n f) {q y : SS} {v : Int32} {kk : SS → Option SS} {P : SS → Prop} (e : EN q) (hn : 10 * (6 - (q.1 60 21).toInt) + k ≤ (n : Int)) (g : SG (q.1 60 21) 0 1 q y) (w : y.1 60 20 = -1) (h : (y.1 60 19).toInt < (y.1 60 18).toInt) (hv : stepd (v.toInt8.toInt32) 0 2 = some 1) (hk : ∀ r, SG (q.1 60 21) 0 1 q r → (y.1 60 19).toInt < (r.1 60 19).toInt → T (kk r) P) : T (nm (sI y 60 19 (y.1 60 19 + 1)) fun q4 => (f q4).bind fun r5 => (f_X12_addStep r5 v 0).bind fun r6 => kk r6) P := by
  have g1 := SG_hr e g w h
  have n4 : (sI y 60 19 (y.1 60 19 + 1)).1 60 20 = -1 := w
  have e4 := SG_EN e g1 n4 (by decide) ⟨e.2.2.2.2.2.2.1, e.2.2.2.2.2.2.2⟩
  have o4 := (SG_nw g1 n4).1
  refine T_nm (T_b (hf _ e4 (by rw [o4]; exact hn)) (fun r5 h5 => T_b (SG_add (c := 0) e (SG_le (SG_tr e g1 n4 h5) (by decide)) (by decide) (fun _ => hv)) (fun r6 h6 => ?_)))
  have h6' := h6.1
  rw [o4] at h6'
  refine hk r6 h6' ?_
  rw [h6.2.1]
  have a := h5.2.1.1
  have t := SG_tp g
  have b := g.2.1
  obtain ⟨e1, e2, e3, _⟩ := e
  have i := inc1 (a := y.1 60 19) (by omega) (by omega)
  have r19 : (sI y 60 19 (y.1 60 19 + 1)).1 60 19 = y.1 60 19 + 1 := rfl
  rw [r19, i] at a
  omega
def MJ (n : Nat) : Prop := MO 1 n (g_X12_operand n).1 ∧ MO 2 n (g_X12_operand n).2.1 ∧ MO 3 n (g_X12_operand n).2.2.1 ∧ MO 4 n (g_X12_operand n).2.2.2.1 ∧ MO 5 n (g_X12_operand n).2.2.2.2.1 ∧ MO 6 n (g_X12_operand n).2.2.2.2.2
theorem MJ_0 : MJ 0 := by
  have h : ∀ k f, 1 ≤ k → MO k 0 f := fun k f hk q e hn => by
    have := e.2.2.2.2.2.2.2
    exact absurd hn (by omega)
  exact ⟨h _ _ (by decide), h _ _ (by decide), h _ _ (by decide), h _ _ (by decide), h _ _ (by decide), h _ _ (by decide)⟩
theorem SG_bd {o : Int32} {c : Int} {d : Nat} {q y : SS} (e : EN q) (g : SG o c d q y) : 0 ≤ (y.1 60 19).toInt ∧ (y.1 60 18).toInt ≤ 120 ∧ (q.1 60 18).toInt - (y.1 60 19).toInt ≤ 120 := by
  have t := SG_tp g
  have g1 := g.2.1
  obtain ⟨e1, e2, e3, _⟩ := e
  exact ⟨by omega, by rw [t]; omega, by omega⟩
theorem MJ_P {n : Nat} (ih : MJ n) : MO 2 (n + 1) (fb_X12_product (g_X12_operand n)) := by
  intro q e hn
  have l0 : (0 : Int32).toInt = 0 := rfl
  unfold fb_X12_product b_X12_product_4
  refine T_b (ih.1 q e (by omega)) (fun r1 g1 => ?_)
  refine T_fx1 (fun y => SG (q.1 60 21) 0 1 q y) (fun y => ((q.1 60 18).toInt - (y.1 60 19).toInt).toNat) ?_ _ _ g1 (by have := SG_bd e g1; unfold FU; omega)
  rintro rec y g hr
  refine T_le (fun _ => T_some.mpr g) (fun w' => ?_)
  have w := SG_no g (by omega)
  have bd := SG_bd e g
  obtain ⟨v, hv, hl⟩ := mk_look y bd.1 bd.2.1
  have go : v ≠ -1 → stepd (v.toInt8.toInt32) 0 2 = some 1 → T (b_X12_product_38 (g_X12_operand n) rec y) (SG (q.1 60 21) 0 1 q) := fun h1 h2 => by
    unfold b_X12_product_38
    exact T_rw hv (SG_bin ih.1 e (by omega) g w (hl h1) h2 (fun r a b => hr r a (by have := a.2.1.2; omega)))
  refine T_rw hv (T_eq (fun ev => ?_) (fun _ => T_rw hv (T_eq (fun ev => ?_) (fun _ => T_rw hv (T_eq (fun ev => ?_) (fun _ => T_some.mpr g))))))
  · exact go (by rw [ev]; decide) (by rw [ev]; rfl)
  · exact go (by rw [ev]; decide) (by rw [ev]; rfl)
  · exact go (by rw [ev]; decide) (by rw [ev]; rfl)
theorem MJ_S {n : Nat} (ih : MJ n) : MO 3 (n + 1) (fb_X12_sum (g_X12_operand n)) := by
  intro q e hn
  have l0 : (0 : Int32).toInt = 0 := rfl
  unfold fb_X12_sum b_X12_sum_4
  refine T_b (ih.2.1 q e (by omega)) (fun r1 g1 => ?_)
  refine T_fx1 (fun y => SG (q.1 60 21) 0 1 q y) (fun y => ((q.1 60 18).toInt - (y.1 60 19).toInt).toNat) ?_ _ _ g1 (by have := SG_bd e g1; unfold FU; omega)
  rintro rec y g hr
  refine T_le (fun _ => T_some.mpr g) (fun w' => ?_)
  have w := SG_no g (by omega)
  have bd := SG_bd e g
  obtain ⟨v, hv, hl⟩ := mk_look y bd.1 bd.2.1
  have go : v ≠ -1 → stepd (v.toInt8.toInt32) 0 2 = some 1 → T (b_X12_sum_29 (g_X12_operand n) rec y) (SG (q.1 60 21) 0 1 q) := fun h1 h2 => by
    unfold b_X12_sum_29
    exact T_rw hv (SG_bin ih.2.1 e (by omega) g w (hl h1) h2 (fun r a b => hr r a (by have := a.2.1.2; omega)))
  refine T_rw hv (T_eq (fun ev => ?_) (fun _ => T_rw hv (T_eq (fun ev => ?_) (fun _ => T_some.mpr g))))
  · exact go (by rw [ev]; decide) (by rw [ev]; rfl)
  · exact go (by rw [ev]; decide) (by rw [ev]; rfl)
theorem MJ_C {n : Nat} (ih : MJ n) : MO 4 (n + 1) (fb_X12_compared (g_X12_operand n)) := by
  intro q e hn
  have l0 : (0 : Int32).toInt = 0 := rfl
  unfold fb_X12_compared
  refine T_b (ih.2.2.1 q e (by omega)) (fun y g => ?_)
  have bd := SG_bd e g
  obtain ⟨v, hv, hl⟩ := mk_look y bd.1 bd.2.1
  refine T_rw hv (T_le (fun _ => T_some.mpr g) (fun w' => ?_))
  have w := SG_no g (by omega)
  have go : v ≠ -1 → stepd (v.toInt8.toInt32) 0 2 = some 1 → T (b_X12_compared_35 (g_X12_operand n) y v) (SG (q.1 60 21) 0 1 q) := fun h1 h2 => by
    unfold b_X12_compared_35
    exact SG_bin ih.2.2.1 e (by omega) g w (hl h1) h2 (fun r a b => T_some.mpr a)
  refine T_eq (fun ev => ?_) (fun _ => T_eq (fun ev => ?_) (fun _ => T_eq (fun ev => ?_) (fun _ => T_some.mpr g)))
  · exact go (by rw [ev]; decide) (by rw [ev]; rfl)
  · exact go (by rw [ev]; decide) (by rw [ev]; rfl)
  · exact go (by rw [ev]; decide) (by rw [ev]; rfl)
theorem MJ_B {n : Nat} (ih : MJ n) : MO 5 (n + 1) (fb_X12_both (g_X12_operand n)) := by
  intro q e hn
  have l0 : (0 : Int32).toInt = 0 := rfl
  unfold fb_X12_both b_X12_both_4
  refine T_b (ih.2.2.2.1 q e (by omega)) (fun r1 g1 => ?_)
  refine T_fx1 (fun y => SG (q.1 60 21) 0 1 q y) (fun y => ((q.1 60 18).toInt - (y.1 60 19).toInt).toNat) ?_ _ _ g1 (by have := SG_bd e g1; unfold FU; omega)
  rintro rec y g hr
  refine T_le (fun _ => T_some.mpr g) (fun w' => ?_)
  have w := SG_no g (by omega)
  have bd := SG_bd e g
  obtain ⟨v, hv, hl⟩ := mk_look y bd.1 bd.2.1
  refine T_rw hv (T_eq (fun ev => ?_) (fun _ => T_some.mpr g))
  exact SG_bin ih.2.2.2.1 e (by omega) g w (hl (by rw [ev]; decide)) rfl (fun r a b => hr r a (by have := a.2.1.2; omega))
theorem MJ_E {n : Nat} (ih : MJ n) : MO 6 (n + 1) (fb_X12_either (g_X12_operand n)) := by
  intro q e hn
  have l0 : (0 : Int32).toInt = 0 := rfl
  unfold fb_X12_either b_X12_either_4
  refine T_b (ih.2.2.2.2.1 q e (by omega)) (fun r1 g1 => ?_)
  refine T_fx1 (fun y => SG (q.1 60 21) 0 1 q y) (fun y => ((q.1 60 18).toInt - (y.1 60 19).toInt).toNat) ?_ _ _ g1 (by have := SG_bd e g1; unfold FU; omega)
  rintro rec y g hr
  refine T_le (fun _ => T_some.mpr g) (fun w' => ?_)
  have w := SG_no g (by omega)
  have bd := SG_bd e g
  obtain ⟨v, hv, hl⟩ := mk_look y bd.1 bd.2.1
  refine T_rw hv (T_eq (fun ev => ?_) (fun _ => T_some.mpr g))
  exact SG_bin ih.2.2.2.2.1 e (by omega) g w (hl (by rw [ev]; decide)) rfl (fun r a b => hr r a (by have := a.2.1.2; omega))
theorem MJ_O {n : Nat} (ih : MJ n) : MO 1 (n + 1) (fb_X12_operand (g_X12_operand n)) := by
  intro q e hn
  have l0 : (0 : Int32).toInt = 0 := rfl
  have w : q.1 60 20 = -1 := e.2.2.2.2.2.1
  have o0 : 0 ≤ (q.1 60 21).toInt ∧ (q.1 60 21).toInt ≤ 6 := ⟨e.2.2.2.2.2.2.1, e.2.2.2.2.2.2.2⟩
  have g := SG_refl e
  obtain ⟨v, hv, hl⟩ := mk_look q e.1 e.2.2.1
  have cancel : ∀ o : Int32, o + 1 - 1 = o := fun o => Int32.add_sub_cancel o 1
  have t46 : ∀ l1 : Int32, (q.1 60 19).toInt < (q.1 60 18).toInt → T (b_X12_operand_46 (g_X12_operand n) q l1) (SG (q.1 60 21) 0 1 q) := fun l1 h => by
    unfold b_X12_operand_46
    refine T_b (m_opens (o' := q.1 60 21) (d' := 1) e g w o0 h) (fun r3 h3 => ?_)
    rcases h3 with ⟨a, b, c⟩ | ⟨a, b, c, d⟩
    · exact T_p a (T_some.mpr (SG_le b (by decide)))
    · refine T_q (by rw [a]; decide) ?_
      have i := inc1 (a := q.1 60 21) (by omega) (by omega)
      have e3 := SG_EN e c d (by decide) (by omega)
      have o3 := (SG_nw c d).1
      refine T_b (ih.1 _ e3 (by rw [o3]; omega)) (fun r4 h4 => T_nm ?_)
      have h4' := SG_tr e c d h4
      have h5 := SG_op (o' := q.1 60 21) (x := r4.1 60 21 - 1) h4' (fun n4 => by rw [(SG_nw h4' n4).1, o3, cancel])
      exact T_i (fun _ => by
        unfold b_X12_operand_80
        exact T_b (SG_add (c := 0) (e' := 1) e (SG_le h5 (by decide)) (by decide) (fun _ => rfl)) (fun r hr => T_some.mpr hr.1)) (fun _ => by
        unfold b_X12_operand_80
        exact T_b (SG_add (c := 0) (e' := 1) e (SG_le h5 (by decide)) (by decide) (fun _ => rfl)) (fun r hr => T_some.mpr hr.1))
  obtain ⟨m, hm, hp⟩ := m_name q v
  unfold fb_X12_operand
  refine T_rw hv (T_rw hm (T_lt (fun _ => ?_) (fun ge => ?_)))
  · refine T_eq (fun ev => t46 _ (hl (by rw [ev]; decide))) (fun _ => T_eq (fun ev => t46 _ (hl (by rw [ev]; decide))) (fun _ => T_eq (fun ev => ?_) (fun _ => T_b (m_fig e) (fun r hr => T_some.mpr hr))))
    have h := hl (by rw [ev]; decide)
    refine T_b (m_opens (o' := q.1 60 21) (d' := 1) e g w o0 h) (fun r3 h3 => ?_)
    rcases h3 with ⟨a, b, c⟩ | ⟨a, b, c, d⟩
    · exact T_p a (T_some.mpr (SG_le b (by decide)))
    · refine T_q (by rw [a]; decide) ?_
      have i := inc1 (a := q.1 60 21) (by omega) (by omega)
      have e3 := SG_EN e c d (by decide) (by omega)
      have o3 := (SG_nw c d).1
      refine T_b (ih.2.2.2.2.2 _ e3 (by rw [o3]; omega)) (fun r4 h4 => ?_)
      have h4' := SG_tr e c d h4
      refine T_lt (fun lt => ?_) (fun ge => T_some.mpr (SG_le (SG_w h4' (by omega)) (by decide)))
      have n4 := SG_no h4' (by omega)
      have bd := SG_bd e h4'
      obtain ⟨u, hu, hul⟩ := mk_look r4 bd.1 bd.2.1
      refine T_rw hu (T_eq (fun eu => T_nm (T_nm (T_some.mpr ?_))) (fun _ => T_b (SG_wr (o' := q.1 60 21) (d' := 1) e h4' n4) (fun r hr => T_some.mpr (SG_le hr.1 (by decide)))))
      have h5 := SG_hr e h4' n4 (hul (by rw [eu]; decide))
      exact SG_le (SG_op h5 (fun n5 => by rw [(SG_nw h5 n5).1, o3, cancel])) (by decide)
  · have hp' : 0 ≤ m.toInt ∧ m.toInt < 6 ∧ v ≠ -1 := by
      rcases hp with h | h
      · rw [h, m1i] at ge
        exact absurd ge (by omega)
      · exact h
    refine T_rw hm (T_b (SG_add (c := -1) (e' := 1) (a := 2) (w := m) e g (by decide) (fun _ => ?_)) (fun r hr => T_nm (T_some.mpr ?_)))
    · show stepd 2 m 0 = some 1
      unfold stepd
      rw [if_neg (by decide), if_pos rfl, if_pos ⟨hp'.1, hp'.2.1⟩]
    · have := hl hp'.2.2
      exact SG_hr e hr.1 (hr.2.2.1.trans w) (by rw [hr.2.1, hr.2.2.2]; exact this)
theorem MJ_all : ∀ n, MJ n
  | 0 => MJ_0
  | n + 1 => ⟨MJ_O (MJ_all n), MJ_P (MJ_all n), MJ_S (MJ_all n), MJ_C (MJ_all n), MJ_B (MJ_all n), MJ_E (MJ_all n)⟩
theorem m_either {q : SS} (e : EN q) : T (f_X12_either q) (SG (q.1 60 21) 0 1 q) := (MJ_all 900).2.2.2.2.2 q e (by have := e.2.2.2.2.2.2.1; omega)
/-! ===== the model reads its law: a line ===== -/
theorem n16 {a : Int32} (h0 : 0 ≤ a.toInt) (h : a.toInt < 32768) : a.toInt16.toInt32 = a := by
  apply Int32.toInt_inj.mp
  rw [Int16.toInt_toInt32, Int32.toInt_toInt16]
  exact Int.bmod_eq_of_le (by omega) (by omega)
theorem Fr_SN {a b : SS} (h : Fr wS v0 a b) : Fr wR v0 a b := Fr_le h (fun k i e => by
    unfold wR at e
    unfold wS
    simp only [Bool.or_eq_false_iff] at e ⊢
    obtain ⟨⟨⟨⟨⟨e1, e2⟩, e3⟩, e4⟩, e5⟩, e6⟩ := e
    refine ⟨⟨e1, e2⟩, ?_⟩
    cases g : (k == 60) with
    | false => rfl
    | true =>
      rw [g] at e6
      cases g2 : Nat.ble 19 i with
      | false => rfl
      | true =>
        have : Nat.ble 18 i = true := Nat.ble_eq_true_of_le (by have := Nat.le_of_ble_eq_true g2; omega)
        rw [this] at e6
        exact e6) (fun _ h => h)
def sgU (z : SS) (i j : Int) : Prop := dp (z.1 74) (z.1 75) (j - i).toNat (130 + i).toNat 0 = some 1
def stU (z : SS) (l : Nat) : Int := if l = 0 then 0 else (z.1 78 (61 + (l - 1))).toInt
def lnU (z : SS) (l : Nat) : Prop := 0 ≤ stU z l ∧ stU z l ≤ (z.1 77 (61 + l)).toInt ∧ (z.1 77 (61 + l)).toInt ≤ (z.1 78 (61 + l)).toInt ∧ (z.1 78 (61 + l)).toInt ≤ (z.1 60 22).toInt ∧ sgU z (z.1 77 (61 + l)).toInt (z.1 78 (61 + l)).toInt ∧ ((z.1 77 (61 + l)).toInt ≠ stU z l → sgU z (stU z l) (z.1 77 (61 + l)).toInt)
def LN (z : SS) (m : Nat) : Prop := (z.1 76 1).toInt = (m : Int) ∧ stU z m = (z.1 60 22).toInt ∧ (∀ k : Nat, 130 ≤ k → (k : Int) < 130 + (z.1 60 22).toInt → (z.1 74 k).toInt8.toInt32 = z.1 74 k) ∧ ∀ l : Nat, l < m → lnU z l
theorem sgU_c {z z' : SS} {i j b : Int} (h0 : 0 ≤ i) (hj : j ≤ b) (hc : ∀ k : Nat, (k : Int) < 130 + b → z'.1 74 k = z.1 74 k ∧ z'.1 75 k = z.1 75 k) (h : sgU z i j) : sgU z' i j := by
  unfold sgU at h ⊢
  rw [← h]
  exact dp_c _ _ _ (fun k h1 h2 => hc k (by omega))
theorem lnU_c {z z' : SS} {l : Nat} (hst : stU z' l = stU z l) (h77 : z'.1 77 (61 + l) = z.1 77 (61 + l)) (h78 : z'.1 78 (61 + l) = z.1 78 (61 + l)) (hl : (z.1 60 22).toInt ≤ (z'.1 60 22).toInt) (hc : ∀ k : Nat, (k : Int) < 130 + (z.1 60 22).toInt → z'.1 74 k = z.1 74 k ∧ z'.1 75 k = z.1 75 k) (h : lnU z l) : lnU z' l := by
  obtain ⟨h1, h2, h3, h4, h5, h6⟩ := h
  unfold lnU
  rw [hst, h77, h78]
  exact ⟨h1, h2, h3, Int.le_trans h4 hl, sgU_c (by omega) h4 hc h5, fun n => sgU_c h1 (by omega) hc (h6 n)⟩
theorem line_fin {q z : SS} {m : Nat} {x : Int32} (L : LN q m) (hm : 2 * (m : Int) ≤ (q.1 60 19).toInt) (ez : EN z) (r76 : z.1 76 = q.1 76) (r78 : z.1 78 = q.1 78) (r77 : ∀ l : Nat, l < m → z.1 77 (61 + l) = q.1 77 (61 + l)) (hc : ∀ k : Nat, (k : Int) < 130 + (q.1 60 22).toInt → z.1 74 k = q.1 74 k ∧ z.1 75 k = q.1 75 k) (hn : ∀ k : Nat, 130 + (q.1 60 22).toInt ≤ (k : Int) → (k : Int) < 130 + (z.1 60 22).toInt → (z.1 74 k).toInt8.toInt32 = z.1 74 k) (hr : (q.1 60 19).toInt < (z.1 60 19).toInt) (l0 : 0 ≤ (q.1 60 22).toInt) (t1 : (q.1 60 22).toInt ≤ (z.1 77 (61 + m)).toInt) (t2 : (z.1 77 (61 + m)).toInt ≤ (z.1 60 22).toInt) (s1 : sgU z (z.1 77 (61 + m)).toInt (z.1 60 22).toInt) (s2 : (z.1 77 (61 + m)).toInt ≠ (q.1 60 22).toInt → sgU z (q.1 60 22).toInt (z.1 77 (61 + m)).toInt) (hx : x = z.1 60 22) : EN (sI (sI z 78 (61 + m) x) 76 1 (z.1 76 1 + 1)) ∧ LN (sI (sI z 78 (61 + m) x) 76 1 (z.1 76 1 + 1)) (m + 1) ∧ 2 * ((m + 1 : Nat) : Int) ≤ (z.1 60 19).toInt + 1 := by
  obtain ⟨L1, L2, L3, L4⟩ := L
  have h120 : (z.1 60 19).toInt ≤ 120 := by
    obtain ⟨_, a, b, _⟩ := ez
    omega
  refine ⟨ez, ⟨?_, ?_, ?_, ?_⟩, by omega⟩
  · show (z.1 76 1 + 1).toInt = _
    rw [r76, inc1 (by omega) (by omega)]
    omega
  · unfold stU
    rw [if_neg (by omega)]
    have e : ((sI (sI z 78 (61 + m) x) 76 1 (z.1 76 1 + 1)).1 78 (61 + (m + 1 - 1))) = x := by
      rw [sI_ro (by decide), sI_rd, if_pos ⟨rfl, by omega⟩]
    rw [e, hx]
    rfl
  · intro k hk h2
    have a : (z.1 74 k).toInt8.toInt32 = z.1 74 k := by
      by_cases c : (k : Int) < 130 + (q.1 60 22).toInt
      · rw [(hc k c).1]
        exact L3 k hk c
      · exact hn k (by omega) h2
    exact a
  · have st : ∀ l : Nat, l < m + 1 → stU (sI (sI z 78 (61 + m) x) 76 1 (z.1 76 1 + 1)) l = stU q l := fun l hl => by
      unfold stU
      by_cases c : l = 0
      · rw [if_pos c, if_pos c]
      · rw [if_neg c, if_neg c, sI_ro (by decide), sI_rd, if_neg (fun h => by have := h.2; omega), r78]
    intro l hl
    by_cases c : l < m
    · refine lnU_c (z := q) (st l hl) (r77 l c) ?_ (by show (q.1 60 22).toInt ≤ (z.1 60 22).toInt; omega) hc (L4 l c)
      rw [sI_ro (by decide), sI_rd, if_neg (fun h => by have := h.2; omega), r78]
    · obtain rfl : l = m := by omega
      have e : ((sI (sI z 78 (61 + l) x) 76 1 (z.1 76 1 + 1)).1 78 (61 + l)) = x := by
        rw [sI_ro (by decide), sI_rd, if_pos ⟨rfl, rfl⟩]
      unfold lnU
      rw [st l hl, L2, e, hx]
      exact ⟨l0, t1, t2, Int.le_refl _, s1, s2⟩
theorem sg_lt {o : Int32} {c : Int} {q z : SS} (g : SG o c 1 q z) (n : z.1 60 20 = -1) : (q.1 60 22).toInt < (z.1 60 22).toInt := by
  have a := g.2.2.1
  have b := (SG_nw g n).2.2
  by_cases h : (z.1 60 22).toInt = (q.1 60 22).toInt
  · rw [h, Int.sub_self] at b
    cases b
  · omega
theorem line66 {z : SS} {l1 : Int32} {m : Nat} (h : l1.toInt = 61 + (m : Int)) (hm : m ≤ 60) : b_X12_line_66 z l1 = some (sI (sI z 78 (61 + m) (((z.1 60 22).toInt16.toInt32).toInt16.toInt32)) 76 1 (z.1 76 1 + 1)) := by
  have e : l1.toNatClampNeg = 61 + m := by
    show l1.toInt.toNat = _
    omega
  unfold b_X12_line_66
  rw [if_pos ⟨by omega, by omega⟩, e]
  rfl
def LNP (q z : SS) (m : Nat) : Prop := Fr wR v0 q z ∧ z.1 60 18 = q.1 60 18 ∧ ((q.1 60 19).toInt ≤ (z.1 60 19).toInt ∧ (z.1 60 19).toInt ≤ (q.1 60 18).toInt) ∧ (0 ≤ (z.1 60 20).toInt ∨ (EN z ∧ LN z (m + 1) ∧ 2 * ((m + 1 : Nat) : Int) ≤ (z.1 60 19).toInt + 1))
theorem bN {a b : Nat} (h : a ≤ b) : Nat.ble a b = true := Nat.ble_eq_true_of_le h
theorem m_line {q : SS} {m : Nat} (e : EN q) (L : LN q m) (hm : 2 * (m : Int) ≤ (q.1 60 19).toInt) : T (f_X12_line q) (fun z => LNP q z m) := by
  have l0 : (0 : Int32).toInt = 0 := rfl
  have l61 : (61 : Int32).toInt = 61 := rfl
  obtain ⟨e1, e2, e3, e4, e5, e6, e7, e8⟩ := id e
  have L1 := L.1
  have hv : ((61 : Int32) + q.1 76 1).toInt = 61 + (m : Int) := by rw [tadd (by omega) (by omega), l61, L1]
  have ev : ((61 : Int32) + q.1 76 1).toNatClampNeg = 61 + m := by
    show ((61 : Int32) + q.1 76 1).toInt.toNat = _
    omega
  have f77 : ∀ (z : SS) (x : Int32), Fr wR v0 q z → Fr wR v0 q (sI z 77 (61 + m) x) := fun z x f => Fr_sI f (by unfold wR; rw [bN (a := 61) (b := 61 + m) (by omega)]; simp)
  have fF : ∀ (z : SS) (x y : Int32), Fr wR v0 q z → Fr wR v0 q (sI (sI z 78 (61 + m) x) 76 1 y) := fun z x y f => Fr_sI (Fr_sI f (by unfold wR; rw [bN (a := 61) (b := 61 + m) (by omega)]; simp)) rfl
  have nn : ∀ a : Int32, 0 ≤ a.toInt → a.toInt < 32768 → (a.toInt16.toInt32).toInt16.toInt32 = a := fun a h0 h => by rw [n16 h0 h, n16 h0 h]
  unfold f_X12_line
  refine T_p (by decide) (T_nm ?_)
  rw [show (1 : Int32).toNatClampNeg = 1 from rfl]
  refine T_vp (by omega) (by omega) (T_nm ?_)
  rw [ev, nn _ e4 (by omega)]
  have en2 : EN (sI q 77 (61 + m) (q.1 60 22)) := e
  refine T_b (m_either en2) (fun r3 g3 => ?_)
  have t3 : r3.1 60 18 = q.1 60 18 := by
    have a := SG_tp g3
    exact a
  have f3 : Fr wR v0 q r3 := Fr_tr (f77 q _ (Fr_refl q)) (Fr_SN g3.1)
  have h3 : (q.1 60 19).toInt ≤ (r3.1 60 19).toInt ∧ (r3.1 60 19).toInt ≤ (q.1 60 18).toInt := g3.2.1
  refine T_le (fun w => ?_) (fun w => ?_)
  · refine T_of (line66 hv (by omega)) ⟨fF _ _ _ f3, t3, h3, Or.inl ?_⟩
    show 0 ≤ (r3.1 60 20).toInt
    omega
  have n3 := SG_no g3 (by omega)
  have d3 := SG_nw g3 n3
  have lt3 : (q.1 60 22).toInt < (r3.1 60 22).toInt := by
    have a := sg_lt g3 n3
    exact a
  have b3 : (r3.1 60 22).toInt + 0 ≤ (q.1 60 22).toInt + ((r3.1 60 19).toInt - (q.1 60 19).toInt) := d3.2.1
  have r76 : r3.1 76 = q.1 76 := by
    have a := Fr_r g3.1 (k := 76) (fun _ => rfl)
    exact a
  have r78 : r3.1 78 = q.1 78 := by
    have a := Fr_r g3.1 (k := 78) (fun _ => rfl)
    exact a
  have r77 : r3.1 77 = (sI q 77 (61 + m) (q.1 60 22)).1 77 := by
    have a := Fr_r g3.1 (k := 77) (fun _ => rfl)
    exact a
  have c3 : ∀ k : Nat, (k : Int) < 130 + (q.1 60 22).toInt → r3.1 74 k = q.1 74 k ∧ r3.1 75 k = q.1 75 k := g3.2.2.2.1
  have v3 : ∀ k : Nat, 130 + (q.1 60 22).toInt ≤ (k : Int) → (k : Int) < 130 + (r3.1 60 22).toInt → (r3.1 74 k).toInt8.toInt32 = r3.1 74 k := g3.2.2.2.2.1
  have s3 : sgU r3 (q.1 60 22).toInt (r3.1 60 22).toInt := d3.2.2
  have e3' : EN r3 := SG_EN en2 g3 n3 (by decide) (by exact ⟨e7, e8⟩)
  have t77 : r3.1 77 (61 + m) = q.1 60 22 := by rw [r77, sI_rd, if_pos ⟨rfl, rfl⟩]
  have l77 : ∀ l : Nat, l < m → r3.1 77 (61 + l) = q.1 77 (61 + l) := fun l hl => by rw [r77, sI_rd, if_neg (fun h => by have := h.2; omega)]
  have fin3 : T (b_X12_line_66 r3 ((61 : Int32) + q.1 76 1)) (fun z => LNP q z m) := by
    refine T_of (line66 hv (by omega)) ⟨fF _ _ _ f3, t3, h3, Or.inr ?_⟩
    exact line_fin L hm e3' r76 r78 l77 c3 v3 (by omega) e4 (by rw [t77]; omega) (by rw [t77]; omega) (by rw [t77]; exact s3) (fun h => absurd (by rw [t77]) h) (nn _ (by omega) (by omega))
  obtain ⟨v, hv3, hl3⟩ := mk_look r3 e3'.1 e3'.2.2.1
  refine T_rw hv3 (T_eq (fun ev3 => T_nm ?_) (fun _ => fin3))
  have lt : (r3.1 60 19).toInt < (r3.1 60 18).toInt := hl3 (by rw [ev3]; decide)
  have g7 := SG_hr en2 g3 n3 lt
  have e7' : EN (sI r3 60 19 (r3.1 60 19 + 1)) := SG_EN en2 g7 n3 (by decide) (by exact ⟨e7, e8⟩)
  refine T_vp (by omega) (by omega) (T_nm ?_)
  show T ((f_X12_either (sI (sI r3 60 19 (r3.1 60 19 + 1)) 77 (61 + m) (((r3.1 60 22).toInt16.toInt32).toInt16.toInt32))).bind _) _
  rw [nn _ (by omega) (by omega)]
  have e8' : EN (sI (sI r3 60 19 (r3.1 60 19 + 1)) 77 (61 + m) (r3.1 60 22)) := e7'
  refine T_b (m_either e8') (fun r9 g9 => ?_)
  have t9 : r9.1 60 18 = q.1 60 18 := by
    have a := SG_tp g9
    have b : r9.1 60 18 = r3.1 60 18 := a
    exact b.trans t3
  have f9 : Fr wR v0 q r9 := Fr_tr (f77 _ _ (Fr_sI f3 rfl)) (Fr_SN g9.1)
  have i3 : (r3.1 60 19 + 1).toInt = (r3.1 60 19).toInt + 1 := inc1 (by omega) (by omega)
  have h9 : (r3.1 60 19 + 1).toInt ≤ (r9.1 60 19).toInt ∧ (r9.1 60 19).toInt ≤ (r3.1 60 18).toInt := g9.2.1
  have t3' : (r3.1 60 18).toInt = (q.1 60 18).toInt := congrArg Int32.toInt t3
  refine T_of (line66 hv (by omega)) ⟨fF _ _ _ f9, t9, ?_, ?_⟩
  · show (q.1 60 19).toInt ≤ (r9.1 60 19).toInt ∧ (r9.1 60 19).toInt ≤ (q.1 60 18).toInt
    omega
  by_cases w9 : 0 ≤ (r9.1 60 20).toInt
  · exact Or.inl w9
  refine Or.inr ?_
  have n9 := SG_no g9 (by omega)
  have d9 := SG_nw g9 n9
  have lt9 : (r3.1 60 22).toInt < (r9.1 60 22).toInt := by
    have a := sg_lt g9 n9
    exact a
  have b9 : (r9.1 60 22).toInt + 0 ≤ (r3.1 60 22).toInt + ((r9.1 60 19).toInt - (r3.1 60 19 + 1).toInt) := d9.2.1
  have q76 : r9.1 76 = r3.1 76 := by
    have a := Fr_r g9.1 (k := 76) (fun _ => rfl)
    exact a
  have q78 : r9.1 78 = r3.1 78 := by
    have a := Fr_r g9.1 (k := 78) (fun _ => rfl)
    exact a
  have q77 : r9.1 77 = (sI (sI r3 60 19 (r3.1 60 19 + 1)) 77 (61 + m) (r3.1 60 22)).1 77 := by
    have a := Fr_r g9.1 (k := 77) (fun _ => rfl)
    exact a
  have c9 : ∀ k : Nat, (k : Int) < 130 + (r3.1 60 22).toInt → r9.1 74 k = r3.1 74 k ∧ r9.1 75 k = r3.1 75 k := g9.2.2.2.1
  have v9 : ∀ k : Nat, 130 + (r3.1 60 22).toInt ≤ (k : Int) → (k : Int) < 130 + (r9.1 60 22).toInt → (r9.1 74 k).toInt8.toInt32 = r9.1 74 k := g9.2.2.2.2.1
  have s9 : sgU r9 (r3.1 60 22).toInt (r9.1 60 22).toInt := d9.2.2
  have e9' : EN r9 := SG_EN e8' g9 n9 (by decide) (by exact ⟨e3'.2.2.2.2.2.2.1, e3'.2.2.2.2.2.2.2⟩)
  have u77 : r9.1 77 (61 + m) = r3.1 60 22 := by rw [q77, sI_rd, if_pos ⟨rfl, rfl⟩]
  have k77 : ∀ l : Nat, l < m → r9.1 77 (61 + l) = q.1 77 (61 + l) := fun l hl => by
    rw [q77, sI_rd, if_neg (fun h => by have := h.2; omega)]
    exact l77 l hl
  exact line_fin L hm e9' (q76.trans r76) (q78.trans r78) k77 (fun k hk => ⟨(c9 k (by omega)).1.trans (c3 k hk).1, (c9 k (by omega)).2.trans (c3 k hk).2⟩) (fun k h1 h2 => by
    by_cases c : (k : Int) < 130 + (r3.1 60 22).toInt
    · rw [(c9 k c).1]
      exact v3 k h1 c
    · exact v9 k (by omega) h2) (by omega) e4 (by rw [u77]; omega) (by rw [u77]; omega) (by rw [u77]; exact s9) (fun _ => by rw [u77]; exact sgU_c e4 (Int.le_refl _) c9 s3) (nn _ (by omega) (by omega))
/-! ===== the model's law: taken over, or refused ===== -/
theorem dp_s {A W A' W' : Nat → Int32} (c : Nat) : ∀ (n i d : Nat), (∀ k, i ≤ k → k < i + n → A' k = A (c + k) ∧ W' k = W (c + k)) → dp A' W' n i d = dp A W n (c + i) d
  | 0, _, _, _ => rfl
  | n + 1, i, d, h => by
    have e := h i (by omega) (by omega)
    show (stepd (A' i) (W' i) d).bind (fun d' => dp A' W' n (i + 1) d') = (stepd (A (c + i)) (W (c + i)) d).bind (fun d' => dp A W n (c + i + 1) d')
    rw [e.1, e.2]
    exact congrArg _ (funext fun d' => dp_s c n (i + 1) d' (fun k hk hl => h k (by omega) (by omega)))
def WL (z : SS) : Prop := (0 ≤ (z.1 76 0).toInt ∧ (z.1 76 0).toInt ≤ 61) ∧ ∀ l : Nat, (l : Int) < (z.1 76 0).toInt → okLine (z.1 74) (z.1 75) (if l = 0 then 0 else (z.1 78 (l - 1)).toInt) (z.1 77 l).toInt (z.1 78 l).toInt
theorem WL_of {y z : SS} {m : Nat} (L : LN y m) (h130 : (y.1 60 22).toInt ≤ 130) (hm : m ≤ 61) (e76 : (z.1 76 0).toInt = (m : Int)) (e77 : ∀ l : Nat, l < m → z.1 77 l = y.1 77 (61 + l)) (e78 : ∀ l : Nat, l < m → z.1 78 l = y.1 78 (61 + l)) (ec : ∀ k : Nat, (k : Int) < (y.1 60 22).toInt → z.1 74 k = y.1 74 (130 + k) ∧ z.1 75 k = y.1 75 (130 + k)) : WL z := by
  refine ⟨by omega, fun l hl => ?_⟩
  rw [e76] at hl
  obtain ⟨h1, h2, h3, h4, h5, h6⟩ := L.2.2.2 l (by omega)
  have st : (if l = 0 then (0 : Int) else (z.1 78 (l - 1)).toInt) = stU y l := by
    unfold stU
    by_cases c : l = 0
    · rw [if_pos c, if_pos c]
    · rw [if_neg c, if_neg c, e78 (l - 1) (by omega)]
  have sg : ∀ i j : Int, 0 ≤ i → j ≤ (y.1 60 22).toInt → sgU y i j → okSeg (z.1 74) (z.1 75) i j := fun i j hi hj s => by
    unfold sgU at s
    unfold okSeg
    rw [dp_s 130 _ _ _ (fun k k1 k2 => ec k (by omega))]
    have e : 130 + i.toNat = (130 + i).toNat := by omega
    rw [e]
    exact s
  rw [st, e77 l (by omega), e78 l (by omega)]
  exact ⟨h1, h2, h3, by omega, sg _ _ (by omega) h4 h5, fun n => sg _ _ h1 (by omega) (h6 n)⟩
def w7 (k _ : Nat) : Bool := k == 77 || k == 78
theorem m_177 {y z : SS} {m : Nat} (L : LN y m) (h121 : (y.1 60 22).toInt ≤ 121) (hm : m ≤ 60) (e76 : (z.1 76 0).toInt = (m : Int)) (e77 : z.1 77 = y.1 77) (e78 : z.1 78 = y.1 78) : T (b_X12_readText_177 z 0 0) (fun r => r.1 = -1 ∧ Fr w7 v0 z r.2 ∧ (∀ l : Nat, l < m → r.2.1 77 l = y.1 77 (61 + l)) ∧ (∀ l : Nat, l < m → r.2.1 78 l = y.1 78 (61 + l))) := by
  have l61 : (61 : Int32).toInt = 61 := rfl
  have z0 : (0 : Int32).toNatClampNeg = 0 := rfl
  unfold b_X12_readText_177
  refine T_fx3 (fun w l1 l2 => l1 = 0 ∧ 0 ≤ l2.toInt ∧ l2.toInt ≤ (m : Int) ∧ Fr w7 v0 z w ∧ (∀ k : Nat, 61 ≤ k → w.1 77 k = y.1 77 k ∧ w.1 78 k = y.1 78 k) ∧ (∀ l : Nat, (l : Int) < l2.toInt → w.1 77 l = y.1 77 (61 + l) ∧ w.1 78 l = y.1 78 (61 + l))) (fun _ _ l2 => ((m : Int) - l2.toInt).toNat) ?_ _ _ _ _ ⟨rfl, by decide, by show (0 : Int) ≤ (m : Int); omega, Fr_refl z, fun k _ => ⟨by rw [e77], by rw [e78]⟩, fun l hl => absurd hl (by show ¬ ((l : Int) < 0); omega)⟩ (by have : (0 : Int32).toInt = 0 := rfl; unfold FU; omega)
  rintro rec w l1 l2 ⟨rfl, h0, h1, hf, hu, hl⟩ hr
  have w76 : w.1 76 0 = z.1 76 0 := hf.1 76 0 rfl
  refine T_p (by decide) ?_
  rw [z0, w76]
  refine T_le (fun le => T_some.mpr ⟨rfl, hf, fun l h => (hl l (by omega)).1, fun l h => (hl l (by omega)).2⟩) (fun lt => ?_)
  have i61 : ((61 : Int32) + l2).toInt = 61 + l2.toInt := by rw [tadd (by omega) (by omega), l61]
  have n61 : ((61 : Int32) + l2).toNatClampNeg = 61 + l2.toInt.toNat := by
    show ((61 : Int32) + l2).toInt.toNat = _
    omega
  have n0 : l2.toNatClampNeg = l2.toInt.toNat := rfl
  rw [Int32.mul_zero, Int32.zero_add]
  obtain ⟨q1, q2, q3, q4, _, _⟩ := L.2.2.2 l2.toInt.toNat (by omega)
  have u := hu (61 + l2.toInt.toNat) (by omega)
  have x77 : (w.1 77 (61 + l2.toInt.toNat)).toInt16.toInt32 = y.1 77 (61 + l2.toInt.toNat) := by rw [u.1, n16 (by omega) (by omega)]
  have x78 : (w.1 78 (61 + l2.toInt.toNat)).toInt16.toInt32 = y.1 78 (61 + l2.toInt.toNat) := by rw [u.2, n16 (by omega) (by omega)]
  refine T_vp (by omega) (by omega) (T_vp (by omega) (by omega) (T_nm (T_vp (by omega) (by omega) (T_vp (by omega) (by omega) (T_nm ?_)))))
  rw [n61, n0, x77]
  have s78 : (sI w 77 l2.toInt.toNat (y.1 77 (61 + l2.toInt.toNat))).1 78 = w.1 78 := sI_ro (by decide)
  rw [s78, x78]
  have i := inc1 (a := l2) (by omega) (by omega)
  refine hr _ _ _ ⟨rfl, by omega, by omega, Fr_sI (Fr_sI hf rfl) rfl, fun k hk => ?_, fun l h => ?_⟩ (by omega)
  · rw [sI_ro (by decide), sI_rd, if_neg (fun c => by have := c.2; omega), sI_rd, if_neg (fun c => by have := c.2; omega), s78]
    exact hu k hk
  · rw [sI_ro (by decide), sI_rd, sI_rd, s78]
    by_cases c : l = l2.toInt.toNat
    · rw [if_pos ⟨rfl, c⟩, if_pos ⟨rfl, c⟩, c]
      exact ⟨rfl, rfl⟩
    · rw [if_neg (fun h => c h.2), if_neg (fun h => c h.2)]
      exact hl l (by omega)
def w6 (k i : Nat) : Bool := k == 74 || k == 75 || k == 77 || k == 78 || (k == 76 && i == 0)
theorem m_105 {y : SS} {m : Nat} (L : LN y m) (h0 : 0 ≤ (y.1 60 22).toInt) (h121 : (y.1 60 22).toInt ≤ 121) (hm : m ≤ 60) : T (b_X12_readText_105 y 0 0) (fun r => r.1 = -1 ∧ Fr w6 v0 y r.2 ∧ WL r.2) := by
  have l130 : (130 : Int32).toInt = 130 := rfl
  have z0 : (0 : Int32).toNatClampNeg = 0 := rfl
  have z1 : (1 : Int32).toNatClampNeg = 1 := rfl
  unfold b_X12_readText_105
  refine T_fx3 (fun w l1 l2 => l1 = 0 ∧ 0 ≤ l2.toInt ∧ l2.toInt ≤ (y.1 60 22).toInt ∧ Fr (fun k _ => k == 74 || k == 75) v0 y w ∧ (∀ k : Nat, 130 ≤ k → w.1 74 k = y.1 74 k ∧ w.1 75 k = y.1 75 k) ∧ (∀ k : Nat, (k : Int) < l2.toInt → w.1 74 k = y.1 74 (130 + k) ∧ w.1 75 k = y.1 75 (130 + k))) (fun _ _ l2 => ((y.1 60 22).toInt - l2.toInt).toNat) ?_ _ _ _ _ ⟨rfl, by decide, h0, Fr_refl y, fun k _ => ⟨rfl, rfl⟩, fun l hl => absurd hl (by show ¬ ((l : Int) < 0); omega)⟩ (by have : (0 : Int32).toInt = 0 := rfl; unfold FU; omega)
  rintro rec w l1 l2 ⟨rfl, h1, h2, hf, hu, hl⟩ hr
  have w22 : w.1 60 22 = y.1 60 22 := hf.1 60 22 rfl
  rw [w22]
  refine T_le (fun le => T_p (by decide) (T_p (by decide) (T_nm ?_))) (fun lt => ?_)
  · have w76 : w.1 76 1 = y.1 76 1 := hf.1 76 1 rfl
    rw [z0, z1, w76]
    have f8 : Fr w6 v0 y (sI w 76 0 (y.1 76 1)) := Fr_sI (Fr_le hf (fun k i e => by
      unfold w6 at e
      simp only [Bool.or_eq_false_iff] at e
      show (k == 74 || k == 75) = false
      rw [e.1.1.1.1, e.1.1.1.2]
      rfl) (fun _ h => h)) rfl
    have a76 : ((sI w 76 0 (y.1 76 1)).1 76 0).toInt = (m : Int) := L.1
    refine T_mono (m_177 (z := sI w 76 0 (y.1 76 1)) L h121 hm a76 ((sI_ro (by decide)).trans (Fr_r hf fun _ => rfl)) ((sI_ro (by decide)).trans (Fr_r hf fun _ => rfl))) (fun r hr7 => ?_)
    obtain ⟨r1, r2, r3, r4⟩ := hr7
    have f9 : Fr w6 v0 (sI w 76 0 (y.1 76 1)) r.2 := Fr_le r2 (fun k i e => by
      unfold w6 at e
      simp only [Bool.or_eq_false_iff] at e
      show (k == 77 || k == 78) = false
      rw [e.1.1.2, e.1.2]
      rfl) (fun _ h => h)
    refine ⟨r1, Fr_tr f8 f9, WL_of L (by omega) (by omega) ?_ r3 r4 (fun k hk => ?_)⟩
    · rw [r2.1 76 0 rfl]
      exact a76
    · rw [Fr_r r2 (k := 74) (fun _ => rfl), Fr_r r2 (k := 75) (fun _ => rfl), sI_ro (by decide), sI_ro (by decide)]
      exact hl k (by omega)
  · have i130 : ((130 : Int32) + l2).toInt = 130 + l2.toInt := by rw [tadd (by omega) (by omega), l130]
    have n130 : ((130 : Int32) + l2).toNatClampNeg = 130 + l2.toInt.toNat := by
      show ((130 : Int32) + l2).toInt.toNat = _
      omega
    have n0 : l2.toNatClampNeg = l2.toInt.toNat := rfl
    rw [Int32.mul_zero, Int32.zero_add]
    have u := hu (130 + l2.toInt.toNat) (by omega)
    have x74 : (w.1 74 (130 + l2.toInt.toNat)).toInt8.toInt32 = y.1 74 (130 + l2.toInt.toNat) := by rw [u.1, L.2.2.1 _ (by omega) (by omega)]
    refine T_vp (by omega) (by omega) (T_vp (by omega) (by omega) (T_nm (T_vp (by omega) (by omega) (T_vp (by omega) (by omega) (T_nm ?_)))))
    rw [n130, n0, x74]
    have s75 : (sI w 74 l2.toInt.toNat (y.1 74 (130 + l2.toInt.toNat))).1 75 = w.1 75 := sI_ro (by decide)
    rw [s75, u.2]
    have i := inc1 (a := l2) (by omega) (by omega)
    refine hr _ _ _ ⟨rfl, by omega, by omega, Fr_sI (Fr_sI hf rfl) rfl, fun k hk => ?_, fun l h => ?_⟩ (by omega)
    · rw [sI_ro (by decide), sI_rd, if_neg (fun c => by have := c.2; omega), sI_rd, if_neg (fun c => by have := c.2; omega), s75]
      exact hu k hk
    · rw [sI_ro (by decide), sI_rd, sI_rd, s75]
      by_cases c : l = l2.toInt.toNat
      · rw [if_pos ⟨rfl, c⟩, if_pos ⟨rfl, c⟩, c]
        exact ⟨rfl, rfl⟩
      · rw [if_neg (fun h => c h.2), if_neg (fun h => c h.2)]
        exact hl l (by omega)
def PT (q : SS) (r : Int32 × SS) : Prop := (0 ≤ r.1.toInt ∧ Fr wR v0 q r.2 ∧ r.2.1 60 18 = 0) ∨ (r.1 = -1 ∧ Fr wU v0 q r.2 ∧ r.2.1 60 18 = 0 ∧ WL r.2)
theorem m_86 {q z : SS} (f : Fr wR v0 q z) (c : 0 ≤ (z.1 60 20).toInt ∨ ∃ m : Nat, EN z ∧ LN z m ∧ 2 * (m : Int) ≤ (z.1 60 19).toInt + 1) : T (b_X12_readText_86 z 0) (PT q) := by
  have l0 : (0 : Int32).toInt = 0 := rfl
  have fq : Fr wR v0 q (sI z 60 18 0) := Fr_sI f rfl
  unfold b_X12_readText_86
  refine T_nm ?_
  rcases c with w | ⟨m, e, L, hm⟩
  · exact T_ltn (by show (0 : Int32).toInt ≤ (z.1 60 20).toInt; omega) (T_some.mpr (Or.inl ⟨w, fq, rfl⟩))
  · obtain ⟨e1, e2, e3, e4, e5, e6, _, _⟩ := e
    refine T_p (by show z.1 60 20 < 0; rw [e6]; decide) (T_mono (m_105 (y := sI z 60 18 0) (m := m) L e4 (by show (z.1 60 22).toInt ≤ 121; omega) (by omega)) (fun r hr => Or.inr ⟨hr.1, Fr_tr (Fr_NT fq) (Fr_le hr.2.1 (fun k i e => ?_) (fun _ h => h)), hr.2.1.1 60 18 rfl, hr.2.2⟩))
    unfold wU at e
    simp only [Bool.or_eq_false_iff] at e
    obtain ⟨⟨⟨⟨⟨⟨a1, a2⟩, a3⟩, a4⟩, a5⟩, _⟩, _⟩ := e
    unfold w6
    simp [a1, a2, a3, a4, a5]
theorem m_readText {q : SS} (h0 : 0 ≤ (q.1 60 18).toInt) (h : (q.1 60 18).toInt ≤ 120) : T (f_X12_readText q 0) (PT q) := by
  have l0 : (0 : Int32).toInt = 0 := rfl
  have z1 : (1 : Int32).toNatClampNeg = 1 := rfl
  unfold f_X12_readText
  refine T_nm (T_nm (T_nm (T_nm (T_p (by decide) (T_nm ?_)))))
  rw [z1]
  have f0 : Fr wR v0 q (sI (sI (sI (sI (sI q 60 19 0) 60 20 (-1)) 60 21 0) 60 22 0) 76 1 0) := Fr_sI (Fr_sI (Fr_sI (Fr_sI (Fr_sI (Fr_refl q) rfl) rfl) rfl) rfl) rfl
  have e0 : EN (sI (sI (sI (sI (sI q 60 19 0) 60 20 (-1)) 60 21 0) 60 22 0) 76 1 0) := ⟨Int.le_refl 0, h0, h, Int.le_refl 0, Int.le_refl 0, rfl, Int.le_refl 0, (by decide : (0 : Int) ≤ 6)⟩
  have L0 : LN (sI (sI (sI (sI (sI q 60 19 0) 60 20 (-1)) 60 21 0) 60 22 0) 76 1 0) 0 := ⟨rfl, rfl, fun k k1 k2 => absurd k2 (by show ¬ ((k : Int) < 130 + 0); omega), fun l hl => absurd hl (by omega)⟩
  generalize (sI (sI (sI (sI (sI q 60 19 0) 60 20 (-1)) 60 21 0) 60 22 0) 76 1 0) = q5 at f0 e0 L0 ⊢
  refine T_b (m_line e0 L0 (by have := e0.1; omega)) (fun r6 h6 => ?_)
  unfold b_X12_readText_31
  have b6 : (r6.1 60 18).toInt = (q5.1 60 18).toInt := congrArg Int32.toInt h6.2.1
  refine T_fx2 (fun y l1 => l1 = 0 ∧ Fr wR v0 q y ∧ 0 ≤ (y.1 60 19).toInt ∧ (y.1 60 19).toInt ≤ (y.1 60 18).toInt ∧ (y.1 60 18).toInt ≤ 120 ∧ (0 ≤ (y.1 60 20).toInt ∨ ∃ m : Nat, EN y ∧ LN y m ∧ 2 * (m : Int) ≤ (y.1 60 19).toInt + 1)) (fun y _ => (120 - (y.1 60 19).toInt).toNat) ?_ _ _ _ ⟨rfl, Fr_tr f0 h6.1, by have := e0.1; have := h6.2.2.1; omega, by have := h6.2.2.1; omega, by have := e0.2.2.1; omega, ?_⟩ (by unfold FU; have := e0.1; have := h6.2.2.1; omega)
  · rintro rec y l1 ⟨rfl, f, b0, b1, b2, c⟩ hr
    have t64 : T (b_X12_readText_64 y 0) (PT q) := by
      unfold b_X12_readText_64
      refine T_le (fun _ => m_86 f c) (fun w => T_le (fun _ => m_86 f c) (fun _ => T_b (Q := fun r => Fr wR v0 q r ∧ 0 ≤ (r.1 60 20).toInt) ?_ (fun r hr => m_86 hr.1 (Or.inl hr.2))))
      unfold f_X12_wrong
      exact T_le (fun g => T_some.mpr ⟨f, g⟩) (fun _ => T_nm (T_some.mpr ⟨Fr_sI f rfl, b0⟩))
    refine T_le (fun _ => t64) (fun w => ?_)
    obtain ⟨v, hv, hl⟩ := mk_look y b0 b2
    refine T_rw hv (T_eq (fun ev => T_nm ?_) (fun _ => t64))
    have lt := hl (by rw [ev]; decide)
    rcases c with w' | ⟨m, e, L, hm⟩
    · exact absurd w' (by omega)
    have i := inc1 (a := y.1 60 19) (by omega) (by omega)
    have e20 : EN (sI y 60 19 (y.1 60 19 + 1)) := ⟨by show 0 ≤ (y.1 60 19 + 1).toInt; omega, by show (y.1 60 19 + 1).toInt ≤ (y.1 60 18).toInt; omega, b2, e.2.2.2.1, by show (y.1 60 22).toInt ≤ (y.1 60 19 + 1).toInt; have := e.2.2.2.2.1; omega, e.2.2.2.2.2⟩
    have L20 : LN (sI y 60 19 (y.1 60 19 + 1)) m := L
    refine T_b (m_line e20 L20 (by show 2 * (m : Int) ≤ (y.1 60 19 + 1).toInt; omega)) (fun r21 h21 => ?_)
    obtain ⟨p1, p2, p3, p4⟩ := h21
    have p2' : (r21.1 60 18).toInt = (y.1 60 18).toInt := congrArg Int32.toInt p2
    have p3' : (y.1 60 19 + 1).toInt ≤ (r21.1 60 19).toInt ∧ (r21.1 60 19).toInt ≤ (y.1 60 18).toInt := p3
    exact hr r21 0 ⟨rfl, Fr_tr (Fr_sI f rfl) p1, by omega, by omega, by omega, p4.imp id (fun p => ⟨m + 1, p⟩)⟩ (by omega)
  · exact h6.2.2.2.imp id (fun p => ⟨0 + 1, p⟩)
theorem mo_law {y : SS} (h : INV y) : T (f_X12_law (sI y 17 2 0)) (fun s => INV s.2) := by
  have l0 : (0 : Int32).toInt = 0 := rfl
  have hT := INV_RT h
  have fy : Fr wN v0 y (sI y 17 2 0) := Fr_sI (Fr_refl y) rfl
  unfold f_X12_law
  refine T_b (m_readText (q := sI y 17 2 0) (by have a := RT_l0 hT; exact a) (by have a := RT_l120 hT; exact a)) (fun r hr => ?_)
  rcases hr with ⟨a, b, c⟩ | ⟨a, b, c, d⟩
  · exact T_ltn (by omega) (T_some.mpr (INV_wN (Fr_tr fy (Fr_le b (fun k i e => by unfold wN at e; simp only [Bool.or_eq_false_iff] at e; exact e.1) (fun _ h => h))) h (b.1 17 2 rfl) c))
  · refine T_p (by rw [a]; decide) (T_nm (T_some.mpr ?_))
    have f2 : Fr wT v0 y r.2 := Fr_tr (Fr_sI (Fr_refl y) rfl) (Fr_le b (fun k i e => by unfold wT at e; simp only [Bool.or_eq_false_iff] at e; exact e.1) (fun _ h => h))
    have f3 : Fr wT v0 y (sI r.2 60 30 1) := Fr_sI f2 rfl
    have w : RW (sI r.2 60 30 1) := ⟨Or.inr rfl, fun _ => d.1, fun _ => d.2⟩
    exact INV_wT f3 h (b.1 17 2 rfl) c w

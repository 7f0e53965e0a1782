/-! ===== the class's law: it answers, and what it writes ===== -/
def wL (k i : Nat) : Bool := k == 19 || k == 20 || k == 21 || k == 12 || k == 13 || k == 14 || (k == 17 && i == 3)
theorem RY_wL {q q' : SS} (f : Fr wL v0 q q') (h : RY q) : RY q' := RY_fr (Fr_r f fun _ => rfl) (Fr_r f fun _ => rfl) (Fr_r f fun _ => rfl) (Fr_r f fun _ => rfl) (Fr_r f fun _ => rfl) (Fr_r f fun _ => rfl) (Fr_r f fun _ => rfl) (Fr_r f fun _ => rfl) (Fr_r f fun _ => rfl) (Fr_r f fun _ => rfl) (Fr_r f fun _ => rfl) (Fr_r f fun _ => rfl) (Fr_r f fun _ => rfl) (Fr_r f fun _ => rfl) (f.1 _ _ rfl) (f.1 _ _ rfl) (f.1 _ _ rfl) (f.1 _ _ rfl) (f.1 _ _ rfl) (f.1 _ _ rfl) (f.1 _ _ rfl) (f.1 _ _ rfl) h
theorem RC_wL {q q' : SS} (f : Fr wL v0 q q') (h : RC q) : RC q' := RC_fr (Fr_r f fun _ => rfl) (Fr_r f fun _ => rfl) (Fr_r f fun _ => rfl) (Fr_r f fun _ => rfl) (Fr_r f fun _ => rfl) (Fr_r f fun _ => rfl) (Fr_r f fun _ => rfl) (Fr_r f fun _ => rfl) (f.1 _ _ rfl) (f.1 _ _ rfl) (f.1 _ _ rfl) (f.1 _ _ rfl) (f.1 _ _ rfl) (f.1 _ _ rfl) h
theorem RD_wL {q q' : SS} (f : Fr wL v0 q q') (h : RD q) : RD q' := RD_fr (Fr_r f fun _ => rfl) (Fr_r f fun _ => rfl) (Fr_r f fun _ => rfl) (Fr_r f fun _ => rfl) (Fr_r f fun _ => rfl) (Fr_r f fun _ => rfl) (Fr_r f fun _ => rfl) (Fr_r f fun _ => rfl) (f.1 _ _ rfl) (f.1 _ _ rfl) (f.1 _ _ rfl) (f.1 _ _ rfl) (f.1 _ _ rfl) (f.1 _ _ rfl) (f.1 _ _ rfl) (f.1 _ _ rfl) h
theorem RT_wL {q q' : SS} (f : Fr wL v0 q q') (h : RT q) : RT q' := RT_fr (Fr_r f fun _ => rfl) (Fr_r f fun _ => rfl) (f.1 _ _ rfl) (f.1 _ _ rfl) h
theorem RH_wL {q q' : SS} (f : Fr wL v0 q q') (h : RH q) : RH q' := RH_fr (Fr_r f fun _ => rfl) (Fr_r f fun _ => rfl) (Fr_r f fun _ => rfl) (Fr_r f fun _ => rfl) (f.1 _ _ rfl) (f.1 _ _ rfl) (f.1 _ _ rfl) (f.1 _ _ rfl) h
theorem RS_wL {q q' : SS} (f : Fr wL v0 q q') (h : RS q) : RS q' := RS_fr (Fr_r f fun _ => rfl) (Fr_r f fun _ => rfl) (Fr_r f fun _ => rfl) (Fr_r f fun _ => rfl) (Fr_r f fun _ => rfl) (f.1 _ _ rfl) (f.2 _ rfl) (fun s hs => f.2 _ (by rcases s6 hs with rfl | rfl | rfl | rfl | rfl | rfl <;> rfl)) h
theorem RW_wL {q q' : SS} (f : Fr wL v0 q q') (h : RW q) : RW q' := RW_fr (Fr_r f fun _ => rfl) (Fr_r f fun _ => rfl) (Fr_r f fun _ => rfl) (Fr_r f fun _ => rfl) (f.1 _ _ rfl) (f.1 _ _ rfl) h
theorem RJ_wL {q q' : SS} (f : Fr wL v0 q q') (h : RJ q) : RJ q' := RJ_fr (Fr_r f fun _ => rfl) (f.1 _ _ rfl) h
theorem INV_wL {q q' : SS} (f : Fr wL v0 q q') (h : INV q) : INV q' := ⟨RY_wL f h.1, RC_wL f h.2.1, RD_wL f h.2.2.1, RT_wL f h.2.2.2.1, RH_wL f h.2.2.2.2.1, RS_wL f h.2.2.2.2.2.1, RW_wL f h.2.2.2.2.2.2.1, RJ_wL f h.2.2.2.2.2.2.2⟩
/-- the class reads its law: the frame, and the draft's length -/
def XL (q z : SS) : Prop := Fr wL v0 q z ∧ 0 ≤ (z.1 19 4).toInt ∧ (z.1 19 4).toInt ≤ 121
theorem XL_s {q z : SS} (h : XL q z) {x : Int32} : XL q (sI z 17 3 x) := ⟨Fr_sI h.1 rfl, h.2⟩
theorem x_next (z : SS) : T (f_X5_next z) (fun _ => True) := by
  have l120 : (120 : Int32).toInt = 120 := rfl
  have l0 : (0 : Int32).toInt = 0 := rfl
  unfold f_X5_next
  exact T_lt (fun _ => T_some.mpr trivial) (fun a => T_i (fun _ => T_some.mpr trivial) (fun _ => T_le (fun _ => T_some.mpr trivial) (fun b => T_vp (by omega) (by show (z.1 17 3).toInt < 120; omega) (T_some.mpr trivial))))
theorem x_isDigit (z : SS) (a : Int32) : T (f_X5_isDigit z a) (fun _ => True) := by
  unfold f_X5_isDigit
  exact T_i (fun _ => T_some.mpr trivial) (fun _ => T_i (fun _ => T_some.mpr trivial) (fun _ => T_some.mpr trivial))
theorem x_nameOf (z : SS) (a : Int32) : T (f_X5_nameOf z a) (fun _ => True) := by
  unfold f_X5_nameOf
  repeat (refine T_sw (fun _ => T_some.mpr trivial) (fun _ => ?_))
  exact T_sw0 (T_some.mpr trivial)
theorem x_levelOf (z : SS) (a : Int32) : T (f_X5_levelOf z a) (fun _ => True) := by
  unfold f_X5_levelOf
  repeat (refine T_sw (fun _ => T_some.mpr trivial) (fun _ => ?_))
  exact T_sw0 (T_some.mpr trivial)
theorem x_addStep {q z : SS} (h : XL q z) (a b : Int32) : T (f_X4_addStep z a b) (fun r => XL q r) := by
  have l121 : (121 : Int32).toInt = 121 := rfl
  unfold f_X4_addStep
  refine T_le (fun _ => T_some.mpr h) (fun g => T_vp h.2.1 (by show (z.1 19 4).toInt < 121; omega) (T_nm (T_vp h.2.1 (by show (z.1 19 4).toInt < 121; omega) (T_nm (T_nm (T_some.mpr ⟨Fr_sI (Fr_sI (Fr_sI h.1 rfl) rfl) rfl, ?_⟩))))))
  have e := inc1 (a := z.1 19 4) (by have := h.2.1; omega) (by omega)
  have ee : ((sI (sI (sI z 20 (z.1 19 4).toNatClampNeg a) 21 ((sI z 20 (z.1 19 4).toNatClampNeg a).1 19 4).toNatClampNeg b) 19 4 ((sI (sI z 20 (z.1 19 4).toNatClampNeg a) 21 ((sI z 20 (z.1 19 4).toNatClampNeg a).1 19 4).toNatClampNeg b).1 19 4 + 1)).1 19 4) = z.1 19 4 + 1 := by simp [sI_rd]
  have h0 := h.2.1
  rw [ee, e]
  omega
theorem x_number {q z : SS} (h : XL q z) : T (f_X5_readNumber z) (fun r => XL q r) := by
  have l4 : (4 : Int32).toInt = 4 := rfl
  unfold f_X5_readNumber b_X5_readNumber_4 b_X5_readNumber_48
  refine T_fx3 (fun y _ l2 => XL q y ∧ 0 ≤ l2.toInt ∧ l2.toInt ≤ 4) (fun _ _ l2 => (4 - l2.toInt).toNat) ?_ _ _ _ _ ⟨h, by decide, by decide⟩ (by unfold FU; decide)
  rintro rec y l1 l2 ⟨hy, b0, b1⟩ hr
  have fin : T ((f_X4_addStep y 48 l1).bind fun r1 => some r1) (fun r => XL q r) := T_b (x_addStep hy 48 l1) (fun r hr => T_some.mpr hr)
  refine T_le (fun _ => fin) (fun g => T_b (x_next y) (fun r2 _ => T_b (x_isDigit y r2) (fun r3 _ => T_i (fun _ => fin) (fun _ => T_b (x_next y) (fun r4 _ => T_nm (T_nm ?_))))))
  have e := inc1 (a := l2) (by omega) (by omega)
  exact hr _ _ _ ⟨XL_s hy, by omega, by omega⟩ (by omega)

theorem op_0 {q : SS} (hX : FX q) (hM : FM q) (hI : FXI q) (hJ : FMI q) (a1 : Int32) : T (f_X11_person q a1) (fun r => T (f_X12_person r.2 a1) (fun s => r.1 = s.1)) := by
  unfold FX at hX
  unfold FM at hM
  unfold FXI at hI
  unfold FMI at hJ
  simp +contextual [f_X11_person, f_X10_mayBe, f_X10_isPerson, f_X10_addPerson, f_X10_set, f_X10_hasNumber, b_X10_hasNumber_49, f_X12_person, f_X12_in, hX, hM, hI, hJ, T_bind, T_chk, T_ite, T_some, T_none, nm_eq, sI, sL, up2, sw, Int32.lt_iff_toInt_lt, Int32.le_iff_toInt_le, fx1_s, fx2_s, fx3_s, fx4_s, fx5_s, fx6_s, fx7_s, stv3_0, stv3_1, stv3_2, stv3_3, stv3_4, stv3_5, stv3_6, stv3_7, stv3_8]
  done
theorem op_3 {q : SS} (hX : FX q) (hM : FM q) (hI : FXI q) (hJ : FMI q) (a1 : Int32) (a2 : Int32) (a3 : Int32) : T (f_X11_mend q a1 a2 a3) (fun r => T (f_X12_mend r.2 a1 a2 a3) (fun s => r.1 = s.1)) := by
  unfold FX at hX
  unfold FM at hM
  unfold FXI at hI
  unfold FMI at hJ
  simp +contextual [f_X11_mend, f_X10_hasNumber, b_X10_hasNumber_49, f_X10_mayBe, f_X10_isPerson, f_X10_get, f_X0_add, b_X0_add_13, f_X0_forgetOldest, f_X10_set, f_X12_mend, f_X12_isPlace, f_X12_in, f_X12_isTicket, f_X12_isOne, f_X12_mayHave, f_X12_changes, f_X12_valueAt, b_X12_changes_34, b_X12_changes_121, f_X12_lays, hX, hM, hI, hJ, T_bind, T_chk, T_ite, T_some, T_none, nm_eq, sI, sL, up2, sw, Int32.lt_iff_toInt_lt, Int32.le_iff_toInt_le, fx1_s, fx2_s, fx3_s, fx4_s, fx5_s, fx6_s, fx7_s, stv3_0, stv3_1, stv3_2, stv3_3, stv3_4, stv3_5, stv3_6, stv3_7, stv3_8]
  done
theorem op_4 {q : SS} (hX : FX q) (hM : FM q) (hI : FXI q) (hJ : FMI q) (a1 : Int32) (a2 : Int32) : T (f_X11_of q a1 a2) (fun r => T (f_X12_of r.2 a1 a2) (fun s => r.1 = s.1)) := by
  unfold FX at hX
  unfold FM at hM
  unfold FXI at hI
  unfold FMI at hJ
  simp +contextual [f_X11_of, b_X11_of_12, f_X10_isPerson, f_X11_now, f_X8_begin, b_X8_begin_2, f_X10_get, f_X10_hasNumber, b_X10_hasNumber_49, f_X8_heldBy, b_X8_heldBy_4, f_X10_tickets, f_X8_holderOf, f_X10_isTicket, b_X8_heldBy_30, f_X8_realsOf, b_X8_realsOf_4, f_X10_isReal, b_X8_realsOf_40, b_X8_realsOf_41, f_X12_of, f_X12_in, f_X12_isPlace, f_X12_isTicket, f_X12_isOne, f_X12_valueAt, f_X12_layNow, b_X12_layNow_2, f_X12_manyOf, b_X12_manyOf_4, b_X12_manyOf_25, f_X12_realOf, b_X12_realOf_4, b_X12_realOf_34, hX, hM, hI, hJ, T_bind, T_chk, T_ite, T_some, T_none, nm_eq, sI, sL, up2, sw, Int32.lt_iff_toInt_lt, Int32.le_iff_toInt_le, fx1_s, fx2_s, fx3_s, fx4_s, fx5_s, fx6_s, fx7_s, stv3_0, stv3_1, stv3_2, stv3_3, stv3_4, stv3_5, stv3_6, stv3_7, stv3_8]
  done
theorem i_vc : Claimed_1_1 ∧ Claimed_1_2 := sorry

theorem op_0 {q : SS} (hX : FX q) (hM : FM q) (hI : FXI q) (hJ : FMI q) (a1 : Int32) : T (f_X11_person q a1) (fun r => T (f_X12_person r.2 a1) (fun s => r.1 = s.1)) := by
  unfold FX at hX
  unfold FM at hM
  unfold FXI at hI
  unfold FMI at hJ
  first | (simp +contextual [f_X11_person, f_X10_mayBe, f_X10_isPerson, f_X10_addPerson, f_X10_set, f_X10_hasNumber, b_X10_hasNumber_49, f_X12_person, f_X12_in, hX, hM, hI, hJ, T_bind, T_chk, T_ite, T_some, T_none, nm_eq, sI, sL, up2, sw, Int32.lt_iff_toInt_lt, Int32.le_iff_toInt_le, fx1_s, fx2_s, fx3_s, fx4_s, fx5_s, fx6_s, fx7_s, stv3_0, stv3_1, stv3_2, stv3_3, stv3_4, stv3_5, stv3_6, stv3_7, stv3_8] <;> (try omega) <;> done) | exact failed_here
theorem op_1 {q : SS} (hX : FX q) (hM : FM q) (hI : FXI q) (hJ : FMI q) (a1 : Int32) (a2 : Int32) : T (f_X11_ticket q a1 a2) (fun r => T (f_X12_ticket r.2 a1 a2) (fun s => r.1 = s.1)) := by
  unfold FX at hX
  unfold FM at hM
  unfold FXI at hI
  unfold FMI at hJ
  first | (simp +contextual [f_X11_ticket, f_X10_mayBe, f_X10_isPerson, f_X10_addTicket, f_X10_set, f_X10_hasNumber, b_X10_hasNumber_49, f_X12_ticket, f_X12_areTicket, f_X12_isOne, f_X12_in, f_X12_addTicket, hX, hM, hI, hJ, T_bind, T_chk, T_ite, T_some, T_none, nm_eq, sI, sL, up2, sw, Int32.lt_iff_toInt_lt, Int32.le_iff_toInt_le, fx1_s, fx2_s, fx3_s, fx4_s, fx5_s, fx6_s, fx7_s, stv3_0, stv3_1, stv3_2, stv3_3, stv3_4, stv3_5, stv3_6, stv3_7, stv3_8] <;> (try omega) <;> done) | exact failed_here
theorem op_2 {q : SS} (hX : FX q) (hM : FM q) (hI : FXI q) (hJ : FMI q) (a1 : Int32) (a2 : Int32) (a3 : Int32) : T (f_X11_tickets q a1 a2 a3) (fun r => T (f_X12_tickets r.2 a1 a2 a3) (fun s => r.1 = s.1)) := by
  unfold FX at hX
  unfold FM at hM
  unfold FXI at hI
  unfold FMI at hJ
  first | (simp +contextual [f_X11_tickets, f_X7_isShelf, f_X7_refusalOfBytes, f_X7_refusalOfRow, f_X7_isEmpty, f_X7_isRow, f_X7_isSort, b_X11_tickets_63, f_X11_addFromRow, f_X7_sizeOf, f_X7_get, f_X7_hasPlaces, f_X10_mayBe, f_X10_isPerson, f_X10_addTicket, f_X10_set, f_X10_hasNumber, b_X10_hasNumber_49, f_X12_tickets, f_X12_isShelf, f_X12_in, b_X12_tickets_43, b_X12_tickets_58, f_X12_areTicket, f_X12_isOne, f_X12_addTicket, hX, hM, hI, hJ, T_bind, T_chk, T_ite, T_some, T_none, nm_eq, sI, sL, up2, sw, Int32.lt_iff_toInt_lt, Int32.le_iff_toInt_le, fx1_s, fx2_s, fx3_s, fx4_s, fx5_s, fx6_s, fx7_s, stv3_0, stv3_1, stv3_2, stv3_3, stv3_4, stv3_5, stv3_6, stv3_7, stv3_8] <;> (try omega) <;> done) | exact failed_here
theorem op_3 {q : SS} (hX : FX q) (hM : FM q) (hI : FXI q) (hJ : FMI q) (a1 : Int32) (a2 : Int32) (a3 : Int32) : T (f_X11_mend q a1 a2 a3) (fun r => T (f_X12_mend r.2 a1 a2 a3) (fun s => r.1 = s.1)) := by
  unfold FX at hX
  unfold FM at hM
  unfold FXI at hI
  unfold FMI at hJ
  first | (simp +contextual [f_X11_mend, f_X10_hasNumber, b_X10_hasNumber_49, f_X10_mayBe, f_X10_isPerson, f_X10_get, f_X0_add, b_X0_add_13, f_X0_forgetOldest, f_X10_set, f_X12_mend, f_X12_isPlace, f_X12_in, f_X12_isTicket, f_X12_isOne, f_X12_mayHave, f_X12_changes, f_X12_valueAt, b_X12_changes_34, b_X12_changes_121, f_X12_lays, hX, hM, hI, hJ, T_bind, T_chk, T_ite, T_some, T_none, nm_eq, sI, sL, up2, sw, Int32.lt_iff_toInt_lt, Int32.le_iff_toInt_le, fx1_s, fx2_s, fx3_s, fx4_s, fx5_s, fx6_s, fx7_s, stv3_0, stv3_1, stv3_2, stv3_3, stv3_4, stv3_5, stv3_6, stv3_7, stv3_8] <;> (try omega) <;> done) | exact failed_here
theorem op_4 {q : SS} (hX : FX q) (hM : FM q) (hI : FXI q) (hJ : FMI q) (a1 : Int32) (a2 : Int32) : T (f_X11_of q a1 a2) (fun r => T (f_X12_of r.2 a1 a2) (fun s => r.1 = s.1)) := by
  unfold FX at hX
  unfold FM at hM
  unfold FXI at hI
  unfold FMI at hJ
  first | (simp +contextual [f_X11_of, b_X11_of_12, f_X10_isPerson, f_X11_now, f_X8_begin, b_X8_begin_2, f_X10_get, f_X10_hasNumber, b_X10_hasNumber_49, f_X8_heldBy, b_X8_heldBy_4, f_X10_tickets, f_X8_holderOf, f_X10_isTicket, b_X8_heldBy_30, f_X8_realsOf, b_X8_realsOf_4, f_X10_isReal, b_X8_realsOf_40, b_X8_realsOf_41, f_X12_of, f_X12_in, f_X12_isPlace, f_X12_isTicket, f_X12_isOne, f_X12_valueAt, f_X12_layNow, b_X12_layNow_2, f_X12_manyOf, b_X12_manyOf_4, b_X12_manyOf_25, f_X12_realOf, b_X12_realOf_4, b_X12_realOf_34, hX, hM, hI, hJ, T_bind, T_chk, T_ite, T_some, T_none, nm_eq, sI, sL, up2, sw, Int32.lt_iff_toInt_lt, Int32.le_iff_toInt_le, fx1_s, fx2_s, fx3_s, fx4_s, fx5_s, fx6_s, fx7_s, stv3_0, stv3_1, stv3_2, stv3_3, stv3_4, stv3_5, stv3_6, stv3_7, stv3_8] <;> (try omega) <;> done) | exact failed_here
theorem op_5 {q : SS} (hX : FX q) (hM : FM q) (hI : FXI q) (hJ : FMI q) (a1 : Int32) : T (f_X11_feed q a1) (fun r => T (f_X12_feed r.2 a1) (fun s => r.1 = s.1)) := by
  unfold FX at hX
  unfold FM at hM
  unfold FXI at hI
  unfold FMI at hJ
  first | (simp +contextual [f_X11_feed, f_X5_addByte, f_X12_feed, f_X12_in, hX, hM, hI, hJ, T_bind, T_chk, T_ite, T_some, T_none, nm_eq, sI, sL, up2, sw, Int32.lt_iff_toInt_lt, Int32.le_iff_toInt_le, fx1_s, fx2_s, fx3_s, fx4_s, fx5_s, fx6_s, fx7_s, stv3_0, stv3_1, stv3_2, stv3_3, stv3_4, stv3_5, stv3_6, stv3_7, stv3_8] <;> (try omega) <;> done) | exact failed_here
theorem op_6 {q : SS} (hX : FX q) (hM : FM q) (hI : FXI q) (hJ : FMI q)  : T (f_X11_law q ) (fun r => T (f_X12_law r.2 ) (fun s => r.1 = s.1)) := by
  unfold FX at hX
  unfold FM at hM
  unfold FXI at hI
  unfold FMI at hJ
  first | (simp +contextual [f_X11_law, f_X5_readText, f_X4_clear, f_X5_readLine, b_X5_readLine_47, f_X4_addStep, f_X5_next, b_X5_readText_19, b_X5_readText_59, b_X11_law_26, f_X5_emptyTape, f_X5_draft, f_X4_become, f_X12_law, f_X12_readText, f_X12_line, b_X12_line_66, f_X12_look, b_X12_readText_31, b_X12_readText_64, b_X12_readText_86, b_X12_readText_105, b_X12_readText_177, f_X12_wrong, hX, hM, hI, hJ, T_bind, T_chk, T_ite, T_some, T_none, nm_eq, sI, sL, up2, sw, Int32.lt_iff_toInt_lt, Int32.le_iff_toInt_le, fx1_s, fx2_s, fx3_s, fx4_s, fx5_s, fx6_s, fx7_s, stv3_0, stv3_1, stv3_2, stv3_3, stv3_4, stv3_5, stv3_6, stv3_7, stv3_8] <;> (try omega) <;> done) | exact failed_here
theorem op_7 {q : SS} (hX : FX q) (hM : FM q) (hI : FXI q) (hJ : FMI q) (a1 : Int32) : T (f_X11_odds q a1) (fun r => T (f_X12_odds r.2 a1) (fun s => r.1 = s.1)) := by
  unfold FX at hX
  unfold FM at hM
  unfold FXI at hI
  unfold FMI at hJ
  first | (simp +contextual [f_X11_odds, f_X10_isSlipping, f_X10_isTicket, f_X10_isPerson, f_X11_now, f_X8_begin, b_X8_begin_2, f_X10_get, f_X10_hasNumber, b_X10_hasNumber_49, f_X8_oddsOf, f_X8_canSlip, f_X8_isLoose, f_X8_holderOf, f_X8_canGive, f_X8_heldBy, b_X8_heldBy_4, f_X10_tickets, b_X8_heldBy_30, f_X10_hourNow, f_X8_oddsBy, f_X4_isTold, b_X8_oddsBy_87, f_X4_workOut, b_X4_workOut_56, f_X4_pop, b_X4_workOut_100, b_X4_workOut_145, f_X4_doStep, f_X4_push, b_X4_doStep_43, b_X4_doStep_44, b_X4_doStep_87, f_X4_join, b_X4_join_100, f_X12_odds, f_X12_areSlip, f_X12_isTicket, f_X12_in, f_X12_isOne, f_X12_layNow, b_X12_layNow_2, f_X12_oddsOf, f_X12_maySlip, b_X12_oddsOf_115, f_X12_manyOf, b_X12_manyOf_4, b_X12_manyOf_25, f_X12_gives, b_X12_gives_7, b_X12_gives_47, f_X12_worked, b_X12_worked_12, b_X12_worked_45, b_X12_worked_79, b_X12_worked_182, b_X12_worked_117, f_X12_twoOf, b_X12_twoOf_163, b_X12_twoOf_226, hX, hM, hI, hJ, T_bind, T_chk, T_ite, T_some, T_none, nm_eq, sI, sL, up2, sw, Int32.lt_iff_toInt_lt, Int32.le_iff_toInt_le, fx1_s, fx2_s, fx3_s, fx4_s, fx5_s, fx6_s, fx7_s, stv3_0, stv3_1, stv3_2, stv3_3, stv3_4, stv3_5, stv3_6, stv3_7, stv3_8] <;> (try omega) <;> done) | exact failed_here
theorem op_8 {q : SS} (hX : FX q) (hM : FM q) (hI : FXI q) (hJ : FMI q) (a1 : Int32) (a2 : Int32) (a3 : Int32) : T (f_X11_later q a1 a2 a3) (fun r => T (f_X12_later r.2 a1 a2 a3) (fun s => r.1 = s.1)) := by
  unfold FX at hX
  unfold FM at hM
  unfold FXI at hI
  unfold FMI at hJ
  first | (simp +contextual [f_X11_later, f_X7_isShelf, f_X10_isTicket, f_X7_refusalOfBytes, f_X7_refusalOfRow, f_X7_isEmpty, f_X7_isRow, f_X7_isSort, f_X2_begin, f_X8_begin, b_X8_begin_2, f_X10_get, f_X10_hasNumber, b_X10_hasNumber_49, f_X7_sizeOf, b_X2_begin_26, f_X7_get, f_X7_hasPlaces, f_X10_isSlipping, f_X10_isPerson, f_X2_goByWell, b_X2_goByWell_12, f_X2_ticketAt, f_X2_toAt, f_X8_canSlip, f_X8_isLoose, f_X8_holderOf, f_X8_canGive, b_X2_goByWell_109, f_X8_oddsOf, f_X8_heldBy, b_X8_heldBy_4, f_X10_tickets, b_X8_heldBy_30, f_X10_hourNow, f_X8_oddsBy, f_X4_isTold, b_X8_oddsBy_87, f_X4_workOut, b_X4_workOut_56, f_X4_pop, b_X4_workOut_100, b_X4_workOut_145, f_X4_doStep, f_X4_push, b_X4_doStep_43, b_X4_doStep_44, b_X4_doStep_87, f_X4_join, b_X4_join_100, f_X8_give, f_X12_later, f_X12_isShelf, f_X12_in, f_X12_areMany, f_X12_isTicket, f_X12_rowFault, f_X12_goEve, f_X12_layNow, b_X12_layNow_2, f_X12_longOf, b_X12_longOf_2, f_X12_at, f_X12_areSlip, f_X12_isOne, b_X12_goEve_24, f_X12_maySlip, b_X12_goEve_113, f_X12_oddsOf, b_X12_oddsOf_115, f_X12_manyOf, b_X12_manyOf_4, b_X12_manyOf_25, f_X12_gives, b_X12_gives_7, b_X12_gives_47, f_X12_worked, b_X12_worked_12, b_X12_worked_45, b_X12_worked_79, b_X12_worked_182, b_X12_worked_117, f_X12_twoOf, b_X12_twoOf_163, b_X12_twoOf_226, hX, hM, hI, hJ, T_bind, T_chk, T_ite, T_some, T_none, nm_eq, sI, sL, up2, sw, Int32.lt_iff_toInt_lt, Int32.le_iff_toInt_le, fx1_s, fx2_s, fx3_s, fx4_s, fx5_s, fx6_s, fx7_s, stv3_0, stv3_1, stv3_2, stv3_3, stv3_4, stv3_5, stv3_6, stv3_7, stv3_8] <;> (try omega) <;> done) | exact failed_here
theorem op_9 {q : SS} (hX : FX q) (hM : FM q) (hI : FXI q) (hJ : FMI q) (a1 : Int32) (a2 : Int32) (a3 : Int32) : T (f_X11_eve q a1 a2 a3) (fun r => T (f_X12_eve r.2 a1 a2 a3) (fun s => r.1 = s.1)) := by
  unfold FX at hX
  unfold FM at hM
  unfold FXI at hI
  unfold FMI at hJ
  first | (simp +contextual [f_X11_eve, f_X7_isShelf, b_X11_eve_45, f_X7_refusalOfBytes, f_X7_refusalOfRow, f_X7_isEmpty, f_X7_isRow, f_X7_isSort, f_X2_begin, f_X8_begin, b_X8_begin_2, f_X10_get, f_X10_hasNumber, b_X10_hasNumber_49, f_X7_sizeOf, b_X2_begin_26, f_X7_get, f_X7_hasPlaces, f_X10_isSlipping, f_X10_isTicket, f_X10_isPerson, f_X2_goByWell, b_X2_goByWell_12, f_X2_ticketAt, f_X2_toAt, f_X8_canSlip, f_X8_isLoose, f_X8_holderOf, f_X8_canGive, b_X2_goByWell_109, f_X8_oddsOf, f_X8_heldBy, b_X8_heldBy_4, f_X10_tickets, b_X8_heldBy_30, f_X10_hourNow, f_X8_oddsBy, f_X4_isTold, b_X8_oddsBy_87, f_X4_workOut, b_X4_workOut_56, f_X4_pop, b_X4_workOut_100, b_X4_workOut_145, f_X4_doStep, f_X4_push, b_X4_doStep_43, b_X4_doStep_44, b_X4_doStep_87, f_X4_join, b_X4_join_100, f_X8_give, f_X2_wells, f_X2_leftOut, f_X8_realsOf, b_X8_realsOf_4, f_X10_isReal, b_X8_realsOf_40, b_X8_realsOf_41, f_X12_eve, f_X12_isShelf, f_X12_in, f_X12_areMany, f_X12_rowFault, f_X12_goEve, f_X12_layNow, b_X12_layNow_2, f_X12_longOf, b_X12_longOf_2, f_X12_at, f_X12_areSlip, f_X12_isTicket, f_X12_isOne, b_X12_goEve_24, f_X12_maySlip, b_X12_goEve_113, f_X12_oddsOf, b_X12_oddsOf_115, f_X12_manyOf, b_X12_manyOf_4, b_X12_manyOf_25, f_X12_gives, b_X12_gives_7, b_X12_gives_47, f_X12_worked, b_X12_worked_12, b_X12_worked_45, b_X12_worked_79, b_X12_worked_182, b_X12_worked_117, f_X12_twoOf, b_X12_twoOf_163, b_X12_twoOf_226, f_X12_realOf, b_X12_realOf_4, b_X12_realOf_34, hX, hM, hI, hJ, T_bind, T_chk, T_ite, T_some, T_none, nm_eq, sI, sL, up2, sw, Int32.lt_iff_toInt_lt, Int32.le_iff_toInt_le, fx1_s, fx2_s, fx3_s, fx4_s, fx5_s, fx6_s, fx7_s, stv3_0, stv3_1, stv3_2, stv3_3, stv3_4, stv3_5, stv3_6, stv3_7, stv3_8] <;> (try omega) <;> done) | exact failed_here
theorem op_10 {q : SS} (hX : FX q) (hM : FM q) (hI : FXI q) (hJ : FMI q) (a1 : Int32) (a2 : Int32) (a3 : Int32) : T (f_X11_likely q a1 a2 a3) (fun r => T (f_X12_likely r.2 a1 a2 a3) (fun s => r.1 = s.1)) := by
  unfold FX at hX
  unfold FM at hM
  unfold FXI at hI
  unfold FMI at hJ
  first | (simp +contextual [f_X11_likely, f_X7_refusalOfBytes, f_X7_refusalOfRow, f_X7_isShelf, f_X7_isEmpty, f_X7_isRow, f_X7_isSort, f_X11_isPart, b_X11_isPart_9, f_X2_begin, f_X8_begin, b_X8_begin_2, f_X10_get, f_X10_hasNumber, b_X10_hasNumber_49, f_X7_sizeOf, b_X2_begin_26, f_X7_get, f_X7_hasPlaces, f_X10_isSlipping, f_X10_isTicket, f_X10_isPerson, f_X2_weighSet, b_X2_weighSet_14, b_X2_weighSet_27, b_X2_weighSet_49, f_X2_ticketAt, f_X2_toAt, f_X8_canSlip, f_X8_isLoose, f_X8_holderOf, f_X8_canGive, b_X2_weighSet_88, f_X2_weighStep, f_X8_oddsOf, f_X8_heldBy, b_X8_heldBy_4, f_X10_tickets, b_X8_heldBy_30, f_X10_hourNow, f_X8_oddsBy, f_X4_isTold, b_X8_oddsBy_87, f_X4_workOut, b_X4_workOut_56, f_X4_pop, b_X4_workOut_100, b_X4_workOut_145, f_X4_doStep, f_X4_push, b_X4_doStep_43, b_X4_doStep_44, b_X4_doStep_87, f_X4_join, b_X4_join_100, b_X2_weighStep_37, f_X8_give, f_X2_above, f_X2_below, f_X11_partOf, b_X11_partOf_25, b_X11_partOf_61, f_X12_likely, f_X12_isShelf, f_X12_in, f_X12_rowFault, f_X12_layNow, b_X12_layNow_2, f_X12_longOf, b_X12_longOf_2, f_X12_at, f_X12_areSlip, f_X12_isTicket, f_X12_isOne, b_X12_likely_64, b_X12_likely_72, f_X12_lowest, b_X12_lowest_16, b_X12_likely_118, f_X12_maySlip, b_X12_likely_196, f_X12_oddsOf, b_X12_oddsOf_115, f_X12_manyOf, b_X12_manyOf_4, b_X12_manyOf_25, f_X12_gives, b_X12_gives_7, b_X12_gives_47, f_X12_worked, b_X12_worked_12, b_X12_worked_45, b_X12_worked_79, b_X12_worked_182, b_X12_worked_117, f_X12_twoOf, b_X12_twoOf_163, b_X12_twoOf_226, b_X12_likely_171, hX, hM, hI, hJ, T_bind, T_chk, T_ite, T_some, T_none, nm_eq, sI, sL, up2, sw, Int32.lt_iff_toInt_lt, Int32.le_iff_toInt_le, fx1_s, fx2_s, fx3_s, fx4_s, fx5_s, fx6_s, fx7_s, stv3_0, stv3_1, stv3_2, stv3_3, stv3_4, stv3_5, stv3_6, stv3_7, stv3_8] <;> (try omega) <;> done) | exact failed_here
theorem op_11 {q : SS} (hX : FX q) (hM : FM q) (hI : FXI q) (hJ : FMI q) (a1 : Int32) (a2 : Int32) : T (f_X11_all q a1 a2) (fun r => T (f_X12_all r.2 a1 a2) (fun s => r.1 = s.1)) := by
  unfold FX at hX
  unfold FM at hM
  unfold FXI at hI
  unfold FMI at hJ
  first | (simp +contextual [f_X11_all, f_X7_refusalOfBytes, f_X7_refusalOfRow, f_X7_isShelf, f_X7_isEmpty, f_X7_isRow, f_X7_isSort, f_X11_isPart, b_X11_isPart_9, f_X2_begin, f_X8_begin, b_X8_begin_2, f_X10_get, f_X10_hasNumber, b_X10_hasNumber_49, f_X7_sizeOf, b_X2_begin_26, f_X7_get, f_X7_hasPlaces, f_X10_isSlipping, f_X10_isTicket, f_X10_isPerson, f_X2_weighAllThatCan, b_X2_weighAllThatCan_12, f_X2_ticketAt, f_X2_toAt, f_X8_canSlip, f_X8_isLoose, f_X8_holderOf, f_X8_canGive, b_X2_weighAllThatCan_46, f_X2_weighStep, f_X8_oddsOf, f_X8_heldBy, b_X8_heldBy_4, f_X10_tickets, b_X8_heldBy_30, f_X10_hourNow, f_X8_oddsBy, f_X4_isTold, b_X8_oddsBy_87, f_X4_workOut, b_X4_workOut_56, f_X4_pop, b_X4_workOut_100, b_X4_workOut_145, f_X4_doStep, f_X4_push, b_X4_doStep_43, b_X4_doStep_44, b_X4_doStep_87, f_X4_join, b_X4_join_100, b_X2_weighStep_37, f_X8_give, f_X2_above, f_X2_below, f_X11_partOf, b_X11_partOf_25, b_X11_partOf_61, f_X12_all, f_X12_isShelf, f_X12_in, f_X12_rowFault, f_X12_layNow, b_X12_layNow_2, f_X12_longOf, b_X12_longOf_2, f_X12_at, f_X12_areSlip, f_X12_isTicket, f_X12_isOne, b_X12_all_49, f_X12_lowest, b_X12_lowest_16, f_X12_maySlip, b_X12_all_124, f_X12_oddsOf, b_X12_oddsOf_115, f_X12_manyOf, b_X12_manyOf_4, b_X12_manyOf_25, f_X12_gives, b_X12_gives_7, b_X12_gives_47, f_X12_worked, b_X12_worked_12, b_X12_worked_45, b_X12_worked_79, b_X12_worked_182, b_X12_worked_117, f_X12_twoOf, b_X12_twoOf_163, b_X12_twoOf_226, hX, hM, hI, hJ, T_bind, T_chk, T_ite, T_some, T_none, nm_eq, sI, sL, up2, sw, Int32.lt_iff_toInt_lt, Int32.le_iff_toInt_le, fx1_s, fx2_s, fx3_s, fx4_s, fx5_s, fx6_s, fx7_s, stv3_0, stv3_1, stv3_2, stv3_3, stv3_4, stv3_5, stv3_6, stv3_7, stv3_8] <;> (try omega) <;> done) | exact failed_here
theorem op_12 {q : SS} (hX : FX q) (hM : FM q) (hI : FXI q) (hJ : FMI q) (a1 : Int32) (a2 : Int32) : T (f_X11_king q a1 a2) (fun r => T (f_X12_king r.2 a1 a2) (fun s => r.1 = s.1)) := by
  unfold FX at hX
  unfold FM at hM
  unfold FXI at hI
  unfold FMI at hJ
  first | (simp +contextual [f_X11_king, f_X10_isPerson, f_X11_isPart, b_X11_isPart_9, f_X11_now, f_X8_begin, b_X8_begin_2, f_X10_get, f_X10_hasNumber, b_X10_hasNumber_49, f_X8_realsOf, b_X8_realsOf_4, f_X10_tickets, f_X8_holderOf, f_X10_isTicket, f_X10_isReal, b_X8_realsOf_40, b_X8_realsOf_41, f_X8_reals, b_X8_reals_4, b_X8_reals_32, f_X11_partOf, b_X11_partOf_25, b_X11_partOf_61, f_X12_king, f_X12_isOne, f_X12_in, f_X12_layNow, b_X12_layNow_2, f_X12_realOf, b_X12_realOf_4, b_X12_realOf_34, f_X12_allReal, b_X12_allReal_4, b_X12_allReal_24, f_X12_lowest, b_X12_lowest_16, hX, hM, hI, hJ, T_bind, T_chk, T_ite, T_some, T_none, nm_eq, sI, sL, up2, sw, Int32.lt_iff_toInt_lt, Int32.le_iff_toInt_le, fx1_s, fx2_s, fx3_s, fx4_s, fx5_s, fx6_s, fx7_s, stv3_0, stv3_1, stv3_2, stv3_3, stv3_4, stv3_5, stv3_6, stv3_7, stv3_8] <;> (try omega) <;> done) | exact failed_here
theorem op_13 {q : SS} (hX : FX q) (hM : FM q) (hI : FXI q) (hJ : FMI q)  : T (f_X11_safe q ) (fun r => T (f_X12_safe r.2 ) (fun s => r.1 = s.1)) := by
  unfold FX at hX
  unfold FM at hM
  unfold FXI at hI
  unfold FMI at hJ
  first | (simp +contextual [f_X11_safe, f_X11_now, f_X8_begin, b_X8_begin_2, f_X10_get, f_X10_hasNumber, b_X10_hasNumber_49, b_X11_safe_9, f_X10_people, f_X8_realsOf, b_X8_realsOf_4, f_X10_tickets, f_X8_holderOf, f_X10_isTicket, f_X10_isReal, b_X8_realsOf_40, b_X8_realsOf_41, b_X11_safe_34, f_X12_safe, f_X12_layNow, b_X12_layNow_2, b_X12_safe_8, f_X12_realOf, b_X12_realOf_4, b_X12_realOf_34, b_X12_safe_30, hX, hM, hI, hJ, T_bind, T_chk, T_ite, T_some, T_none, nm_eq, sI, sL, up2, sw, Int32.lt_iff_toInt_lt, Int32.le_iff_toInt_le, fx1_s, fx2_s, fx3_s, fx4_s, fx5_s, fx6_s, fx7_s, stv3_0, stv3_1, stv3_2, stv3_3, stv3_4, stv3_5, stv3_6, stv3_7, stv3_8] <;> (try omega) <;> done) | exact failed_here
theorem op_14 {q : SS} (hX : FX q) (hM : FM q) (hI : FXI q) (hJ : FMI q)  : T (f_X11_likeliest q ) (fun r => T (f_X12_likeliest r.2 ) (fun s => r.1 = s.1)) := by
  unfold FX at hX
  unfold FM at hM
  unfold FXI at hI
  unfold FMI at hJ
  first | (simp +contextual [f_X11_likeliest, f_X11_now, f_X8_begin, b_X8_begin_2, f_X10_get, f_X10_hasNumber, b_X10_hasNumber_49, b_X11_likeliest_13, f_X10_people, f_X8_realsOf, b_X8_realsOf_4, f_X10_tickets, f_X8_holderOf, f_X10_isTicket, f_X10_isReal, b_X8_realsOf_40, b_X8_realsOf_41, b_X11_likeliest_45, f_X12_likeliest, f_X12_layNow, b_X12_layNow_2, b_X12_likeliest_9, f_X12_realOf, b_X12_realOf_4, b_X12_realOf_34, b_X12_likeliest_44, b_X12_likeliest_42, hX, hM, hI, hJ, T_bind, T_chk, T_ite, T_some, T_none, nm_eq, sI, sL, up2, sw, Int32.lt_iff_toInt_lt, Int32.le_iff_toInt_le, fx1_s, fx2_s, fx3_s, fx4_s, fx5_s, fx6_s, fx7_s, stv3_0, stv3_1, stv3_2, stv3_3, stv3_4, stv3_5, stv3_6, stv3_7, stv3_8] <;> (try omega) <;> done) | exact failed_here
theorem op_15 {q : SS} (hX : FX q) (hM : FM q) (hI : FXI q) (hJ : FMI q) (a1 : Int32) : T (f_X11_watch q a1) (fun r => T (f_X12_watch r.2 a1) (fun s => r.1 = s.1)) := by
  unfold FX at hX
  unfold FM at hM
  unfold FXI at hI
  unfold FMI at hJ
  first | (simp +contextual [f_X11_watch, f_X10_isPerson, f_X11_now, f_X8_begin, b_X8_begin_2, f_X10_get, f_X10_hasNumber, b_X10_hasNumber_49, b_X11_watch_27, f_X10_tickets, f_X8_canSlip, f_X10_isTicket, f_X8_isLoose, f_X8_holderOf, f_X8_canGive, b_X11_watch_92, f_X8_oddsOf, f_X8_heldBy, b_X8_heldBy_4, b_X8_heldBy_30, f_X10_hourNow, f_X8_oddsBy, f_X4_isTold, b_X8_oddsBy_87, f_X4_workOut, b_X4_workOut_56, f_X4_pop, b_X4_workOut_100, b_X4_workOut_145, f_X4_doStep, f_X4_push, b_X4_doStep_43, b_X4_doStep_44, b_X4_doStep_87, f_X4_join, b_X4_join_100, b_X11_watch_85, f_X12_watch, f_X12_isOne, f_X12_in, f_X12_layNow, b_X12_layNow_2, b_X12_watch_22, f_X12_maySlip, b_X12_watch_93, f_X12_oddsOf, b_X12_oddsOf_115, f_X12_manyOf, b_X12_manyOf_4, b_X12_manyOf_25, f_X12_gives, b_X12_gives_7, b_X12_gives_47, f_X12_worked, b_X12_worked_12, b_X12_worked_45, b_X12_worked_79, b_X12_worked_182, b_X12_worked_117, f_X12_twoOf, b_X12_twoOf_163, b_X12_twoOf_226, b_X12_watch_87, hX, hM, hI, hJ, T_bind, T_chk, T_ite, T_some, T_none, nm_eq, sI, sL, up2, sw, Int32.lt_iff_toInt_lt, Int32.le_iff_toInt_le, fx1_s, fx2_s, fx3_s, fx4_s, fx5_s, fx6_s, fx7_s, stv3_0, stv3_1, stv3_2, stv3_3, stv3_4, stv3_5, stv3_6, stv3_7, stv3_8] <;> (try omega) <;> done) | exact failed_here
theorem op_16 {q : SS} (hX : FX q) (hM : FM q) (hI : FXI q) (hJ : FMI q) (a1 : Int32) (a2 : Int32) (a3 : Int32) : T (f_X11_rid q a1 a2 a3) (fun r => T (f_X12_rid r.2 a1 a2 a3) (fun s => r.1 = s.1)) := by
  unfold FX at hX
  unfold FM at hM
  unfold FXI at hI
  unfold FMI at hJ
  first | (simp +contextual [f_X11_rid, f_X10_isPerson, f_X11_isPart, b_X11_isPart_9, f_X6_begin, f_X8_begin, b_X8_begin_2, f_X10_get, f_X10_hasNumber, b_X10_hasNumber_49, f_X8_reals, b_X8_reals_4, f_X10_tickets, f_X10_isReal, f_X10_isTicket, b_X8_reals_32, f_X8_realsOf, b_X8_realsOf_4, f_X8_holderOf, b_X8_realsOf_40, b_X8_realsOf_41, b_X6_begin_47, f_X6_sortTickets, b_X6_sortTickets_2, b_X6_sortTickets_38, b_X6_sortTickets_101, b_X6_begin_72, f_X6_workOutHour, f_X10_hourNow, b_X6_workOutHour_17, f_X10_people, f_X8_heldBy, b_X8_heldBy_4, b_X8_heldBy_30, b_X6_workOutHour_41, b_X6_workOutHour_50, f_X6_placeOf, b_X6_workOutHour_114, f_X8_oddsBy, f_X8_canGive, f_X4_isTold, b_X8_oddsBy_87, f_X4_workOut, b_X4_workOut_56, f_X4_pop, b_X4_workOut_100, b_X4_workOut_145, f_X4_doStep, f_X4_push, b_X4_doStep_43, b_X4_doStep_44, b_X4_doStep_87, f_X4_join, b_X4_join_100, f_X6_freeAtBest, f_X6_freeAtMost, b_X6_freeAtMost_11, f_X11_partOf, b_X11_partOf_25, b_X11_partOf_61, f_X12_rid, f_X12_isOne, f_X12_in, f_X12_layNow, b_X12_layNow_2, f_X12_allReal, b_X12_allReal_4, b_X12_allReal_24, b_X12_rid_53, f_X12_lowest, b_X12_lowest_16, hX, hM, hI, hJ, T_bind, T_chk, T_ite, T_some, T_none, nm_eq, sI, sL, up2, sw, Int32.lt_iff_toInt_lt, Int32.le_iff_toInt_le, fx1_s, fx2_s, fx3_s, fx4_s, fx5_s, fx6_s, fx7_s, stv3_0, stv3_1, stv3_2, stv3_3, stv3_4, stv3_5, stv3_6, stv3_7, stv3_8] <;> (try omega) <;> done) | exact failed_here
theorem op_17 {q : SS} (hX : FX q) (hM : FM q) (hI : FXI q) (hJ : FMI q) (a1 : Int32) (a2 : Int32) : T (f_X11_first q a1 a2) (fun r => T (f_X12_first r.2 a1 a2) (fun s => r.1 = s.1)) := by
  unfold FX at hX
  unfold FM at hM
  unfold FXI at hI
  unfold FMI at hJ
  first | (simp +contextual [f_X11_first, f_X10_isPerson, f_X6_begin, f_X8_begin, b_X8_begin_2, f_X10_get, f_X10_hasNumber, b_X10_hasNumber_49, f_X8_reals, b_X8_reals_4, f_X10_tickets, f_X10_isReal, f_X10_isTicket, b_X8_reals_32, f_X8_realsOf, b_X8_realsOf_4, f_X8_holderOf, b_X8_realsOf_40, b_X8_realsOf_41, b_X6_begin_47, f_X6_sortTickets, b_X6_sortTickets_2, b_X6_sortTickets_38, b_X6_sortTickets_101, b_X6_begin_72, f_X6_workOutHour, f_X10_hourNow, b_X6_workOutHour_17, f_X10_people, f_X8_heldBy, b_X8_heldBy_4, b_X8_heldBy_30, b_X6_workOutHour_41, b_X6_workOutHour_50, f_X6_placeOf, b_X6_workOutHour_114, f_X8_oddsBy, f_X8_canGive, f_X4_isTold, b_X8_oddsBy_87, f_X4_workOut, b_X4_workOut_56, f_X4_pop, b_X4_workOut_100, b_X4_workOut_145, f_X4_doStep, f_X4_push, b_X4_doStep_43, b_X4_doStep_44, b_X4_doStep_87, f_X4_join, b_X4_join_100, f_X6_firstSlipping, b_X6_firstSlipping_28, b_X6_firstSlipping_37, b_X6_firstSlipping_99, b_X6_firstSlipping_105, f_X12_first, f_X12_isOne, f_X12_in, f_X12_layNow, b_X12_layNow_2, b_X12_first_67, b_X12_first_157, b_X12_first_104, f_X12_maySlip, b_X12_first_151, hX, hM, hI, hJ, T_bind, T_chk, T_ite, T_some, T_none, nm_eq, sI, sL, up2, sw, Int32.lt_iff_toInt_lt, Int32.le_iff_toInt_le, fx1_s, fx2_s, fx3_s, fx4_s, fx5_s, fx6_s, fx7_s, stv3_0, stv3_1, stv3_2, stv3_3, stv3_4, stv3_5, stv3_6, stv3_7, stv3_8] <;> (try omega) <;> done) | exact failed_here
theorem op_18 {q : SS} (hX : FX q) (hM : FM q) (hI : FXI q) (hJ : FMI q) (a1 : Int32) (a2 : Int32) (a3 : Int32) : T (f_X11_hire q a1 a2 a3) (fun r => T (f_X12_hire r.2 a1 a2 a3) (fun s => r.1 = s.1)) := by
  unfold FX at hX
  unfold FM at hM
  unfold FXI at hI
  unfold FMI at hJ
  first | (simp +contextual [f_X11_hire, f_X10_isPerson, f_X11_now, f_X8_begin, b_X8_begin_2, f_X10_get, f_X10_hasNumber, b_X10_hasNumber_49, f_X8_looseOf, b_X8_looseOf_4, f_X10_tickets, f_X8_holderOf, f_X10_isTicket, f_X8_isLoose, b_X8_looseOf_37, b_X8_looseOf_38, b_X11_hire_60, b_X11_hire_146, b_X11_hire_75, f_X10_people, b_X11_hire_140, f_X11_takesFor, b_X11_takesFor_34, b_X11_takesFor_35, b_X11_hire_134, f_X12_hire, f_X12_isOne, f_X12_in, b_X12_hire_35, b_X12_hire_87, b_X12_hire_147, b_X12_hire_160, b_X12_hire_205, b_X12_hire_201, b_X12_hire_119, b_X12_hire_130, b_X12_hire_69, hX, hM, hI, hJ, T_bind, T_chk, T_ite, T_some, T_none, nm_eq, sI, sL, up2, sw, Int32.lt_iff_toInt_lt, Int32.le_iff_toInt_le, fx1_s, fx2_s, fx3_s, fx4_s, fx5_s, fx6_s, fx7_s, stv3_0, stv3_1, stv3_2, stv3_3, stv3_4, stv3_5, stv3_6, stv3_7, stv3_8] <;> (try omega) <;> done) | exact failed_here
theorem op_19 {q : SS} (hX : FX q) (hM : FM q) (hI : FXI q) (hJ : FMI q) (a1 : Int32) (a2 : Int32) : T (f_X11_friend q a1 a2) (fun r => T (f_X12_friend r.2 a1 a2) (fun s => r.1 = s.1)) := by
  unfold FX at hX
  unfold FM at hM
  unfold FXI at hI
  unfold FMI at hJ
  first | (simp +contextual [f_X11_friend, f_X10_isPerson, f_X11_now, f_X8_begin, b_X8_begin_2, f_X10_get, f_X10_hasNumber, b_X10_hasNumber_49, f_X8_reals, b_X8_reals_4, f_X10_tickets, f_X10_isReal, f_X10_isTicket, b_X8_reals_32, f_X8_realsOf, b_X8_realsOf_4, f_X8_holderOf, b_X8_realsOf_40, b_X8_realsOf_41, b_X11_friend_84, b_X11_friend_89, f_X8_looseReals, b_X8_looseReals_4, f_X8_isLoose, b_X8_looseReals_39, b_X8_looseReals_40, f_X8_looseRealsOf, b_X8_looseRealsOf_4, b_X8_looseRealsOf_48, b_X8_looseRealsOf_49, f_X12_friend, f_X12_isOne, f_X12_in, f_X12_layNow, b_X12_layNow_2, f_X12_allReal, b_X12_allReal_4, b_X12_allReal_24, b_X12_friend_50, b_X12_friend_91, f_X12_realOf, b_X12_realOf_4, b_X12_realOf_34, f_X12_maySlip, b_X12_friend_82, hX, hM, hI, hJ, T_bind, T_chk, T_ite, T_some, T_none, nm_eq, sI, sL, up2, sw, Int32.lt_iff_toInt_lt, Int32.le_iff_toInt_le, fx1_s, fx2_s, fx3_s, fx4_s, fx5_s, fx6_s, fx7_s, stv3_0, stv3_1, stv3_2, stv3_3, stv3_4, stv3_5, stv3_6, stv3_7, stv3_8] <;> (try omega) <;> done) | exact failed_here
theorem op_20 {q : SS} (hX : FX q) (hM : FM q) (hI : FXI q) (hJ : FMI q) (a1 : Int32) (a2 : Int32) : T (f_X11_share q a1 a2) (fun r => T (f_X12_share r.2 a1 a2) (fun s => r.1 = s.1)) := by
  unfold FX at hX
  unfold FM at hM
  unfold FXI at hI
  unfold FMI at hJ
  first | (simp +contextual [f_X11_share, f_X10_isPerson, f_X11_now, f_X8_begin, b_X8_begin_2, f_X10_get, f_X10_hasNumber, b_X10_hasNumber_49, f_X8_reals, b_X8_reals_4, f_X10_tickets, f_X10_isReal, f_X10_isTicket, b_X8_reals_32, f_X8_realsOf, b_X8_realsOf_4, f_X8_holderOf, b_X8_realsOf_40, b_X8_realsOf_41, f_X12_share, f_X12_isOne, f_X12_in, f_X12_layNow, b_X12_layNow_2, f_X12_allReal, b_X12_allReal_4, b_X12_allReal_24, f_X12_realOf, b_X12_realOf_4, b_X12_realOf_34, hX, hM, hI, hJ, T_bind, T_chk, T_ite, T_some, T_none, nm_eq, sI, sL, up2, sw, Int32.lt_iff_toInt_lt, Int32.le_iff_toInt_le, fx1_s, fx2_s, fx3_s, fx4_s, fx5_s, fx6_s, fx7_s, stv3_0, stv3_1, stv3_2, stv3_3, stv3_4, stv3_5, stv3_6, stv3_7, stv3_8] <;> (try omega) <;> done) | exact failed_here
theorem op_21 {q : SS} (hX : FX q) (hM : FM q) (hI : FXI q) (hJ : FMI q)  : T (f_X11_half q ) (fun r => T (f_X12_half r.2 ) (fun s => r.1 = s.1)) := by
  unfold FX at hX
  unfold FM at hM
  unfold FXI at hI
  unfold FMI at hJ
  first | (simp +contextual [f_X11_half, f_X11_now, f_X8_begin, b_X8_begin_2, f_X10_get, f_X10_hasNumber, b_X10_hasNumber_49, f_X8_reals, b_X8_reals_4, f_X10_tickets, f_X10_isReal, f_X10_isTicket, b_X8_reals_32, b_X11_half_27, f_X10_people, f_J6_bitCount_0f7a4, b_X11_half_75, f_X11_realsOfSet, b_X11_realsOfSet_5, f_X8_realsOf, b_X8_realsOf_4, f_X8_holderOf, b_X8_realsOf_40, b_X8_realsOf_41, b_X11_realsOfSet_36, f_X12_half, f_X12_layNow, b_X12_layNow_2, f_X12_allReal, b_X12_allReal_4, b_X12_allReal_24, b_X12_half_14, b_X12_half_34, b_X12_half_95, b_X12_half_93, f_X12_bitsOf, b_X12_bitsOf_4, f_X12_realOf, b_X12_realOf_4, b_X12_realOf_34, b_X12_half_64, hX, hM, hI, hJ, T_bind, T_chk, T_ite, T_some, T_none, nm_eq, sI, sL, up2, sw, Int32.lt_iff_toInt_lt, Int32.le_iff_toInt_le, fx1_s, fx2_s, fx3_s, fx4_s, fx5_s, fx6_s, fx7_s, stv3_0, stv3_1, stv3_2, stv3_3, stv3_4, stv3_5, stv3_6, stv3_7, stv3_8] <;> (try omega) <;> done) | exact failed_here
theorem op_22 {q : SS} (hX : FX q) (hM : FM q) (hI : FXI q) (hJ : FMI q) (a1 : Int32) (a2 : Int32) (a3 : Int32) : T (f_X11_behind q a1 a2 a3) (fun r => T (f_X12_behind r.2 a1 a2 a3) (fun s => r.1 = s.1)) := by
  unfold FX at hX
  unfold FM at hM
  unfold FXI at hI
  unfold FMI at hJ
  first | (simp +contextual [f_X11_behind, f_X7_isShelf, f_X7_isEmpty, f_X7_refusalOfBytes, f_X7_refusalOfRow, f_X7_isRow, f_X7_isSort, f_X2_begin, f_X8_begin, b_X8_begin_2, f_X10_get, f_X10_hasNumber, b_X10_hasNumber_49, f_X7_sizeOf, b_X2_begin_26, f_X7_get, f_X7_hasPlaces, f_X10_isSlipping, f_X10_isTicket, f_X10_isPerson, b_X11_behind_114, f_X9_goThrough, b_X9_goThrough_3, b_X9_goThrough_48, b_X9_goThrough_76, b_X9_goThrough_38, f_X9_howMany, f_X9_fewest, f_X9_fewestBits, f_X9_certain, f_X9_likeliestBits, f_X12_behind, f_X12_isShelf, f_X12_in, f_X12_rowFault, f_X12_longOf, b_X12_longOf_2, f_X12_at, f_X12_areSlip, f_X12_isTicket, f_X12_isOne, f_X12_layNow, b_X12_layNow_2, hX, hM, hI, hJ, T_bind, T_chk, T_ite, T_some, T_none, nm_eq, sI, sL, up2, sw, Int32.lt_iff_toInt_lt, Int32.le_iff_toInt_le, fx1_s, fx2_s, fx3_s, fx4_s, fx5_s, fx6_s, fx7_s, stv3_0, stv3_1, stv3_2, stv3_3, stv3_4, stv3_5, stv3_6, stv3_7, stv3_8] <;> (try omega) <;> done) | exact failed_here
theorem op_23 {q : SS} (hX : FX q) (hM : FM q) (hI : FXI q) (hJ : FMI q) (a1 : Int32) (a2 : Int32) (a3 : Int32) : T (f_X11_drawn q a1 a2 a3) (fun r => T (f_X12_drawn r.2 a1 a2 a3) (fun s => r.1 = s.1)) := by
  unfold FX at hX
  unfold FM at hM
  unfold FXI at hI
  unfold FMI at hJ
  first | (simp +contextual [f_X11_drawn, b_X11_drawn_58, b_X11_drawn_70, f_X8_begin, b_X8_begin_2, f_X10_get, f_X10_hasNumber, b_X10_hasNumber_49, b_X11_drawn_87, f_X11_nextDraw, f_X8_kingDrawn, f_X8_reals, b_X8_reals_4, f_X10_tickets, f_X10_isReal, f_X10_isTicket, b_X8_reals_32, b_X8_kingDrawn_22, b_X8_kingDrawn_60, f_X8_holderOf, b_X11_drawn_156, f_X8_slipDrawn, f_X10_people, f_X8_oddsOf, f_X8_canSlip, f_X8_isLoose, f_X8_canGive, f_X10_isPerson, f_X8_heldBy, b_X8_heldBy_4, b_X8_heldBy_30, f_X10_hourNow, f_X8_oddsBy, f_X4_isTold, b_X8_oddsBy_87, f_X4_workOut, b_X4_workOut_56, f_X4_pop, b_X4_workOut_100, b_X4_workOut_145, f_X4_doStep, f_X4_push, b_X4_doStep_43, b_X4_doStep_44, b_X4_doStep_87, f_X4_join, b_X4_join_100, b_X8_slipDrawn_65, f_X8_give, b_X11_drawn_120, f_X12_drawn, f_X12_in, b_X12_drawn_58, b_X12_drawn_232, f_X12_layNow, b_X12_layNow_2, b_X12_drawn_81, b_X12_drawn_226, f_X12_allReal, b_X12_allReal_4, b_X12_allReal_24, f_X12_realAt, b_X12_realAt_4, b_X12_realAt_35, f_X12_maySlip, b_X12_drawn_171, f_X12_oddsOf, b_X12_oddsOf_115, f_X12_manyOf, b_X12_manyOf_4, b_X12_manyOf_25, f_X12_gives, b_X12_gives_7, b_X12_gives_47, f_X12_worked, b_X12_worked_12, b_X12_worked_45, b_X12_worked_79, b_X12_worked_182, b_X12_worked_117, f_X12_twoOf, b_X12_twoOf_163, b_X12_twoOf_226, hX, hM, hI, hJ, T_bind, T_chk, T_ite, T_some, T_none, nm_eq, sI, sL, up2, sw, Int32.lt_iff_toInt_lt, Int32.le_iff_toInt_le, fx1_s, fx2_s, fx3_s, fx4_s, fx5_s, fx6_s, fx7_s, stv3_0, stv3_1, stv3_2, stv3_3, stv3_4, stv3_5, stv3_6, stv3_7, stv3_8] <;> (try omega) <;> done) | exact failed_here
theorem op_24 {q : SS} (hX : FX q) (hM : FM q) (hI : FXI q) (hJ : FMI q) (a1 : Int32) (a2 : Int32) : T (f_X11_slip q a1 a2) (fun r => T (f_X12_slip r.2 a1 a2) (fun s => r.1 = s.1)) := by
  unfold FX at hX
  unfold FM at hM
  unfold FXI at hI
  unfold FMI at hJ
  first | (simp +contextual [f_X11_slip, f_X10_isSlipping, f_X10_isTicket, f_X10_isPerson, f_X11_now, f_X8_begin, b_X8_begin_2, f_X10_get, f_X10_hasNumber, b_X10_hasNumber_49, f_X8_canSlip, f_X8_isLoose, f_X8_holderOf, f_X8_canGive, f_X1_note, f_X10_set, b_X11_slip_80, f_X12_slip, f_X12_areSlip, f_X12_isTicket, f_X12_in, f_X12_isOne, f_X12_layNow, b_X12_layNow_2, f_X12_maySlip, b_X12_slip_59, hX, hM, hI, hJ, T_bind, T_chk, T_ite, T_some, T_none, nm_eq, sI, sL, up2, sw, Int32.lt_iff_toInt_lt, Int32.le_iff_toInt_le, fx1_s, fx2_s, fx3_s, fx4_s, fx5_s, fx6_s, fx7_s, stv3_0, stv3_1, stv3_2, stv3_3, stv3_4, stv3_5, stv3_6, stv3_7, stv3_8] <;> (try omega) <;> done) | exact failed_here
theorem op_25 {q : SS} (hX : FX q) (hM : FM q) (hI : FXI q) (hJ : FMI q) (a1 : Int32) : T (f_X11_fold q a1) (fun r => T (f_X12_fold r.2 a1) (fun s => r.1 = s.1)) := by
  unfold FX at hX
  unfold FM at hM
  unfold FXI at hI
  unfold FMI at hJ
  first | (simp +contextual [f_X11_fold, f_X10_isTicket, f_X10_get, f_X10_hasNumber, b_X10_hasNumber_49, f_X1_note, f_X10_set, f_X12_fold, f_X12_isTicket, f_X12_in, hX, hM, hI, hJ, T_bind, T_chk, T_ite, T_some, T_none, nm_eq, sI, sL, up2, sw, Int32.lt_iff_toInt_lt, Int32.le_iff_toInt_le, fx1_s, fx2_s, fx3_s, fx4_s, fx5_s, fx6_s, fx7_s, stv3_0, stv3_1, stv3_2, stv3_3, stv3_4, stv3_5, stv3_6, stv3_7, stv3_8] <;> (try omega) <;> done) | exact failed_here
theorem op_26 {q : SS} (hX : FX q) (hM : FM q) (hI : FXI q) (hJ : FMI q)  : T (f_X11_hour q ) (fun r => T (f_X12_hour r.2 ) (fun s => r.1 = s.1)) := by
  unfold FX at hX
  unfold FM at hM
  unfold FXI at hI
  unfold FMI at hJ
  first | (simp +contextual [f_X11_hour, f_X10_hourNow, f_X10_get, f_X10_hasNumber, b_X10_hasNumber_49, b_X11_hour_25, f_X1_note, f_X10_set, f_X12_hour, b_X12_hour_28, hX, hM, hI, hJ, T_bind, T_chk, T_ite, T_some, T_none, nm_eq, sI, sL, up2, sw, Int32.lt_iff_toInt_lt, Int32.le_iff_toInt_le, fx1_s, fx2_s, fx3_s, fx4_s, fx5_s, fx6_s, fx7_s, stv3_0, stv3_1, stv3_2, stv3_3, stv3_4, stv3_5, stv3_6, stv3_7, stv3_8] <;> (try omega) <;> done) | exact failed_here
theorem op_27 {q : SS} (hX : FX q) (hM : FM q) (hI : FXI q) (hJ : FMI q) (a1 : Int32) : T (f_X11_led q a1) (fun r => T (f_X12_led q a1) (fun s => r = s)) := by
  unfold FX at hX
  unfold FM at hM
  unfold FXI at hI
  unfold FMI at hJ
  first | (simp +contextual [f_X11_led, b_X11_led_9, f_X1_noted, f_X12_led, f_X12_in, hX, hM, hI, hJ, T_bind, T_chk, T_ite, T_some, T_none, nm_eq, sI, sL, up2, sw, Int32.lt_iff_toInt_lt, Int32.le_iff_toInt_le, fx1_s, fx2_s, fx3_s, fx4_s, fx5_s, fx6_s, fx7_s, stv3_0, stv3_1, stv3_2, stv3_3, stv3_4, stv3_5, stv3_6, stv3_7, stv3_8] <;> (try omega) <;> done) | exact failed_here
theorem op_28 {q : SS} (hX : FX q) (hM : FM q) (hI : FXI q) (hJ : FMI q)  : T (f_X11_image q ) (fun r => T (f_X12_image r.2 ) (fun s => r.1 = s.1)) := by
  unfold FX at hX
  unfold FM at hM
  unfold FXI at hI
  unfold FMI at hJ
  first | (simp +contextual [f_X11_image, f_X1_keepImage, f_X10_tickets, f_X10_hourNow, f_X10_get, f_X10_hasNumber, b_X10_hasNumber_49, b_X1_keepImage_43, f_X1_noted, f_X12_image, b_X12_image_25, b_X12_image_65, hX, hM, hI, hJ, T_bind, T_chk, T_ite, T_some, T_none, nm_eq, sI, sL, up2, sw, Int32.lt_iff_toInt_lt, Int32.le_iff_toInt_le, fx1_s, fx2_s, fx3_s, fx4_s, fx5_s, fx6_s, fx7_s, stv3_0, stv3_1, stv3_2, stv3_3, stv3_4, stv3_5, stv3_6, stv3_7, stv3_8] <;> (try omega) <;> done) | exact failed_here
theorem op_29 {q : SS} (hX : FX q) (hM : FM q) (hI : FXI q) (hJ : FMI q)  : T (f_X11_back q ) (fun r => T (f_X12_back r.2 ) (fun s => r.1 = s.1)) := by
  unfold FX at hX
  unfold FM at hM
  unfold FXI at hI
  unfold FMI at hJ
  first | (simp +contextual [f_X11_back, f_X1_hasImage, f_X1_layBack, f_X10_set, f_X10_hasNumber, b_X10_hasNumber_49, b_X1_layBack_30, f_X1_noted, f_X12_back, b_X12_back_22, b_X12_back_62, hX, hM, hI, hJ, T_bind, T_chk, T_ite, T_some, T_none, nm_eq, sI, sL, up2, sw, Int32.lt_iff_toInt_lt, Int32.le_iff_toInt_le, fx1_s, fx2_s, fx3_s, fx4_s, fx5_s, fx6_s, fx7_s, stv3_0, stv3_1, stv3_2, stv3_3, stv3_4, stv3_5, stv3_6, stv3_7, stv3_8] <;> (try omega) <;> done) | exact failed_here
theorem op_30 {q : SS} (hX : FX q) (hM : FM q) (hI : FXI q) (hJ : FMI q)  : T (f_X11_undo q ) (fun r => T (f_X12_undo r.2 ) (fun s => r.1 = s.1)) := by
  unfold FX at hX
  unfold FM at hM
  unfold FXI at hI
  unfold FMI at hJ
  first | (simp +contextual [f_X11_undo, f_X0_done, f_X0_undoLatest, f_X10_set, f_X10_hasNumber, b_X10_hasNumber_49, f_X12_undo, f_X12_lays, hX, hM, hI, hJ, T_bind, T_chk, T_ite, T_some, T_none, nm_eq, sI, sL, up2, sw, Int32.lt_iff_toInt_lt, Int32.le_iff_toInt_le, fx1_s, fx2_s, fx3_s, fx4_s, fx5_s, fx6_s, fx7_s, stv3_0, stv3_1, stv3_2, stv3_3, stv3_4, stv3_5, stv3_6, stv3_7, stv3_8] <;> (try omega) <;> done) | exact failed_here
theorem op_31 {q : SS} (hX : FX q) (hM : FM q) (hI : FXI q) (hJ : FMI q)  : T (f_X11_redo q ) (fun r => T (f_X12_redo r.2 ) (fun s => r.1 = s.1)) := by
  unfold FX at hX
  unfold FM at hM
  unfold FXI at hI
  unfold FMI at hJ
  first | (simp +contextual [f_X11_redo, f_X0_undone, f_X0_redoNext, f_X10_set, f_X10_hasNumber, b_X10_hasNumber_49, f_X12_redo, f_X12_lays, hX, hM, hI, hJ, T_bind, T_chk, T_ite, T_some, T_none, nm_eq, sI, sL, up2, sw, Int32.lt_iff_toInt_lt, Int32.le_iff_toInt_le, fx1_s, fx2_s, fx3_s, fx4_s, fx5_s, fx6_s, fx7_s, stv3_0, stv3_1, stv3_2, stv3_3, stv3_4, stv3_5, stv3_6, stv3_7, stv3_8] <;> (try omega) <;> done) | exact failed_here
theorem op_32 {q : SS} (hX : FX q) (hM : FM q) (hI : FXI q) (hJ : FMI q) (a1 : Int32) : T (f_X11_body q a1) (fun r => T (f_X12_body r.2 a1) (fun s => r.1 = s.1)) := by
  unfold FX at hX
  unfold FM at hM
  unfold FXI at hI
  unfold FMI at hJ
  first | (simp +contextual [f_X11_body, f_X3_isKind, f_X3_addBody, f_X12_body, f_X12_in, hX, hM, hI, hJ, T_bind, T_chk, T_ite, T_some, T_none, nm_eq, sI, sL, up2, sw, Int32.lt_iff_toInt_lt, Int32.le_iff_toInt_le, fx1_s, fx2_s, fx3_s, fx4_s, fx5_s, fx6_s, fx7_s, stv3_0, stv3_1, stv3_2, stv3_3, stv3_4, stv3_5, stv3_6, stv3_7, stv3_8] <;> (try omega) <;> done) | exact failed_here
theorem op_33 {q : SS} (hX : FX q) (hM : FM q) (hI : FXI q) (hJ : FMI q) (a1 : Int32) (a2 : Int32) (a3 : Int32) : T (f_X11_act q a1 a2 a3) (fun r => T (f_X12_act r.2 a1 a2 a3) (fun s => r.1 = s.1)) := by
  unfold FX at hX
  unfold FM at hM
  unfold FXI at hI
  unfold FMI at hJ
  first | (simp +contextual [f_X11_act, f_X3_begin, f_X3_isBody, f_X3_kindOf, f_X12_act, f_X12_isBody, f_X12_in, f_X12_slipping, f_X12_isUnder, b_X12_isUnder_56, b_X12_isUnder_19, b_X12_isUnder_34, b_X12_isUnder_44, f_X12_ran, b_X12_ran_19, f_X12_wiseSlips, f_X12_plainSlips, f_X12_folding, f_X12_plainFolds, f_X12_proving, f_X12_childProves, f_X12_plainProves, f_X12_brideFolds, f_X12_telling, f_X12_plainTells, hX, hM, hI, hJ, T_bind, T_chk, T_ite, T_some, T_none, nm_eq, sI, sL, up2, sw, Int32.lt_iff_toInt_lt, Int32.le_iff_toInt_le, fx1_s, fx2_s, fx3_s, fx4_s, fx5_s, fx6_s, fx7_s, stv3_0, stv3_1, stv3_2, stv3_3, stv3_4, stv3_5, stv3_6, stv3_7, stv3_8] <;> (try omega) <;> done) | exact failed_here
theorem op_34 {q : SS} (hX : FX q) (hM : FM q) (hI : FXI q) (hJ : FMI q) (a1 : Int32) : T (f_X11_trace q a1) (fun r => T (f_X12_trace q a1) (fun s => r = s)) := by
  unfold FX at hX
  unfold FM at hM
  unfold FXI at hI
  unfold FMI at hJ
  first | (simp +contextual [f_X11_trace, b_X11_trace_15, f_X3_traced, f_X3_traceAt, f_X12_trace, hX, hM, hI, hJ, T_bind, T_chk, T_ite, T_some, T_none, nm_eq, sI, sL, up2, sw, Int32.lt_iff_toInt_lt, Int32.le_iff_toInt_le, fx1_s, fx2_s, fx3_s, fx4_s, fx5_s, fx6_s, fx7_s, stv3_0, stv3_1, stv3_2, stv3_3, stv3_4, stv3_5, stv3_6, stv3_7, stv3_8] <;> (try omega) <;> done) | exact failed_here
theorem op_35 {q : SS} (hX : FX q) (hM : FM q) (hI : FXI q) (hJ : FMI q) (a1 : Int32) (a2 : Int32) : T (f_X11_keep q a1 a2) (fun r => T (f_X12_keep r.2 a1 a2) (fun s => r.1 = s.1)) := by
  unfold FX at hX
  unfold FM at hM
  unfold FXI at hI
  unfold FMI at hJ
  first | (simp +contextual [f_X11_keep, f_X7_isShelf, b_X11_keep_29, f_X7_clear, f_X7_holdBody, f_X3_isBody, f_X12_keep, f_X12_isShelf, f_X12_in, b_X12_keep_22, f_X12_isBody, hX, hM, hI, hJ, T_bind, T_chk, T_ite, T_some, T_none, nm_eq, sI, sL, up2, sw, Int32.lt_iff_toInt_lt, Int32.le_iff_toInt_le, fx1_s, fx2_s, fx3_s, fx4_s, fx5_s, fx6_s, fx7_s, stv3_0, stv3_1, stv3_2, stv3_3, stv3_4, stv3_5, stv3_6, stv3_7, stv3_8] <;> (try omega) <;> done) | exact failed_here
theorem op_36 {q : SS} (hX : FX q) (hM : FM q) (hI : FXI q) (hJ : FMI q) (a1 : Int32) (a2 : Int32) (a3 : Int32) : T (f_X11_row q a1 a2 a3) (fun r => T (f_X12_row r.2 a1 a2 a3) (fun s => r.1 = s.1)) := by
  unfold FX at hX
  unfold FM at hM
  unfold FXI at hI
  unfold FMI at hJ
  first | (simp +contextual [f_X11_row, f_X7_isShelf, f_X7_isSort, f_X7_holdRow, b_X7_holdRow_42, f_X12_row, f_X12_isShelf, f_X12_in, b_X12_row_54, hX, hM, hI, hJ, T_bind, T_chk, T_ite, T_some, T_none, nm_eq, sI, sL, up2, sw, Int32.lt_iff_toInt_lt, Int32.le_iff_toInt_le, fx1_s, fx2_s, fx3_s, fx4_s, fx5_s, fx6_s, fx7_s, stv3_0, stv3_1, stv3_2, stv3_3, stv3_4, stv3_5, stv3_6, stv3_7, stv3_8] <;> (try omega) <;> done) | exact failed_here
theorem op_37 {q : SS} (hX : FX q) (hM : FM q) (hI : FXI q) (hJ : FMI q) (a1 : Int32) (a2 : Int32) (a3 : Int64) : T (f_X11_put q a1 a2 a3) (fun r => T (f_X12_put r.2 a1 a2 a3) (fun s => r.1 = s.1)) := by
  unfold FX at hX
  unfold FM at hM
  unfold FXI at hI
  unfold FMI at hJ
  first | (simp +contextual [f_X11_put, f_X7_refusalOfElement, f_X7_refusalOfRow, f_X7_isShelf, f_X7_isEmpty, f_X7_isRow, f_X7_isSort, f_X7_hasPlaces, f_X7_sizeOf, f_X7_set, f_X7_lowestBits, f_X12_put, f_X12_whyNoPlace, f_X12_isShelf, f_X12_in, b_X12_put_95, hX, hM, hI, hJ, T_bind, T_chk, T_ite, T_some, T_none, nm_eq, sI, sL, up2, sw, Int32.lt_iff_toInt_lt, Int32.le_iff_toInt_le, fx1_s, fx2_s, fx3_s, fx4_s, fx5_s, fx6_s, fx7_s, stv3_0, stv3_1, stv3_2, stv3_3, stv3_4, stv3_5, stv3_6, stv3_7, stv3_8] <;> (try omega) <;> done) | exact failed_here
theorem op_38 {q : SS} (hX : FX q) (hM : FM q) (hI : FXI q) (hJ : FMI q) (a1 : Int32) (a2 : Int32) : T (f_X11_element q a1 a2) (fun r => T (f_X12_element q a1 a2) (fun s => r = s)) := by
  unfold FX at hX
  unfold FM at hM
  unfold FXI at hI
  unfold FMI at hJ
  first | (simp +contextual [f_X11_element, f_X7_refusalOfElement, f_X7_refusalOfRow, f_X7_isShelf, f_X7_isEmpty, f_X7_isRow, f_X7_isSort, f_X7_hasPlaces, f_X7_sizeOf, f_X7_get, f_X12_element, f_X12_whyNoPlace, f_X12_isShelf, f_X12_in, hX, hM, hI, hJ, T_bind, T_chk, T_ite, T_some, T_none, nm_eq, sI, sL, up2, sw, Int32.lt_iff_toInt_lt, Int32.le_iff_toInt_le, fx1_s, fx2_s, fx3_s, fx4_s, fx5_s, fx6_s, fx7_s, stv3_0, stv3_1, stv3_2, stv3_3, stv3_4, stv3_5, stv3_6, stv3_7, stv3_8] <;> (try omega) <;> done) | exact failed_here
theorem op_39 {q : SS} (hX : FX q) (hM : FM q) (hI : FXI q) (hJ : FMI q) (a1 : Int32) (a2 : Int32) (a3 : Int32) (a4 : Int32) (a5 : Int32) : T (f_X11_shift q a1 a2 a3 a4 a5) (fun r => T (f_X12_shift r.2 a1 a2 a3 a4 a5) (fun s => r.1 = s.1)) := by
  unfold FX at hX
  unfold FM at hM
  unfold FXI at hI
  unfold FMI at hJ
  first | (simp +contextual [f_X11_shift, f_X7_refusalOfPair, f_X7_isShelf, f_X7_isEmpty, f_X7_isRow, f_X7_isSort, f_X7_hasPlaces, f_X7_sizeOf, f_X7_copy, f_X12_shift, f_X12_isShelf, f_X12_in, b_X12_shift_113, b_X12_shift_150, hX, hM, hI, hJ, T_bind, T_chk, T_ite, T_some, T_none, nm_eq, sI, sL, up2, sw, Int32.lt_iff_toInt_lt, Int32.le_iff_toInt_le, fx1_s, fx2_s, fx3_s, fx4_s, fx5_s, fx6_s, fx7_s, stv3_0, stv3_1, stv3_2, stv3_3, stv3_4, stv3_5, stv3_6, stv3_7, stv3_8] <;> (try omega) <;> done) | exact failed_here
theorem op_40 {q : SS} (hX : FX q) (hM : FM q) (hI : FXI q) (hJ : FMI q) (a1 : Int32) (a2 : Int32) : T (f_X11_taken q a1 a2) (fun r => T (f_X12_taken q a1 a2) (fun s => r = s)) := by
  unfold FX at hX
  unfold FM at hM
  unfold FXI at hI
  unfold FMI at hJ
  first | (simp +contextual [f_X11_taken, f_X7_isShelf, f_X3_isKind, f_X7_isEmpty, f_X7_isRow, f_X7_isSort, f_X7_bodyOn, f_X3_kindOf, f_X3_isBody, b_X11_taken_64, f_X3_isUnder, b_X3_isUnder_4, f_X12_taken, f_X12_isShelf, f_X12_in, f_X12_isUnder, b_X12_isUnder_56, b_X12_isUnder_19, b_X12_isUnder_34, b_X12_isUnder_44, hX, hM, hI, hJ, T_bind, T_chk, T_ite, T_some, T_none, nm_eq, sI, sL, up2, sw, Int32.lt_iff_toInt_lt, Int32.le_iff_toInt_le, fx1_s, fx2_s, fx3_s, fx4_s, fx5_s, fx6_s, fx7_s, stv3_0, stv3_1, stv3_2, stv3_3, stv3_4, stv3_5, stv3_6, stv3_7, stv3_8] <;> (try omega) <;> done) | exact failed_here
theorem op_41 {q : SS} (hX : FX q) (hM : FM q) (hI : FXI q) (hJ : FMI q) (a1 : Int32) : T (f_X11_count q a1) (fun r => T (f_X12_count q a1) (fun s => r = s)) := by
  unfold FX at hX
  unfold FM at hM
  unfold FXI at hI
  unfold FMI at hJ
  first | (simp +contextual [f_X11_count, f_X10_people, f_X10_tickets, f_X5_tapeLength, f_X0_done, f_X3_bodies, f_X12_count, hX, hM, hI, hJ, T_bind, T_chk, T_ite, T_some, T_none, nm_eq, sI, sL, up2, sw, Int32.lt_iff_toInt_lt, Int32.le_iff_toInt_le, fx1_s, fx2_s, fx3_s, fx4_s, fx5_s, fx6_s, fx7_s, stv3_0, stv3_1, stv3_2, stv3_3, stv3_4, stv3_5, stv3_6, stv3_7, stv3_8] <;> (try omega) <;> done) | exact failed_here
theorem i_vc : Claimed_1_1 ∧ Claimed_1_2 := sorry

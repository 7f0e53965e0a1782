def f_X12_mend (q : SS) (a1 : Int32) (a2 : Int32) (a3 : Int32) : Option (Int32 × SS) :=
  (f_X12_isPlace q a1 a2).bind fun r1 =>
  if r1 = 0 then
  (some ((-1 : Int32), q))
  else
  ((f_X12_mayHave q a2 a3).bind fun r2 =>
  if r2 = 0 then
  (some ((-1 : Int32), q))
  else
  ((f_X12_changes q a2 a1 a3).bind fun r3 =>
  some (r3.1, r3.2)))
theorem e_X12_mend {E : EE} (hE : GE E) (q : SS) (a1 : Int32) (a2 : Int32) (a3 : Int32) : R E (κI E) 3 205 0 [(0, .ref 60), (1, .int a1), (2, .int a2), (3, .int a3)] [] q (f_X12_mend q a1 a2 a3) := by
  unfold f_X12_mend
  refine r_aload_n (x := 60) dX12_mend_0 rfl ?_
  refine r_iload_n (x := a1) dX12_mend_1 rfl ?_
  refine r_iload_n (x := a2) dX12_mend_2 rfl ?_
  refine r_calli (k := 0) (idx := 159) (y := 203) (as := [.ref 60, .int a1, .int a2]) (rest := []) (L0 := [(0, .ref 60), (1, .int a1), (2, .int a2)]) dX12_mend_3 rfl rfl rfl rfl rfl (vok_v (ob_60 hE) rfl) rfl (r_dep (by decide) (e_X12_isPlace hE q a1 a2)) (fun r1 => ?_)
  refine r_if_eq (t := 28) dX12_mend_6 rfl (fun h5 => ?_) (fun h5 => ?_)
  · refine r_iconst (v := (-1 : Int32)) dX12_mend_28 rfl ?_
    exact r_ireturn dX12_mend_29 rfl rfl
  · refine r_aload_n (x := 60) dX12_mend_9 rfl ?_
    refine r_iload_n (x := a2) dX12_mend_10 rfl ?_
    refine r_iload_n (x := a3) dX12_mend_11 rfl ?_
    refine r_calli (k := 0) (idx := 162) (y := 204) (as := [.ref 60, .int a2, .int a3]) (rest := []) (L0 := [(0, .ref 60), (1, .int a2), (2, .int a3)]) dX12_mend_12 rfl rfl rfl rfl rfl (vok_v (ob_60 hE) rfl) rfl (r_dep (by decide) (e_X12_mayHave hE q a2 a3)) (fun r2 => ?_)
    refine r_if_eq (t := 28) dX12_mend_15 rfl (fun h4 => ?_) (fun h4 => ?_)
    · refine r_iconst (v := (-1 : Int32)) dX12_mend_28 rfl ?_
      exact r_ireturn dX12_mend_29 rfl rfl
    · refine r_aload_n (x := 60) dX12_mend_18 rfl ?_
      refine r_iload_n (x := a2) dX12_mend_19 rfl ?_
      refine r_iload_n (x := a1) dX12_mend_20 rfl ?_
      refine r_iload_n (x := a3) dX12_mend_21 rfl ?_
      refine r_callI (k := 0) (idx := 165) (y := 200) (as := [.ref 60, .int a2, .int a1, .int a3]) (rest := []) (L0 := [(0, .ref 60), (1, .int a2), (2, .int a1), (3, .int a3)]) dX12_mend_22 rfl rfl rfl rfl rfl (vok_v (ob_60 hE) rfl) rfl (r_dep (by decide) (e_X12_changes hE q a2 a1 a3)) (fun r3 => ?_)
      refine r_goto (t := 29) dX12_mend_25 rfl ?_
      exact r_ireturn dX12_mend_29 rfl rfl
def f_X10_addTicket (q : SS) (a1 : Int32) (a2 : Int32) (a3 : Int32) : Option (Int32 × SS) :=
  if (q.1 1 2) < (12 : Int32) then
  (nm (sI q 1 2 ((q.1 1 2) + (1 : Int32))) fun q1 =>
  (f_X10_set q1 (4 : Int32) ((q1.1 1 2) - (1 : Int32)) a1).bind fun r2 =>
  (f_X10_set r2 (5 : Int32) ((r2.1 1 2) - (1 : Int32)) a2).bind fun r3 =>
  (f_X10_set r3 (6 : Int32) ((r3.1 1 2) - (1 : Int32)) a3).bind fun r4 =>
  some (((r4.1 1 2) - (1 : Int32)), r4))
  else
  (some ((-3 : Int32), q))
theorem e_X10_addTicket {E : EE} (hE : GE E) (q : SS) (a1 : Int32) (a2 : Int32) (a3 : Int32) : R E (κI E) 2 137 0 [(0, .ref 1), (1, .int a1), (2, .int a2), (3, .int a3)] [] q (f_X10_addTicket q a1 a2 a3) := by
  unfold f_X10_addTicket
  refine r_aload_n (x := 1) dX10_addTicket_0 rfl ?_
  refine r_getI dX10_addTicket_1 (ff_10_20_1 hE) (by decide) ?_
  refine r_bipush (v := (12 : Int32)) dX10_addTicket_4 rfl ?_
  refine r_icmp_lt (t := 12) dX10_addTicket_6 rfl (fun h5 => ?_) (fun h5 => ?_)
  · refine r_aload_n (x := 1) dX10_addTicket_12 rfl ?_
    refine r_dup dX10_addTicket_13 rfl ?_
    refine r_getI dX10_addTicket_14 (ff_10_20_1 hE) (by decide) ?_
    refine r_iconst (v := (1 : Int32)) dX10_addTicket_17 rfl ?_
    refine r_iadd dX10_addTicket_18 ?_
    refine r_putI dX10_addTicket_19 (ff_10_20_1 hE) ?_
    refine r_nmS fun q1 _ => ?_
    refine r_aload_n (x := 1) dX10_addTicket_22 rfl ?_
    refine r_iconst (v := (4 : Int32)) dX10_addTicket_23 rfl ?_
    refine r_aload_n (x := 1) dX10_addTicket_24 rfl ?_
    refine r_getI dX10_addTicket_25 (ff_10_20_1 hE) (by decide) ?_
    refine r_iconst (v := (1 : Int32)) dX10_addTicket_28 rfl ?_
    refine r_isub dX10_addTicket_29 ?_
    refine r_iload_n (x := a1) dX10_addTicket_30 rfl ?_
    refine r_callV (k := 0) (idx := 42) (y := 135) (as := [.ref 1, .int (4 : Int32), .int ((q1.1 1 2) - (1 : Int32)), .int a1]) (rest := []) (L0 := [(0, .ref 1), (1, .int (4 : Int32)), (2, .int ((q1.1 1 2) - (1 : Int32))), (3, .int a1)]) dX10_addTicket_31 rfl rfl rfl rfl rfl (vok_v (ob_1 hE) rfl) rfl (r_dep (by decide) (e_X10_set hE q1 (4 : Int32) ((q1.1 1 2) - (1 : Int32)) a1)) (fun r2 => ?_)
    refine r_aload_n (x := 1) dX10_addTicket_34 rfl ?_
    refine r_iconst (v := (5 : Int32)) dX10_addTicket_35 rfl ?_
    refine r_aload_n (x := 1) dX10_addTicket_36 rfl ?_
    refine r_getI dX10_addTicket_37 (ff_10_20_1 hE) (by decide) ?_
    refine r_iconst (v := (1 : Int32)) dX10_addTicket_40 rfl ?_
    refine r_isub dX10_addTicket_41 ?_
    refine r_iload_n (x := a2) dX10_addTicket_42 rfl ?_
    refine r_callV (k := 0) (idx := 42) (y := 135) (as := [.ref 1, .int (5 : Int32), .int ((r2.1 1 2) - (1 : Int32)), .int a2]) (rest := []) (L0 := [(0, .ref 1), (1, .int (5 : Int32)), (2, .int ((r2.1 1 2) - (1 : Int32))), (3, .int a2)]) dX10_addTicket_43 rfl rfl rfl rfl rfl (vok_v (ob_1 hE) rfl) rfl (r_dep (by decide) (e_X10_set hE r2 (5 : Int32) ((r2.1 1 2) - (1 : Int32)) a2)) (fun r3 => ?_)
    refine r_aload_n (x := 1) dX10_addTicket_46 rfl ?_
    refine r_bipush (v := (6 : Int32)) dX10_addTicket_47 rfl ?_
    refine r_aload_n (x := 1) dX10_addTicket_49 rfl ?_
    refine r_getI dX10_addTicket_50 (ff_10_20_1 hE) (by decide) ?_
    refine r_iconst (v := (1 : Int32)) dX10_addTicket_53 rfl ?_
    refine r_isub dX10_addTicket_54 ?_
    refine r_iload_n (x := a3) dX10_addTicket_55 rfl ?_
    refine r_callV (k := 0) (idx := 42) (y := 135) (as := [.ref 1, .int (6 : Int32), .int ((r3.1 1 2) - (1 : Int32)), .int a3]) (rest := []) (L0 := [(0, .ref 1), (1, .int (6 : Int32)), (2, .int ((r3.1 1 2) - (1 : Int32))), (3, .int a3)]) dX10_addTicket_56 rfl rfl rfl rfl rfl (vok_v (ob_1 hE) rfl) rfl (r_dep (by decide) (e_X10_set hE r3 (6 : Int32) ((r3.1 1 2) - (1 : Int32)) a3)) (fun r4 => ?_)
    refine r_aload_n (x := 1) dX10_addTicket_59 rfl ?_
    refine r_getI dX10_addTicket_60 (ff_10_20_1 hE) (by decide) ?_
    refine r_iconst (v := (1 : Int32)) dX10_addTicket_63 rfl ?_
    refine r_isub dX10_addTicket_64 ?_
    exact r_ireturn dX10_addTicket_65 rfl rfl
  · refine r_bipush (v := (-3 : Int32)) dX10_addTicket_9 rfl ?_
    exact r_ireturn dX10_addTicket_11 rfl rfl
def f_X11_addFromRow (q : SS) (a1 : Int32) (a2 : Int32) (a3 : Int32) : Option (Int32 × SS) :=
  nm ((a2.toInt64) + ((3 : Int64) * (a3.toInt64))) fun v1 =>
  (f_X7_sizeOf q a1).bind fun r2 =>
  if (lg_cmp (v1 + (3 : Int64)) (r2.toInt64)) ≤ 0 then
  ((f_X7_get q a1 (v1.toInt32)).bind fun r3 =>
  nm (r3.toInt32) fun v4 =>
  (f_X7_get q a1 ((v1.toInt32) + (1 : Int32))).bind fun r5 =>
  nm (r5.toInt32) fun v6 =>
  (f_X7_get q a1 ((v1.toInt32) + (2 : Int32))).bind fun r7 =>
  nm (r7.toInt32) fun v8 =>
  (f_X10_mayBe q (4 : Int32) v4).bind fun r9 =>
  if r9 = 0 then
  (some ((0 : Int32), q))
  else
  ((f_X10_mayBe q (5 : Int32) v6).bind fun r10 =>
  if r10 = 0 then
  (some ((0 : Int32), q))
  else
  ((f_X10_mayBe q (6 : Int32) v8).bind fun r11 =>
  if r11 = 0 then
  (some ((0 : Int32), q))
  else
  ((f_X10_addTicket q v4 v6 v8).bind fun r12 =>
  if r12.1 = (-3 : Int32) then
  (some ((0 : Int32), r12.2))
  else
  (some ((1 : Int32), r12.2))))))
  else
  (some ((0 : Int32), q))
theorem e_X11_addFromRow {E : EE} (hE : GE E) (q : SS) (a1 : Int32) (a2 : Int32) (a3 : Int32) : R E (κI E) 5 142 0 [(0, .ref 0), (1, .int a1), (2, .int a2), (3, .int a3)] [] q (f_X11_addFromRow q a1 a2 a3) := by
  unfold f_X11_addFromRow
  refine r_iload_n (x := a2) dX11_addFromRow_0 rfl ?_
  refine r_i2l dX11_addFromRow_1 ?_
  refine r_ldc2 (v := (3 : Int64)) dX11_addFromRow_2 rfl ?_
  refine r_iload_n (x := a3) dX11_addFromRow_5 rfl ?_
  refine r_i2l dX11_addFromRow_6 ?_
  refine r_lmul dX11_addFromRow_7 ?_
  refine r_ladd dX11_addFromRow_8 ?_
  refine r_nmL fun v1 _ => ?_
  refine r_lstore (L2 := [(0, .ref 0), (1, .int a1), (2, .int a2), (3, .int a3), (4, .long v1)]) dX11_addFromRow_9 rfl rfl ?_
  refine r_lload (x := v1) dX11_addFromRow_11 rfl ?_
  refine r_ldc2 (v := (3 : Int64)) dX11_addFromRow_13 rfl ?_
  refine r_ladd dX11_addFromRow_16 ?_
  refine r_aload_n (x := 0) dX11_addFromRow_17 rfl ?_
  refine r_getA dX11_addFromRow_18 (fa_11_42_0 hE) ?_
  refine r_iload_n (x := a1) dX11_addFromRow_21 rfl ?_
  refine r_calli (k := 0) (idx := 119) (y := 82) (as := [.ref 26, .int a1]) (rest := [.long (v1 + (3 : Int64))]) (L0 := [(0, .ref 26), (1, .int a1)]) dX11_addFromRow_22 rfl rfl rfl rfl rfl (vok_v (ob_26 hE) rfl) rfl (r_dep (by decide) (e_X7_sizeOf hE q a1)) (fun r2 => ?_)
  refine r_i2l dX11_addFromRow_25 ?_
  refine r_lcmp dX11_addFromRow_26 ?_
  refine r_if_le (t := 32) dX11_addFromRow_27 rfl (fun h17 => ?_) (fun h17 => ?_)
  · refine r_aload_n (x := 0) dX11_addFromRow_32 rfl ?_
    refine r_getA dX11_addFromRow_33 (fa_11_42_0 hE) ?_
    refine r_iload_n (x := a1) dX11_addFromRow_36 rfl ?_
    refine r_lload (x := v1) dX11_addFromRow_37 rfl ?_
    refine r_l2i dX11_addFromRow_39 ?_
    refine r_calll (k := 0) (idx := 122) (y := 92) (as := [.ref 26, .int a1, .int (v1.toInt32)]) (rest := []) (L0 := [(0, .ref 26), (1, .int a1), (2, .int (v1.toInt32))]) dX11_addFromRow_40 rfl rfl rfl rfl rfl (vok_v (ob_26 hE) rfl) rfl (r_dep (by decide) (e_X7_get hE q a1 (v1.toInt32))) (fun r3 => ?_)
    refine r_l2i dX11_addFromRow_43 ?_
    refine r_nmI fun v4 _ => ?_
    refine r_istore (L2 := [(0, .ref 0), (1, .int a1), (2, .int a2), (3, .int a3), (4, .long v1), (6, .int v4)]) dX11_addFromRow_44 rfl rfl ?_
    refine r_aload_n (x := 0) dX11_addFromRow_46 rfl ?_
    refine r_getA dX11_addFromRow_47 (fa_11_42_0 hE) ?_
    refine r_iload_n (x := a1) dX11_addFromRow_50 rfl ?_
    refine r_lload (x := v1) dX11_addFromRow_51 rfl ?_
    refine r_l2i dX11_addFromRow_53 ?_
    refine r_iconst (v := (1 : Int32)) dX11_addFromRow_54 rfl ?_
    refine r_iadd dX11_addFromRow_55 ?_
    refine r_calll (k := 0) (idx := 122) (y := 92) (as := [.ref 26, .int a1, .int ((v1.toInt32) + (1 : Int32))]) (rest := []) (L0 := [(0, .ref 26), (1, .int a1), (2, .int ((v1.toInt32) + (1 : Int32)))]) dX11_addFromRow_56 rfl rfl rfl rfl rfl (vok_v (ob_26 hE) rfl) rfl (r_dep (by decide) (e_X7_get hE q a1 ((v1.toInt32) + (1 : Int32)))) (fun r5 => ?_)
    refine r_l2i dX11_addFromRow_59 ?_
    refine r_nmI fun v6 _ => ?_
    refine r_istore (L2 := [(0, .ref 0), (1, .int a1), (2, .int a2), (3, .int a3), (4, .long v1), (6, .int v4), (7, .int v6)]) dX11_addFromRow_60 rfl rfl ?_
    refine r_aload_n (x := 0) dX11_addFromRow_62 rfl ?_
    refine r_getA dX11_addFromRow_63 (fa_11_42_0 hE) ?_
    refine r_iload_n (x := a1) dX11_addFromRow_66 rfl ?_
    refine r_lload (x := v1) dX11_addFromRow_67 rfl ?_
    refine r_l2i dX11_addFromRow_69 ?_
    refine r_iconst (v := (2 : Int32)) dX11_addFromRow_70 rfl ?_
    refine r_iadd dX11_addFromRow_71 ?_
    refine r_calll (k := 0) (idx := 122) (y := 92) (as := [.ref 26, .int a1, .int ((v1.toInt32) + (2 : Int32))]) (rest := []) (L0 := [(0, .ref 26), (1, .int a1), (2, .int ((v1.toInt32) + (2 : Int32)))]) dX11_addFromRow_72 rfl rfl rfl rfl rfl (vok_v (ob_26 hE) rfl) rfl (r_dep (by decide) (e_X7_get hE q a1 ((v1.toInt32) + (2 : Int32)))) (fun r7 => ?_)
    refine r_l2i dX11_addFromRow_75 ?_
    refine r_nmI fun v8 _ => ?_
    refine r_istore (L2 := [(0, .ref 0), (1, .int a1), (2, .int a2), (3, .int a3), (4, .long v1), (6, .int v4), (7, .int v6), (8, .int v8)]) dX11_addFromRow_76 rfl rfl ?_
    refine r_aload_n (x := 0) dX11_addFromRow_78 rfl ?_
    refine r_getA dX11_addFromRow_79 (fa_11_10_0 hE) ?_
    refine r_iconst (v := (4 : Int32)) dX11_addFromRow_82 rfl ?_
    refine r_iload (x := v4) dX11_addFromRow_83 rfl ?_
    refine r_calli (k := 0) (idx := 94) (y := 133) (as := [.ref 1, .int (4 : Int32), .int v4]) (rest := []) (L0 := [(0, .ref 1), (1, .int (4 : Int32)), (2, .int v4)]) dX11_addFromRow_85 rfl rfl rfl rfl rfl (vok_v (ob_1 hE) rfl) rfl (r_dep (by decide) (e_X10_mayBe hE q (4 : Int32) v4)) (fun r9 => ?_)
    refine r_if_eq (t := 118) dX11_addFromRow_88 rfl (fun h16 => ?_) (fun h16 => ?_)
    · refine r_iconst (v := (0 : Int32)) dX11_addFromRow_118 rfl ?_
      exact r_ireturn dX11_addFromRow_119 rfl rfl
    · refine r_aload_n (x := 0) dX11_addFromRow_91 rfl ?_
      refine r_getA dX11_addFromRow_92 (fa_11_10_0 hE) ?_
      refine r_iconst (v := (5 : Int32)) dX11_addFromRow_95 rfl ?_
      refine r_iload (x := v6) dX11_addFromRow_96 rfl ?_
      refine r_calli (k := 0) (idx := 94) (y := 133) (as := [.ref 1, .int (5 : Int32), .int v6]) (rest := []) (L0 := [(0, .ref 1), (1, .int (5 : Int32)), (2, .int v6)]) dX11_addFromRow_98 rfl rfl rfl rfl rfl (vok_v (ob_1 hE) rfl) rfl (r_dep (by decide) (e_X10_mayBe hE q (5 : Int32) v6)) (fun r10 => ?_)
      refine r_if_eq (t := 118) dX11_addFromRow_101 rfl (fun h15 => ?_) (fun h15 => ?_)
      · refine r_iconst (v := (0 : Int32)) dX11_addFromRow_118 rfl ?_
        exact r_ireturn dX11_addFromRow_119 rfl rfl
      · refine r_aload_n (x := 0) dX11_addFromRow_104 rfl ?_
        refine r_getA dX11_addFromRow_105 (fa_11_10_0 hE) ?_
        refine r_bipush (v := (6 : Int32)) dX11_addFromRow_108 rfl ?_
        refine r_iload (x := v8) dX11_addFromRow_110 rfl ?_
        refine r_calli (k := 0) (idx := 94) (y := 133) (as := [.ref 1, .int (6 : Int32), .int v8]) (rest := []) (L0 := [(0, .ref 1), (1, .int (6 : Int32)), (2, .int v8)]) dX11_addFromRow_112 rfl rfl rfl rfl rfl (vok_v (ob_1 hE) rfl) rfl (r_dep (by decide) (e_X10_mayBe hE q (6 : Int32) v8)) (fun r11 => ?_)
        refine r_if_ne (t := 120) dX11_addFromRow_115 rfl (fun h14 => ?_) (fun h14 => ?_)
        · refine r_iconst (v := (0 : Int32)) dX11_addFromRow_118 rfl ?_
          exact r_ireturn dX11_addFromRow_119 rfl rfl
        · refine r_aload_n (x := 0) dX11_addFromRow_120 rfl ?_
          refine r_getA dX11_addFromRow_121 (fa_11_10_0 hE) ?_
          refine r_iload (x := v4) dX11_addFromRow_124 rfl ?_
          refine r_iload (x := v6) dX11_addFromRow_126 rfl ?_
          refine r_iload (x := v8) dX11_addFromRow_128 rfl ?_
          refine r_callI (k := 0) (idx := 102) (y := 137) (as := [.ref 1, .int v4, .int v6, .int v8]) (rest := []) (L0 := [(0, .ref 1), (1, .int v4), (2, .int v6), (3, .int v8)]) dX11_addFromRow_130 rfl rfl rfl rfl rfl (vok_v (ob_1 hE) rfl) rfl (r_dep (by decide) (e_X10_addTicket hE q v4 v6 v8)) (fun r12 => ?_)
          refine r_bipush (v := (-3 : Int32)) dX11_addFromRow_133 rfl ?_
          refine r_icmp_eq (t := 142) dX11_addFromRow_135 rfl (fun h13 => ?_) (fun h13 => ?_)
          · refine r_iconst (v := (0 : Int32)) dX11_addFromRow_142 rfl ?_
            exact r_ireturn dX11_addFromRow_143 rfl rfl
          · refine r_iconst (v := (1 : Int32)) dX11_addFromRow_138 rfl ?_
            refine r_goto (t := 143) dX11_addFromRow_139 rfl ?_
            exact r_ireturn dX11_addFromRow_143 rfl rfl
  · refine r_iconst (v := (0 : Int32)) dX11_addFromRow_30 rfl ?_
    exact r_ireturn dX11_addFromRow_31 rfl rfl
def b_X11_tickets_63 : SS → Int32 → Int32 → Int32 → Int32 → Int32 → Option (Int32 × SS) :=
  fx6 (fun (rec_63 : SS → Int32 → Int32 → Int32 → Int32 → Int32 → Option (Int32 × SS)) (q : SS) (l1 : Int32) (l2 : Int32) (l3 : Int32) (l5 : Int32) (l6 : Int32) =>
  if l3 ≤ l6 then
  (some (l5, q))
  else
  ((f_X11_addFromRow q l1 l2 l6).bind fun r3 =>
  if r3.1 = 0 then
  (some (l5, r3.2))
  else
  (rec_63 r3.2 l1 l2 l3 (l5 + (1 : Int32)) (l6 + (1 : Int32))))) FU
theorem rb_X11_tickets_63 {E : EE} (hE : GE E) (q : SS) (l1 : Int32) (l2 : Int32) (l3 : Int32) (l5 : Int32) (l6 : Int32) : R E (κI E) 6 141 63 [(0, .ref 0), (1, .int l1), (2, .int l2), (3, .int l3), (5, .int l5), (6, .int l6)] [] q (b_X11_tickets_63 q l1 l2 l3 l5 l6) := by
  unfold b_X11_tickets_63
  refine fx6_ok (P := fun q l1 l2 l3 l5 l6 o => R E (κI E) 6 141 63 [(0, .ref 0), (1, .int l1), (2, .int l2), (3, .int l3), (5, .int l5), (6, .int l6)] [] q o) (fun _ _ _ _ _ _ => r_no) (fun rec_63 hrec_63 q l1 l2 l3 l5 l6 => ?_) _ _ _ _ _ _ _
  refine r_iload (x := l6) dX11_tickets_63 rfl ?_
  refine r_iload_n (x := l3) dX11_tickets_65 rfl ?_
  refine r_icmp_ge (t := 89) dX11_tickets_66 rfl (fun h5 => ?_) (fun h5 => ?_)
  · refine r_iload (x := l5) dX11_tickets_89 rfl ?_
    exact r_ireturn dX11_tickets_91 rfl rfl
  · refine r_aload_n (x := 0) dX11_tickets_69 rfl ?_
    refine r_iload_n (x := l1) dX11_tickets_70 rfl ?_
    refine r_iload_n (x := l2) dX11_tickets_71 rfl ?_
    refine r_iload (x := l6) dX11_tickets_72 rfl ?_
    refine r_callI (k := 0) (idx := 113) (y := 142) (as := [.ref 0, .int l1, .int l2, .int l6]) (rest := []) (L0 := [(0, .ref 0), (1, .int l1), (2, .int l2), (3, .int l6)]) dX11_tickets_74 rfl rfl rfl rfl rfl (vok_v (ob_0 hE) rfl) rfl (r_dep (by decide) (e_X11_addFromRow hE q l1 l2 l6)) (fun r3 => ?_)
    refine r_if_eq (t := 89) dX11_tickets_77 rfl (fun h4 => ?_) (fun h4 => ?_)
    · refine r_iload (x := l5) dX11_tickets_89 rfl ?_
      exact r_ireturn dX11_tickets_91 rfl rfl
    · refine r_iinc (x := l5) (v := (l5 + (1 : Int32))) (L2 := [(0, .ref 0), (1, .int l1), (2, .int l2), (3, .int l3), (5, .int (l5 + (1 : Int32))), (6, .int l6)]) dX11_tickets_80 rfl rfl rfl rfl ?_
      refine r_iinc (x := l6) (v := (l6 + (1 : Int32))) (L2 := [(0, .ref 0), (1, .int l1), (2, .int l2), (3, .int l3), (5, .int (l5 + (1 : Int32))), (6, .int (l6 + (1 : Int32)))]) dX11_tickets_83 rfl rfl rfl rfl ?_
      refine r_goto (t := 63) dX11_tickets_86 rfl ?_
      exact r_sub (L' := [(0, .ref 0), (1, .int l1), (2, .int l2), (3, .int l3), (5, .int (l5 + (1 : Int32))), (6, .int (l6 + (1 : Int32)))]) (sub_c rfl (sub_c rfl (sub_c rfl (sub_c rfl (sub_c rfl (sub_c rfl sub_n)))))) (hrec_63 r3.2 l1 l2 l3 (l5 + (1 : Int32)) (l6 + (1 : Int32)))
def f_X11_tickets (q : SS) (a1 : Int32) (a2 : Int32) (a3 : Int32) : Option (Int32 × SS) :=
  (f_X7_isShelf q a1).bind fun r1 =>
  if r1 = 0 then
  (some ((-1 : Int32), q))
  else
  (if a3 < (1 : Int32) then
  (some ((-1 : Int32), q))
  else
  (if a3 ≤ (12 : Int32) then
  ((f_X7_refusalOfBytes q a1).bind fun r2 =>
  if r2 = (-12 : Int32) then
  (some ((-12 : Int32), q))
  else
  (if r2 = (-11 : Int32) then
  (some ((0 : Int32), q))
  else
  (if 0 ≤ a2 then
  (b_X11_tickets_63 q a1 a2 a3 (0 : Int32) (0 : Int32))
  else
  (some ((0 : Int32), q)))))
  else
  (some ((-1 : Int32), q))))
theorem e_X11_tickets {E : EE} (hE : GE E) (q : SS) (a1 : Int32) (a2 : Int32) (a3 : Int32) : R E (κI E) 6 141 0 [(0, .ref 0), (1, .int a1), (2, .int a2), (3, .int a3)] [] q (f_X11_tickets q a1 a2 a3) := by
  unfold f_X11_tickets
  refine r_aload_n (x := 0) dX11_tickets_0 rfl ?_
  refine r_getA dX11_tickets_1 (fa_11_42_0 hE) ?_
  refine r_iload_n (x := a1) dX11_tickets_4 rfl ?_
  refine r_calli (k := 0) (idx := 106) (y := 79) (as := [.ref 26, .int a1]) (rest := []) (L0 := [(0, .ref 26), (1, .int a1)]) dX11_tickets_5 rfl rfl rfl rfl rfl (vok_v (ob_26 hE) rfl) rfl (r_dep (by decide) (e_X7_isShelf hE q a1)) (fun r1 => ?_)
  refine r_if_eq (t := 22) dX11_tickets_8 rfl (fun h11 => ?_) (fun h11 => ?_)
  · refine r_iconst (v := (-1 : Int32)) dX11_tickets_22 rfl ?_
    exact r_ireturn dX11_tickets_23 rfl rfl
  · refine r_iload_n (x := a3) dX11_tickets_11 rfl ?_
    refine r_iconst (v := (1 : Int32)) dX11_tickets_12 rfl ?_
    refine r_icmp_lt (t := 22) dX11_tickets_13 rfl (fun h10 => ?_) (fun h10 => ?_)
    · refine r_iconst (v := (-1 : Int32)) dX11_tickets_22 rfl ?_
      exact r_ireturn dX11_tickets_23 rfl rfl
    · refine r_iload_n (x := a3) dX11_tickets_16 rfl ?_
      refine r_bipush (v := (12 : Int32)) dX11_tickets_17 rfl ?_
      refine r_icmp_le (t := 24) dX11_tickets_19 rfl (fun h9 => ?_) (fun h9 => ?_)
      · refine r_aload_n (x := 0) dX11_tickets_24 rfl ?_
        refine r_getA dX11_tickets_25 (fa_11_42_0 hE) ?_
        refine r_iload_n (x := a1) dX11_tickets_28 rfl ?_
        refine r_calli (k := 0) (idx := 110) (y := 85) (as := [.ref 26, .int a1]) (rest := []) (L0 := [(0, .ref 26), (1, .int a1)]) dX11_tickets_29 rfl rfl rfl rfl rfl (vok_v (ob_26 hE) rfl) rfl (r_dep (by decide) (e_X7_refusalOfBytes hE q a1)) (fun r2 => ?_)
        refine r_istore (L2 := [(0, .ref 0), (1, .int a1), (2, .int a2), (3, .int a3), (4, .int r2)]) dX11_tickets_32 rfl rfl ?_
        refine r_iload (x := r2) dX11_tickets_34 rfl ?_
        refine r_bipush (v := (-12 : Int32)) dX11_tickets_36 rfl ?_
        refine r_icmp_ne (t := 44) dX11_tickets_38 rfl (fun h8 => ?_) (fun h8 => ?_)
        · refine r_bipush (v := (-12 : Int32)) dX11_tickets_41 rfl ?_
          exact r_ireturn dX11_tickets_43 rfl rfl
        · refine r_iload (x := r2) dX11_tickets_44 rfl ?_
          refine r_bipush (v := (-11 : Int32)) dX11_tickets_46 rfl ?_
          refine r_icmp_eq (t := 55) dX11_tickets_48 rfl (fun h7 => ?_) (fun h7 => ?_)
          · refine r_iconst (v := (0 : Int32)) dX11_tickets_55 rfl ?_
            exact r_ireturn dX11_tickets_56 rfl rfl
          · refine r_iload_n (x := a2) dX11_tickets_51 rfl ?_
            refine r_if_ge (t := 57) dX11_tickets_52 rfl (fun h6 => ?_) (fun h6 => ?_)
            · refine r_iconst (v := (0 : Int32)) dX11_tickets_57 rfl ?_
              refine r_istore (L2 := [(0, .ref 0), (1, .int a1), (2, .int a2), (3, .int a3), (4, .int r2), (5, .int (0 : Int32))]) dX11_tickets_58 rfl rfl ?_
              refine r_iconst (v := (0 : Int32)) dX11_tickets_60 rfl ?_
              refine r_istore (L2 := [(0, .ref 0), (1, .int a1), (2, .int a2), (3, .int a3), (4, .int r2), (5, .int (0 : Int32)), (6, .int (0 : Int32))]) dX11_tickets_61 rfl rfl ?_
              exact r_sub (L' := [(0, .ref 0), (1, .int a1), (2, .int a2), (3, .int a3), (5, .int (0 : Int32)), (6, .int (0 : Int32))]) (sub_c rfl (sub_c rfl (sub_c rfl (sub_c rfl (sub_c rfl (sub_c rfl sub_n)))))) (rb_X11_tickets_63 hE q a1 a2 a3 (0 : Int32) (0 : Int32))
            · refine r_iconst (v := (0 : Int32)) dX11_tickets_55 rfl ?_
              exact r_ireturn dX11_tickets_56 rfl rfl
      · refine r_iconst (v := (-1 : Int32)) dX11_tickets_22 rfl ?_
        exact r_ireturn dX11_tickets_23 rfl rfl
def f_X12_areTicket (q : SS) (a1 : Int32) (a2 : Int32) : Option Int32 :=
  (f_X12_isOne q a1).bind fun r1 =>
  if r1 = 0 then
  (some (0 : Int32))
  else
  ((f_X12_in q a2 (0 : Int32) (1 : Int32)).bind fun r2 =>
  if r2 = 0 then
  (some (0 : Int32))
  else
  (some (1 : Int32)))
theorem e_X12_areTicket {E : EE} (hE : GE E) (q : SS) (a1 : Int32) (a2 : Int32) : R E (κi E q) 2 194 0 [(0, .ref 60), (1, .int a1), (2, .int a2)] [] q (f_X12_areTicket q a1 a2) := by
  unfold f_X12_areTicket
  refine r_aload_n (x := 60) dX12_areTicket_0 rfl ?_
  refine r_iload_n (x := a1) dX12_areTicket_1 rfl ?_
  refine r_calli (k := 0) (idx := 125) (y := 191) (as := [.ref 60, .int a1]) (rest := []) (L0 := [(0, .ref 60), (1, .int a1)]) dX12_areTicket_2 rfl rfl rfl rfl rfl (vok_v (ob_60 hE) rfl) rfl (r_dep (by decide) (e_X12_isOne hE q a1)) (fun r1 => ?_)
  refine r_if_eq (t := 21) dX12_areTicket_5 rfl (fun h4 => ?_) (fun h4 => ?_)
  · refine r_iconst (v := (0 : Int32)) dX12_areTicket_21 rfl ?_
    exact r_ireturn dX12_areTicket_22 rfl rfl
  · refine r_iload_n (x := a2) dX12_areTicket_8 rfl ?_
    refine r_iconst (v := (0 : Int32)) dX12_areTicket_9 rfl ?_
    refine r_iconst (v := (1 : Int32)) dX12_areTicket_10 rfl ?_
    refine r_calli (k := 2) (idx := 118) (y := 189) (as := [.int a2, .int (0 : Int32), .int (1 : Int32)]) (rest := []) (L0 := [(0, .int a2), (1, .int (0 : Int32)), (2, .int (1 : Int32))]) dX12_areTicket_11 rfl rfl rfl rfl rfl vok_s rfl (r_dep (by decide) (e_X12_in hE q a2 (0 : Int32) (1 : Int32))) (fun r2 => ?_)
    refine r_if_eq (t := 21) dX12_areTicket_14 rfl (fun h3 => ?_) (fun h3 => ?_)
    · refine r_iconst (v := (0 : Int32)) dX12_areTicket_21 rfl ?_
      exact r_ireturn dX12_areTicket_22 rfl rfl
    · refine r_iconst (v := (1 : Int32)) dX12_areTicket_17 rfl ?_
      refine r_goto (t := 22) dX12_areTicket_18 rfl ?_
      exact r_ireturn dX12_areTicket_22 rfl rfl
def f_X12_addTicket (q : SS) (a1 : Int32) (a2 : Int32) (a3 : Int32) : Option (Int32 × SS) :=
  if vin (q.1 60 6) 12 then
  nm (sI q 65 (q.1 60 6).toNatClampNeg a1) fun q1 =>
  if vin (q1.1 60 6) 12 then
  nm (sI q1 66 (q1.1 60 6).toNatClampNeg a2) fun q2 =>
  if vin (q2.1 60 6) 12 then
  nm (sI q2 67 (q2.1 60 6).toNatClampNeg a3) fun q3 =>
  nm (sI q3 60 6 ((q3.1 60 6) + (1 : Int32))) fun q4 =>
  some (((q4.1 60 6) - (1 : Int32)), q4)
  else none
  else none
  else none
theorem e_X12_addTicket {E : EE} (hE : GE E) (q : SS) (a1 : Int32) (a2 : Int32) (a3 : Int32) : R E (κI E) 0 195 0 [(0, .ref 60), (1, .int a1), (2, .int a2), (3, .int a3)] [] q (f_X12_addTicket q a1 a2 a3) := by
  unfold f_X12_addTicket
  refine r_aload_n (x := 60) dX12_addTicket_0 rfl ?_
  refine r_getA dX12_addTicket_1 (fa_12_24_60 hE) ?_
  refine r_aload_n (x := 60) dX12_addTicket_4 rfl ?_
  refine r_getI dX12_addTicket_5 (ff_12_122_60 hE) (by decide) ?_
  refine r_iload_n (x := a1) dX12_addTicket_8 rfl ?_
  refine r_iastore dX12_addTicket_9 (ar_65 hE) ?_
  refine r_nmS fun q1 _ => ?_
  refine r_aload_n (x := 60) dX12_addTicket_10 rfl ?_
  refine r_getA dX12_addTicket_11 (fa_12_27_60 hE) ?_
  refine r_aload_n (x := 60) dX12_addTicket_14 rfl ?_
  refine r_getI dX12_addTicket_15 (ff_12_122_60 hE) (by decide) ?_
  refine r_iload_n (x := a2) dX12_addTicket_18 rfl ?_
  refine r_iastore dX12_addTicket_19 (ar_66 hE) ?_
  refine r_nmS fun q2 _ => ?_
  refine r_aload_n (x := 60) dX12_addTicket_20 rfl ?_
  refine r_getA dX12_addTicket_21 (fa_12_30_60 hE) ?_
  refine r_aload_n (x := 60) dX12_addTicket_24 rfl ?_
  refine r_getI dX12_addTicket_25 (ff_12_122_60 hE) (by decide) ?_
  refine r_iload_n (x := a3) dX12_addTicket_28 rfl ?_
  refine r_iastore dX12_addTicket_29 (ar_67 hE) ?_
  refine r_nmS fun q3 _ => ?_
  refine r_aload_n (x := 60) dX12_addTicket_30 rfl ?_
  refine r_dup dX12_addTicket_31 rfl ?_
  refine r_getI dX12_addTicket_32 (ff_12_122_60 hE) (by decide) ?_
  refine r_iconst (v := (1 : Int32)) dX12_addTicket_35 rfl ?_
  refine r_iadd dX12_addTicket_36 ?_
  refine r_putI dX12_addTicket_37 (ff_12_122_60 hE) ?_
  refine r_nmS fun q4 _ => ?_
  refine r_aload_n (x := 60) dX12_addTicket_40 rfl ?_
  refine r_getI dX12_addTicket_41 (ff_12_122_60 hE) (by decide) ?_
  refine r_iconst (v := (1 : Int32)) dX12_addTicket_44 rfl ?_
  refine r_isub dX12_addTicket_45 ?_
  exact r_ireturn dX12_addTicket_46 rfl rfl
def b_X12_tickets_58 : SS → Int32 → Int32 → Int32 → Int32 → Option (Int32 × SS) :=
  fx5 (fun (rec_58 : SS → Int32 → Int32 → Int32 → Int32 → Option (Int32 × SS)) (q : SS) (l1 : Int32) (l2 : Int32) (l3 : Int32) (l4 : Int32) =>
  if l3 ≤ l4 then
  (some (l3, q))
  else
  (nm ((l2.toInt64) + (((3 : Int32) * l4).toInt64)) fun v3 =>
  if (lg_cmp v3 (0 : Int64)) < 0 then
  (some (l4, q))
  else
  (if vin l1 6 then
  if 0 ≤ (lg_cmp (v3 + (2 : Int64)) ((q.1 90 l1.toNatClampNeg).toInt64)) then
  (some (l4, q))
  else
  (if (q.1 60 6) = (12 : Int32) then
  (some (l4, q))
  else
  (nm (((60 : Int32) * l1) + (v3.toInt32)) fun v4 =>
  if vin v4 360 then
  if vin (v4 + (1 : Int32)) 360 then
  (f_X12_areTicket q ((q.2 91 v4.toNatClampNeg).toInt32) ((q.2 91 (v4 + (1 : Int32)).toNatClampNeg).toInt32)).bind fun r5 =>
  if r5 = 0 then
  (some (l4, q))
  else
  (if vin (v4 + (2 : Int32)) 360 then
  (f_X12_in q ((q.2 91 (v4 + (2 : Int32)).toNatClampNeg).toInt32) (0 : Int32) (4 : Int32)).bind fun r6 =>
  if r6 = 0 then
  (some (l4, q))
  else
  (if vin v4 360 then
  if vin (v4 + (1 : Int32)) 360 then
  if vin (v4 + (2 : Int32)) 360 then
  (f_X12_addTicket q ((q.2 91 v4.toNatClampNeg).toInt32) ((q.2 91 (v4 + (1 : Int32)).toNatClampNeg).toInt32) ((q.2 91 (v4 + (2 : Int32)).toNatClampNeg).toInt32)).bind fun r7 =>
  rec_58 r7.2 l1 l2 l3 (l4 + (1 : Int32))
  else none
  else none
  else none)
  else none)
  else none
  else none))
  else none))) FU
theorem rb_X12_tickets_58 {E : EE} (hE : GE E) (q : SS) (l1 : Int32) (l2 : Int32) (l3 : Int32) (l4 : Int32) : R E (κI E) 3 197 58 [(0, .ref 60), (1, .int l1), (2, .int l2), (3, .int l3), (4, .int l4)] [] q (b_X12_tickets_58 q l1 l2 l3 l4) := by
  unfold b_X12_tickets_58
  refine fx5_ok (P := fun q l1 l2 l3 l4 o => R E (κI E) 3 197 58 [(0, .ref 60), (1, .int l1), (2, .int l2), (3, .int l3), (4, .int l4)] [] q o) (fun _ _ _ _ _ => r_no) (fun rec_58 hrec_58 q l1 l2 l3 l4 => ?_) _ _ _ _ _ _
  refine r_iload (x := l4) dX12_tickets_58 rfl ?_
  refine r_iload_n (x := l3) dX12_tickets_60 rfl ?_
  refine r_icmp_ge (t := 205) dX12_tickets_61 rfl (fun h13 => ?_) (fun h13 => ?_)
  · refine r_iload_n (x := l3) dX12_tickets_205 rfl ?_
    exact r_ireturn dX12_tickets_206 rfl rfl
  · refine r_iload_n (x := l2) dX12_tickets_64 rfl ?_
    refine r_i2l dX12_tickets_65 ?_
    refine r_iconst (v := (3 : Int32)) dX12_tickets_66 rfl ?_
    refine r_iload (x := l4) dX12_tickets_67 rfl ?_
    refine r_imul dX12_tickets_69 ?_
    refine r_i2l dX12_tickets_70 ?_
    refine r_ladd dX12_tickets_71 ?_
    refine r_nmL fun v3 _ => ?_
    refine r_lstore (L2 := [(0, .ref 60), (1, .int l1), (2, .int l2), (3, .int l3), (4, .int l4), (5, .long v3)]) dX12_tickets_72 rfl rfl ?_
    refine r_lload (x := v3) dX12_tickets_74 rfl ?_
    refine r_lconst (v := (0 : Int64)) dX12_tickets_76 rfl ?_
    refine r_lcmp dX12_tickets_77 ?_
    refine r_if_lt (t := 107) dX12_tickets_78 rfl (fun h12 => ?_) (fun h12 => ?_)
    · refine r_iload (x := l4) dX12_tickets_107 rfl ?_
      exact r_ireturn dX12_tickets_109 rfl rfl
    · refine r_lload (x := v3) dX12_tickets_81 rfl ?_
      refine r_ldc2 (v := (2 : Int64)) dX12_tickets_83 rfl ?_
      refine r_ladd dX12_tickets_86 ?_
      refine r_aload_n (x := 60) dX12_tickets_87 rfl ?_
      refine r_getA dX12_tickets_88 (fa_12_101_60 hE) ?_
      refine r_iload_n (x := l1) dX12_tickets_91 rfl ?_
      refine r_iaload dX12_tickets_92 (ar_90 hE) ?_
      refine r_i2l dX12_tickets_93 ?_
      refine r_lcmp dX12_tickets_94 ?_
      refine r_if_ge (t := 107) dX12_tickets_95 rfl (fun h11 => ?_) (fun h11 => ?_)
      · refine r_iload (x := l4) dX12_tickets_107 rfl ?_
        exact r_ireturn dX12_tickets_109 rfl rfl
      · refine r_aload_n (x := 60) dX12_tickets_98 rfl ?_
        refine r_getI dX12_tickets_99 (ff_12_122_60 hE) (by decide) ?_
        refine r_bipush (v := (12 : Int32)) dX12_tickets_102 rfl ?_
        refine r_icmp_ne (t := 110) dX12_tickets_104 rfl (fun h10 => ?_) (fun h10 => ?_)
        · refine r_iload (x := l4) dX12_tickets_107 rfl ?_
          exact r_ireturn dX12_tickets_109 rfl rfl
        · refine r_bipush (v := (60 : Int32)) dX12_tickets_110 rfl ?_
          refine r_iload_n (x := l1) dX12_tickets_112 rfl ?_
          refine r_imul dX12_tickets_113 ?_
          refine r_lload (x := v3) dX12_tickets_114 rfl ?_
          refine r_l2i dX12_tickets_116 ?_
          refine r_iadd dX12_tickets_117 ?_
          refine r_nmI fun v4 _ => ?_
          refine r_istore (L2 := [(0, .ref 60), (1, .int l1), (2, .int l2), (3, .int l3), (4, .int l4), (5, .long v3), (7, .int v4)]) dX12_tickets_118 rfl rfl ?_
          refine r_aload_n (x := 60) dX12_tickets_120 rfl ?_
          refine r_aload_n (x := 60) dX12_tickets_121 rfl ?_
          refine r_getA dX12_tickets_122 (fa_12_104_60 hE) ?_
          refine r_iload (x := v4) dX12_tickets_125 rfl ?_
          refine r_laload dX12_tickets_127 (ar_91 hE) ?_
          refine r_l2i dX12_tickets_128 ?_
          refine r_aload_n (x := 60) dX12_tickets_129 rfl ?_
          refine r_getA dX12_tickets_130 (fa_12_104_60 hE) ?_
          refine r_iload (x := v4) dX12_tickets_133 rfl ?_
          refine r_iconst (v := (1 : Int32)) dX12_tickets_135 rfl ?_
          refine r_iadd dX12_tickets_136 ?_
          refine r_laload dX12_tickets_137 (ar_91 hE) ?_
          refine r_l2i dX12_tickets_138 ?_
          refine r_calli (k := 0) (idx := 129) (y := 194) (as := [.ref 60, .int ((q.2 91 v4.toNatClampNeg).toInt32), .int ((q.2 91 (v4 + (1 : Int32)).toNatClampNeg).toInt32)]) (rest := []) (L0 := [(0, .ref 60), (1, .int ((q.2 91 v4.toNatClampNeg).toInt32)), (2, .int ((q.2 91 (v4 + (1 : Int32)).toNatClampNeg).toInt32))]) dX12_tickets_139 rfl rfl rfl rfl rfl (vok_v (ob_60 hE) rfl) rfl (r_dep (by decide) (e_X12_areTicket hE q ((q.2 91 v4.toNatClampNeg).toInt32) ((q.2 91 (v4 + (1 : Int32)).toNatClampNeg).toInt32))) (fun r5 => ?_)
          refine r_if_eq (t := 163) dX12_tickets_142 rfl (fun h9 => ?_) (fun h9 => ?_)
          · refine r_iload (x := l4) dX12_tickets_163 rfl ?_
            exact r_ireturn dX12_tickets_165 rfl rfl
          · refine r_aload_n (x := 60) dX12_tickets_145 rfl ?_
            refine r_getA dX12_tickets_146 (fa_12_104_60 hE) ?_
            refine r_iload (x := v4) dX12_tickets_149 rfl ?_
            refine r_iconst (v := (2 : Int32)) dX12_tickets_151 rfl ?_
            refine r_iadd dX12_tickets_152 ?_
            refine r_laload dX12_tickets_153 (ar_91 hE) ?_
            refine r_l2i dX12_tickets_154 ?_
            refine r_iconst (v := (0 : Int32)) dX12_tickets_155 rfl ?_
            refine r_iconst (v := (4 : Int32)) dX12_tickets_156 rfl ?_
            refine r_calli (k := 2) (idx := 118) (y := 189) (as := [.int ((q.2 91 (v4 + (2 : Int32)).toNatClampNeg).toInt32), .int (0 : Int32), .int (4 : Int32)]) (rest := []) (L0 := [(0, .int ((q.2 91 (v4 + (2 : Int32)).toNatClampNeg).toInt32)), (1, .int (0 : Int32)), (2, .int (4 : Int32))]) dX12_tickets_157 rfl rfl rfl rfl rfl vok_s rfl (r_dep (by decide) (e_X12_in hE q ((q.2 91 (v4 + (2 : Int32)).toNatClampNeg).toInt32) (0 : Int32) (4 : Int32))) (fun r6 => ?_)
            refine r_if_ne (t := 166) dX12_tickets_160 rfl (fun h8 => ?_) (fun h8 => ?_)
            · refine r_iload (x := l4) dX12_tickets_163 rfl ?_
              exact r_ireturn dX12_tickets_165 rfl rfl
            · refine r_aload_n (x := 60) dX12_tickets_166 rfl ?_
              refine r_aload_n (x := 60) dX12_tickets_167 rfl ?_
              refine r_getA dX12_tickets_168 (fa_12_104_60 hE) ?_
              refine r_iload (x := v4) dX12_tickets_171 rfl ?_
              refine r_laload dX12_tickets_173 (ar_91 hE) ?_
              refine r_l2i dX12_tickets_174 ?_
              refine r_aload_n (x := 60) dX12_tickets_175 rfl ?_
              refine r_getA dX12_tickets_176 (fa_12_104_60 hE) ?_
              refine r_iload (x := v4) dX12_tickets_179 rfl ?_
              refine r_iconst (v := (1 : Int32)) dX12_tickets_181 rfl ?_
              refine r_iadd dX12_tickets_182 ?_
              refine r_laload dX12_tickets_183 (ar_91 hE) ?_
              refine r_l2i dX12_tickets_184 ?_
              refine r_aload_n (x := 60) dX12_tickets_185 rfl ?_
              refine r_getA dX12_tickets_186 (fa_12_104_60 hE) ?_
              refine r_iload (x := v4) dX12_tickets_189 rfl ?_
              refine r_iconst (v := (2 : Int32)) dX12_tickets_191 rfl ?_
              refine r_iadd dX12_tickets_192 ?_
              refine r_laload dX12_tickets_193 (ar_91 hE) ?_
              refine r_l2i dX12_tickets_194 ?_
              refine r_callI (k := 0) (idx := 133) (y := 195) (as := [.ref 60, .int ((q.2 91 v4.toNatClampNeg).toInt32), .int ((q.2 91 (v4 + (1 : Int32)).toNatClampNeg).toInt32), .int ((q.2 91 (v4 + (2 : Int32)).toNatClampNeg).toInt32)]) (rest := []) (L0 := [(0, .ref 60), (1, .int ((q.2 91 v4.toNatClampNeg).toInt32)), (2, .int ((q.2 91 (v4 + (1 : Int32)).toNatClampNeg).toInt32)), (3, .int ((q.2 91 (v4 + (2 : Int32)).toNatClampNeg).toInt32))]) dX12_tickets_195 rfl rfl rfl rfl rfl (vok_v (ob_60 hE) rfl) rfl (r_dep (by decide) (e_X12_addTicket hE q ((q.2 91 v4.toNatClampNeg).toInt32) ((q.2 91 (v4 + (1 : Int32)).toNatClampNeg).toInt32) ((q.2 91 (v4 + (2 : Int32)).toNatClampNeg).toInt32))) (fun r7 => ?_)
              refine r_pop dX12_tickets_198 rfl ?_
              refine r_iinc (x := l4) (v := (l4 + (1 : Int32))) (L2 := [(0, .ref 60), (1, .int l1), (2, .int l2), (3, .int l3), (4, .int (l4 + (1 : Int32))), (5, .long v3), (7, .int v4)]) dX12_tickets_199 rfl rfl rfl rfl ?_
              refine r_goto (t := 58) dX12_tickets_202 rfl ?_
              exact r_sub (L' := [(0, .ref 60), (1, .int l1), (2, .int l2), (3, .int l3), (4, .int (l4 + (1 : Int32)))]) (sub_c rfl (sub_c rfl (sub_c rfl (sub_c rfl (sub_c rfl sub_n))))) (hrec_58 r7.2 l1 l2 l3 (l4 + (1 : Int32)))
def b_X12_tickets_43 (q : SS) (l1 : Int32) (l2 : Int32) (l3 : Int32) : Option (Int32 × SS) :=
  if vin l1 6 then
  if (q.1 89 l1.toNatClampNeg) = (-1 : Int32) then
  (some ((0 : Int32), q))
  else
  (b_X12_tickets_58 q l1 l2 l3 (0 : Int32))
  else none
theorem rb_X12_tickets_43 {E : EE} (hE : GE E) (q : SS) (l1 : Int32) (l2 : Int32) (l3 : Int32) : R E (κI E) 3 197 43 [(0, .ref 60), (1, .int l1), (2, .int l2), (3, .int l3)] [] q (b_X12_tickets_43 q l1 l2 l3) := by
  unfold b_X12_tickets_43
  refine r_aload_n (x := 60) dX12_tickets_43 rfl ?_
  refine r_getA dX12_tickets_44 (fa_12_98_60 hE) ?_
  refine r_iload_n (x := l1) dX12_tickets_47 rfl ?_
  refine r_iaload dX12_tickets_48 (ar_89 hE) ?_
  refine r_iconst (v := (-1 : Int32)) dX12_tickets_49 rfl ?_
  refine r_icmp_ne (t := 55) dX12_tickets_50 rfl (fun h14 => ?_) (fun h14 => ?_)
  · refine r_iconst (v := (0 : Int32)) dX12_tickets_53 rfl ?_
    exact r_ireturn dX12_tickets_54 rfl rfl
  · refine r_iconst (v := (0 : Int32)) dX12_tickets_55 rfl ?_
    refine r_istore (L2 := [(0, .ref 60), (1, .int l1), (2, .int l2), (3, .int l3), (4, .int (0 : Int32))]) dX12_tickets_56 rfl rfl ?_
    exact r_sub (L' := [(0, .ref 60), (1, .int l1), (2, .int l2), (3, .int l3), (4, .int (0 : Int32))]) (sub_c rfl (sub_c rfl (sub_c rfl (sub_c rfl (sub_c rfl sub_n))))) (rb_X12_tickets_58 hE q l1 l2 l3 (0 : Int32))
def f_X12_tickets (q : SS) (a1 : Int32) (a2 : Int32) (a3 : Int32) : Option (Int32 × SS) :=
  (f_X12_isShelf q a1).bind fun r1 =>
  if r1 = 0 then
  (some ((-1 : Int32), q))
  else
  ((f_X12_in q a3 (1 : Int32) (12 : Int32)).bind fun r2 =>
  if r2 = 0 then
  (some ((-1 : Int32), q))
  else
  (if vin a1 6 then
  if (q.1 89 a1.toNatClampNeg) = (-1 : Int32) then
  (b_X12_tickets_43 q a1 a2 a3)
  else
  (if vin a1 6 then
  if (q.1 89 a1.toNatClampNeg) = (-2 : Int32) then
  (b_X12_tickets_43 q a1 a2 a3)
  else
  (some ((-12 : Int32), q))
  else none)
  else none))
theorem e_X12_tickets {E : EE} (hE : GE E) (q : SS) (a1 : Int32) (a2 : Int32) (a3 : Int32) : R E (κI E) 3 197 0 [(0, .ref 60), (1, .int a1), (2, .int a2), (3, .int a3)] [] q (f_X12_tickets q a1 a2 a3) := by
  unfold f_X12_tickets
  refine r_iload_n (x := a1) dX12_tickets_0 rfl ?_
  refine r_calli (k := 2) (idx := 137) (y := 288) (as := [.int a1]) (rest := []) (L0 := [(0, .int a1)]) dX12_tickets_1 rfl rfl rfl rfl rfl vok_s rfl (r_dep (by decide) (e_X12_isShelf hE q a1)) (fun r1 => ?_)
  refine r_if_eq (t := 17) dX12_tickets_4 rfl (fun h18 => ?_) (fun h18 => ?_)
  · refine r_iconst (v := (-1 : Int32)) dX12_tickets_17 rfl ?_
    exact r_ireturn dX12_tickets_18 rfl rfl
  · refine r_iload_n (x := a3) dX12_tickets_7 rfl ?_
    refine r_iconst (v := (1 : Int32)) dX12_tickets_8 rfl ?_
    refine r_bipush (v := (12 : Int32)) dX12_tickets_9 rfl ?_
    refine r_calli (k := 2) (idx := 118) (y := 189) (as := [.int a3, .int (1 : Int32), .int (12 : Int32)]) (rest := []) (L0 := [(0, .int a3), (1, .int (1 : Int32)), (2, .int (12 : Int32))]) dX12_tickets_11 rfl rfl rfl rfl rfl vok_s rfl (r_dep (by decide) (e_X12_in hE q a3 (1 : Int32) (12 : Int32))) (fun r2 => ?_)
    refine r_if_ne (t := 19) dX12_tickets_14 rfl (fun h17 => ?_) (fun h17 => ?_)
    · refine r_iconst (v := (-1 : Int32)) dX12_tickets_17 rfl ?_
      exact r_ireturn dX12_tickets_18 rfl rfl
    · refine r_aload_n (x := 60) dX12_tickets_19 rfl ?_
      refine r_getA dX12_tickets_20 (fa_12_98_60 hE) ?_
      refine r_iload_n (x := a1) dX12_tickets_23 rfl ?_
      refine r_iaload dX12_tickets_24 (ar_89 hE) ?_
      refine r_iconst (v := (-1 : Int32)) dX12_tickets_25 rfl ?_
      refine r_icmp_eq (t := 43) dX12_tickets_26 rfl (fun h16 => ?_) (fun h16 => ?_)
      · exact r_sub (L' := [(0, .ref 60), (1, .int a1), (2, .int a2), (3, .int a3)]) (sub_c rfl (sub_c rfl (sub_c rfl (sub_c rfl sub_n)))) (rb_X12_tickets_43 hE q a1 a2 a3)
      · refine r_aload_n (x := 60) dX12_tickets_29 rfl ?_
        refine r_getA dX12_tickets_30 (fa_12_98_60 hE) ?_
        refine r_iload_n (x := a1) dX12_tickets_33 rfl ?_
        refine r_iaload dX12_tickets_34 (ar_89 hE) ?_
        refine r_bipush (v := (-2 : Int32)) dX12_tickets_35 rfl ?_
        refine r_icmp_eq (t := 43) dX12_tickets_37 rfl (fun h15 => ?_) (fun h15 => ?_)
        · exact r_sub (L' := [(0, .ref 60), (1, .int a1), (2, .int a2), (3, .int a3)]) (sub_c rfl (sub_c rfl (sub_c rfl (sub_c rfl sub_n)))) (rb_X12_tickets_43 hE q a1 a2 a3)
        · refine r_bipush (v := (-12 : Int32)) dX12_tickets_40 rfl ?_
          exact r_ireturn dX12_tickets_42 rfl rfl
def f_X11_ticket (q : SS) (a1 : Int32) (a2 : Int32) : Option (Int32 × SS) :=
  (f_X10_mayBe q (4 : Int32) a1).bind fun r1 =>
  if r1 = 0 then
  (some ((-1 : Int32), q))
  else
  ((f_X10_mayBe q (5 : Int32) a2).bind fun r2 =>
  if r2 = 0 then
  (some ((-1 : Int32), q))
  else
  ((f_X10_addTicket q a1 a2 (0 : Int32)).bind fun r3 =>
  some (r3.1, r3.2)))
theorem e_X11_ticket {E : EE} (hE : GE E) (q : SS) (a1 : Int32) (a2 : Int32) : R E (κI E) 3 140 0 [(0, .ref 0), (1, .int a1), (2, .int a2)] [] q (f_X11_ticket q a1 a2) := by
  unfold f_X11_ticket
  refine r_aload_n (x := 0) dX11_ticket_0 rfl ?_
  refine r_getA dX11_ticket_1 (fa_11_10_0 hE) ?_
  refine r_iconst (v := (4 : Int32)) dX11_ticket_4 rfl ?_
  refine r_iload_n (x := a1) dX11_ticket_5 rfl ?_
  refine r_calli (k := 0) (idx := 94) (y := 133) (as := [.ref 1, .int (4 : Int32), .int a1]) (rest := []) (L0 := [(0, .ref 1), (1, .int (4 : Int32)), (2, .int a1)]) dX11_ticket_6 rfl rfl rfl rfl rfl (vok_v (ob_1 hE) rfl) rfl (r_dep (by decide) (e_X10_mayBe hE q (4 : Int32) a1)) (fun r1 => ?_)
  refine r_if_eq (t := 24) dX11_ticket_9 rfl (fun h5 => ?_) (fun h5 => ?_)
  · refine r_iconst (v := (-1 : Int32)) dX11_ticket_24 rfl ?_
    exact r_ireturn dX11_ticket_25 rfl rfl
  · refine r_aload_n (x := 0) dX11_ticket_12 rfl ?_
    refine r_getA dX11_ticket_13 (fa_11_10_0 hE) ?_
    refine r_iconst (v := (5 : Int32)) dX11_ticket_16 rfl ?_
    refine r_iload_n (x := a2) dX11_ticket_17 rfl ?_
    refine r_calli (k := 0) (idx := 94) (y := 133) (as := [.ref 1, .int (5 : Int32), .int a2]) (rest := []) (L0 := [(0, .ref 1), (1, .int (5 : Int32)), (2, .int a2)]) dX11_ticket_18 rfl rfl rfl rfl rfl (vok_v (ob_1 hE) rfl) rfl (r_dep (by decide) (e_X10_mayBe hE q (5 : Int32) a2)) (fun r2 => ?_)
    refine r_if_ne (t := 26) dX11_ticket_21 rfl (fun h4 => ?_) (fun h4 => ?_)
    · refine r_iconst (v := (-1 : Int32)) dX11_ticket_24 rfl ?_
      exact r_ireturn dX11_ticket_25 rfl rfl
    · refine r_aload_n (x := 0) dX11_ticket_26 rfl ?_
      refine r_getA dX11_ticket_27 (fa_11_10_0 hE) ?_
      refine r_iload_n (x := a1) dX11_ticket_30 rfl ?_
      refine r_iload_n (x := a2) dX11_ticket_31 rfl ?_
      refine r_iconst (v := (0 : Int32)) dX11_ticket_32 rfl ?_
      refine r_callI (k := 0) (idx := 102) (y := 137) (as := [.ref 1, .int a1, .int a2, .int (0 : Int32)]) (rest := []) (L0 := [(0, .ref 1), (1, .int a1), (2, .int a2), (3, .int (0 : Int32))]) dX11_ticket_33 rfl rfl rfl rfl rfl (vok_v (ob_1 hE) rfl) rfl (r_dep (by decide) (e_X10_addTicket hE q a1 a2 (0 : Int32))) (fun r3 => ?_)
      exact r_ireturn dX11_ticket_36 rfl rfl
def f_X12_ticket (q : SS) (a1 : Int32) (a2 : Int32) : Option (Int32 × SS) :=
  (f_X12_areTicket q a1 a2).bind fun r1 =>
  if r1 = 0 then
  (some ((-1 : Int32), q))
  else
  (if (q.1 60 6) = (12 : Int32) then
  (some ((-3 : Int32), q))
  else
  ((f_X12_addTicket q a1 a2 (0 : Int32)).bind fun r2 =>
  some (r2.1, r2.2)))
theorem e_X12_ticket {E : EE} (hE : GE E) (q : SS) (a1 : Int32) (a2 : Int32) : R E (κI E) 3 196 0 [(0, .ref 60), (1, .int a1), (2, .int a2)] [] q (f_X12_ticket q a1 a2) := by
  unfold f_X12_ticket
  refine r_aload_n (x := 60) dX12_ticket_0 rfl ?_
  refine r_iload_n (x := a1) dX12_ticket_1 rfl ?_
  refine r_iload_n (x := a2) dX12_ticket_2 rfl ?_
  refine r_calli (k := 0) (idx := 129) (y := 194) (as := [.ref 60, .int a1, .int a2]) (rest := []) (L0 := [(0, .ref 60), (1, .int a1), (2, .int a2)]) dX12_ticket_3 rfl rfl rfl rfl rfl (vok_v (ob_60 hE) rfl) rfl (r_dep (by decide) (e_X12_areTicket hE q a1 a2)) (fun r1 => ?_)
  refine r_if_ne (t := 11) dX12_ticket_6 rfl (fun h4 => ?_) (fun h4 => ?_)
  · refine r_iconst (v := (-1 : Int32)) dX12_ticket_9 rfl ?_
    exact r_ireturn dX12_ticket_10 rfl rfl
  · refine r_aload_n (x := 60) dX12_ticket_11 rfl ?_
    refine r_getI dX12_ticket_12 (ff_12_122_60 hE) (by decide) ?_
    refine r_bipush (v := (12 : Int32)) dX12_ticket_15 rfl ?_
    refine r_icmp_ne (t := 25) dX12_ticket_17 rfl (fun h3 => ?_) (fun h3 => ?_)
    · refine r_bipush (v := (-3 : Int32)) dX12_ticket_20 rfl ?_
      refine r_goto (t := 32) dX12_ticket_22 rfl ?_
      exact r_ireturn dX12_ticket_32 rfl rfl
    · refine r_aload_n (x := 60) dX12_ticket_25 rfl ?_
      refine r_iload_n (x := a1) dX12_ticket_26 rfl ?_
      refine r_iload_n (x := a2) dX12_ticket_27 rfl ?_
      refine r_iconst (v := (0 : Int32)) dX12_ticket_28 rfl ?_
      refine r_callI (k := 0) (idx := 133) (y := 195) (as := [.ref 60, .int a1, .int a2, .int (0 : Int32)]) (rest := []) (L0 := [(0, .ref 60), (1, .int a1), (2, .int a2), (3, .int (0 : Int32))]) dX12_ticket_29 rfl rfl rfl rfl rfl (vok_v (ob_60 hE) rfl) rfl (r_dep (by decide) (e_X12_addTicket hE q a1 a2 (0 : Int32))) (fun r2 => ?_)
      exact r_ireturn dX12_ticket_32 rfl rfl
def f_X10_addPerson (q : SS) (a1 : Int32) : Option (Int32 × SS) :=
  if (q.1 1 1) < (6 : Int32) then
  (nm (sI q 1 1 ((q.1 1 1) + (1 : Int32))) fun q1 =>
  (f_X10_set q1 (0 : Int32) ((q1.1 1 1) - (1 : Int32)) a1).bind fun r2 =>
  some (((r2.1 1 1) - (1 : Int32)), r2))
  else
  (some ((-3 : Int32), q))
theorem e_X10_addPerson {E : EE} (hE : GE E) (q : SS) (a1 : Int32) : R E (κI E) 2 136 0 [(0, .ref 1), (1, .int a1)] [] q (f_X10_addPerson q a1) := by
  unfold f_X10_addPerson
  refine r_aload_n (x := 1) dX10_addPerson_0 rfl ?_
  refine r_getI dX10_addPerson_1 (ff_10_16_1 hE) (by decide) ?_
  refine r_bipush (v := (6 : Int32)) dX10_addPerson_4 rfl ?_
  refine r_icmp_lt (t := 12) dX10_addPerson_6 rfl (fun h3 => ?_) (fun h3 => ?_)
  · refine r_aload_n (x := 1) dX10_addPerson_12 rfl ?_
    refine r_dup dX10_addPerson_13 rfl ?_
    refine r_getI dX10_addPerson_14 (ff_10_16_1 hE) (by decide) ?_
    refine r_iconst (v := (1 : Int32)) dX10_addPerson_17 rfl ?_
    refine r_iadd dX10_addPerson_18 ?_
    refine r_putI dX10_addPerson_19 (ff_10_16_1 hE) ?_
    refine r_nmS fun q1 _ => ?_
    refine r_aload_n (x := 1) dX10_addPerson_22 rfl ?_
    refine r_iconst (v := (0 : Int32)) dX10_addPerson_23 rfl ?_
    refine r_aload_n (x := 1) dX10_addPerson_24 rfl ?_
    refine r_getI dX10_addPerson_25 (ff_10_16_1 hE) (by decide) ?_
    refine r_iconst (v := (1 : Int32)) dX10_addPerson_28 rfl ?_
    refine r_isub dX10_addPerson_29 ?_
    refine r_iload_n (x := a1) dX10_addPerson_30 rfl ?_
    refine r_callV (k := 0) (idx := 42) (y := 135) (as := [.ref 1, .int (0 : Int32), .int ((q1.1 1 1) - (1 : Int32)), .int a1]) (rest := []) (L0 := [(0, .ref 1), (1, .int (0 : Int32)), (2, .int ((q1.1 1 1) - (1 : Int32))), (3, .int a1)]) dX10_addPerson_31 rfl rfl rfl rfl rfl (vok_v (ob_1 hE) rfl) rfl (r_dep (by decide) (e_X10_set hE q1 (0 : Int32) ((q1.1 1 1) - (1 : Int32)) a1)) (fun r2 => ?_)
    refine r_aload_n (x := 1) dX10_addPerson_34 rfl ?_
    refine r_getI dX10_addPerson_35 (ff_10_16_1 hE) (by decide) ?_
    refine r_iconst (v := (1 : Int32)) dX10_addPerson_38 rfl ?_
    refine r_isub dX10_addPerson_39 ?_
    exact r_ireturn dX10_addPerson_40 rfl rfl
  · refine r_bipush (v := (-3 : Int32)) dX10_addPerson_9 rfl ?_
    exact r_ireturn dX10_addPerson_11 rfl rfl
def f_X11_person (q : SS) (a1 : Int32) : Option (Int32 × SS) :=
  (f_X10_mayBe q (0 : Int32) a1).bind fun r1 =>
  if r1 = 0 then
  (some ((-1 : Int32), q))
  else
  ((f_X10_addPerson q a1).bind fun r2 =>
  some (r2.1, r2.2))
theorem e_X11_person {E : EE} (hE : GE E) (q : SS) (a1 : Int32) : R E (κI E) 3 139 0 [(0, .ref 0), (1, .int a1)] [] q (f_X11_person q a1) := by
  unfold f_X11_person
  refine r_aload_n (x := 0) dX11_person_0 rfl ?_
  refine r_getA dX11_person_1 (fa_11_10_0 hE) ?_
  refine r_iconst (v := (0 : Int32)) dX11_person_4 rfl ?_
  refine r_iload_n (x := a1) dX11_person_5 rfl ?_
  refine r_calli (k := 0) (idx := 94) (y := 133) (as := [.ref 1, .int (0 : Int32), .int a1]) (rest := []) (L0 := [(0, .ref 1), (1, .int (0 : Int32)), (2, .int a1)]) dX11_person_6 rfl rfl rfl rfl rfl (vok_v (ob_1 hE) rfl) rfl (r_dep (by decide) (e_X10_mayBe hE q (0 : Int32) a1)) (fun r1 => ?_)
  refine r_if_ne (t := 14) dX11_person_9 rfl (fun h3 => ?_) (fun h3 => ?_)
  · refine r_iconst (v := (-1 : Int32)) dX11_person_12 rfl ?_
    exact r_ireturn dX11_person_13 rfl rfl
  · refine r_aload_n (x := 0) dX11_person_14 rfl ?_
    refine r_getA dX11_person_15 (fa_11_10_0 hE) ?_
    refine r_iload_n (x := a1) dX11_person_18 rfl ?_
    refine r_callI (k := 0) (idx := 98) (y := 136) (as := [.ref 1, .int a1]) (rest := []) (L0 := [(0, .ref 1), (1, .int a1)]) dX11_person_19 rfl rfl rfl rfl rfl (vok_v (ob_1 hE) rfl) rfl (r_dep (by decide) (e_X10_addPerson hE q a1)) (fun r2 => ?_)
    exact r_ireturn dX11_person_22 rfl rfl
def f_X12_person (q : SS) (a1 : Int32) : Option (Int32 × SS) :=
  (f_X12_in q a1 (0 : Int32) (12 : Int32)).bind fun r1 =>
  if r1 = 0 then
  (some ((-1 : Int32), q))
  else
  (if (q.1 60 1) = (6 : Int32) then
  (some ((-3 : Int32), q))
  else
  (if vin (q.1 60 1) 6 then
  nm (sI q 61 (q.1 60 1).toNatClampNeg a1) fun q2 =>
  if vin (q2.1 60 1) 6 then
  nm (sI q2 62 (q2.1 60 1).toNatClampNeg (0 : Int32)) fun q3 =>
  if vin (q3.1 60 1) 6 then
  nm (sI q3 63 (q3.1 60 1).toNatClampNeg (10 : Int32)) fun q4 =>
  if vin (q4.1 60 1) 6 then
  nm (sI q4 64 (q4.1 60 1).toNatClampNeg (0 : Int32)) fun q5 =>
  nm (sI q5 60 1 ((q5.1 60 1) + (1 : Int32))) fun q6 =>
  some (((q6.1 60 1) - (1 : Int32)), q6)
  else none
  else none
  else none
  else none))
theorem e_X12_person {E : EE} (hE : GE E) (q : SS) (a1 : Int32) : R E (κI E) 1 193 0 [(0, .ref 60), (1, .int a1)] [] q (f_X12_person q a1) := by
  unfold f_X12_person
  refine r_iload_n (x := a1) dX12_person_0 rfl ?_
  refine r_iconst (v := (0 : Int32)) dX12_person_1 rfl ?_
  refine r_bipush (v := (12 : Int32)) dX12_person_2 rfl ?_
  refine r_calli (k := 2) (idx := 118) (y := 189) (as := [.int a1, .int (0 : Int32), .int (12 : Int32)]) (rest := []) (L0 := [(0, .int a1), (1, .int (0 : Int32)), (2, .int (12 : Int32))]) dX12_person_4 rfl rfl rfl rfl rfl vok_s rfl (r_dep (by decide) (e_X12_in hE q a1 (0 : Int32) (12 : Int32))) (fun r1 => ?_)
  refine r_if_ne (t := 12) dX12_person_7 rfl (fun h8 => ?_) (fun h8 => ?_)
  · refine r_iconst (v := (-1 : Int32)) dX12_person_10 rfl ?_
    exact r_ireturn dX12_person_11 rfl rfl
  · refine r_aload_n (x := 60) dX12_person_12 rfl ?_
    refine r_getI dX12_person_13 (ff_12_115_60 hE) (by decide) ?_
    refine r_bipush (v := (6 : Int32)) dX12_person_16 rfl ?_
    refine r_icmp_ne (t := 24) dX12_person_18 rfl (fun h7 => ?_) (fun h7 => ?_)
    · refine r_bipush (v := (-3 : Int32)) dX12_person_21 rfl ?_
      exact r_ireturn dX12_person_23 rfl rfl
    · refine r_aload_n (x := 60) dX12_person_24 rfl ?_
      refine r_getA dX12_person_25 (fa_12_9_60 hE) ?_
      refine r_aload_n (x := 60) dX12_person_28 rfl ?_
      refine r_getI dX12_person_29 (ff_12_115_60 hE) (by decide) ?_
      refine r_iload_n (x := a1) dX12_person_32 rfl ?_
      refine r_iastore dX12_person_33 (ar_61 hE) ?_
      refine r_nmS fun q2 _ => ?_
      refine r_aload_n (x := 60) dX12_person_34 rfl ?_
      refine r_getA dX12_person_35 (fa_12_15_60 hE) ?_
      refine r_aload_n (x := 60) dX12_person_38 rfl ?_
      refine r_getI dX12_person_39 (ff_12_115_60 hE) (by decide) ?_
      refine r_iconst (v := (0 : Int32)) dX12_person_42 rfl ?_
      refine r_iastore dX12_person_43 (ar_62 hE) ?_
      refine r_nmS fun q3 _ => ?_
      refine r_aload_n (x := 60) dX12_person_44 rfl ?_
      refine r_getA dX12_person_45 (fa_12_18_60 hE) ?_
      refine r_aload_n (x := 60) dX12_person_48 rfl ?_
      refine r_getI dX12_person_49 (ff_12_115_60 hE) (by decide) ?_
      refine r_bipush (v := (10 : Int32)) dX12_person_52 rfl ?_
      refine r_iastore dX12_person_54 (ar_63 hE) ?_
      refine r_nmS fun q4 _ => ?_
      refine r_aload_n (x := 60) dX12_person_55 rfl ?_
      refine r_getA dX12_person_56 (fa_12_21_60 hE) ?_
      refine r_aload_n (x := 60) dX12_person_59 rfl ?_
      refine r_getI dX12_person_60 (ff_12_115_60 hE) (by decide) ?_
      refine r_iconst (v := (0 : Int32)) dX12_person_63 rfl ?_
      refine r_iastore dX12_person_64 (ar_64 hE) ?_
      refine r_nmS fun q5 _ => ?_
      refine r_aload_n (x := 60) dX12_person_65 rfl ?_
      refine r_dup dX12_person_66 rfl ?_
      refine r_getI dX12_person_67 (ff_12_115_60 hE) (by decide) ?_
      refine r_iconst (v := (1 : Int32)) dX12_person_70 rfl ?_
      refine r_iadd dX12_person_71 ?_
      refine r_putI dX12_person_72 (ff_12_115_60 hE) ?_
      refine r_nmS fun q6 _ => ?_
      refine r_aload_n (x := 60) dX12_person_75 rfl ?_
      refine r_getI dX12_person_76 (ff_12_115_60 hE) (by decide) ?_
      refine r_iconst (v := (1 : Int32)) dX12_person_79 rfl ?_
      refine r_isub dX12_person_80 ?_
      exact r_ireturn dX12_person_81 rfl rfl
def b_L_law_1517 (Ls : Nat) (xs : Nat → Int32) (rec_18 : SS → Int32 → Option (Int32 × SS)) (q : SS) (l3 : Int32) : Option (Int32 × SS) :=
  rec_18 q (l3 + (6 : Int32))
theorem rb_L_law_1517 {E : EE} (hE : GE E) {rec_18 : SS → Int32 → Option (Int32 × SS)} (hrec_18 : ∀ (yq : SS) (yl3 : Int32), R E (κI E) 906 NM 18 [(0, .retAddr 0), (1, .ref 0), (2, .ref 60), (3, .int yl3)] [] yq (rec_18 yq yl3)) (q : SS) (l3 : Int32) : R E (κI E) 906 NM 1517 [(0, .retAddr 0), (1, .ref 0), (2, .ref 60), (3, .int l3)] [] q (b_L_law_1517 E.1 E.2.1 rec_18 q l3) := by
  unfold b_L_law_1517
  refine r_iinc (x := l3) (v := (l3 + (6 : Int32))) (L2 := [(0, .retAddr 0), (1, .ref 0), (2, .ref 60), (3, .int (l3 + (6 : Int32)))]) dL_law_1517 rfl rfl rfl rfl ?_
  refine r_goto (t := 18) dL_law_1520 rfl ?_
  exact r_sub (L' := [(0, .retAddr 0), (1, .ref 0), (2, .ref 60), (3, .int (l3 + (6 : Int32)))]) (sub_c rfl (sub_c rfl (sub_c rfl (sub_c rfl sub_n)))) (hrec_18 q (l3 + (6 : Int32)))
def b_L_law_18 (Ls : Nat) (xs : Nat → Int32) : SS → Int32 → Option (Int32 × SS) :=
  fx2 (fun (rec_18 : SS → Int32 → Option (Int32 × SS)) (q : SS) (l3 : Int32) =>
  if ((Int32.ofNat Ls) - (6 : Int32)) < l3 then
  (some ((1 : Int32), q))
  else
  (if vin l3 Ls then
  nm ((xs l3.toNatClampNeg) &&& (63 : Int32)) fun v1 =>
  sw v1 [(0, (if vin (l3 + (1 : Int32)) Ls then
  (f_X11_person q (xs (l3 + (1 : Int32)).toNatClampNeg)).bind fun r3 =>
  if vin (l3 + (1 : Int32)) Ls then
  (f_X12_person r3.2 (xs (l3 + (1 : Int32)).toNatClampNeg)).bind fun r4 =>
  if r3.1 = r4.1 then
  (b_L_law_1517 Ls xs rec_18 r4.2 l3)
  else
  (some ((0 : Int32), r4.2))
  else none
  else none)), (1, (if vin (l3 + (1 : Int32)) Ls then
  if vin (l3 + (2 : Int32)) Ls then
  (f_X11_ticket q (xs (l3 + (1 : Int32)).toNatClampNeg) (xs (l3 + (2 : Int32)).toNatClampNeg)).bind fun r7 =>
  if vin (l3 + (1 : Int32)) Ls then
  if vin (l3 + (2 : Int32)) Ls then
  (f_X12_ticket r7.2 (xs (l3 + (1 : Int32)).toNatClampNeg) (xs (l3 + (2 : Int32)).toNatClampNeg)).bind fun r8 =>
  if r7.1 = r8.1 then
  (b_L_law_1517 Ls xs rec_18 r8.2 l3)
  else
  (some ((0 : Int32), r8.2))
  else none
  else none
  else none
  else none)), (2, (if vin (l3 + (1 : Int32)) Ls then
  if vin (l3 + (2 : Int32)) Ls then
  if vin (l3 + (3 : Int32)) Ls then
  (f_X11_tickets q (xs (l3 + (1 : Int32)).toNatClampNeg) (xs (l3 + (2 : Int32)).toNatClampNeg) (xs (l3 + (3 : Int32)).toNatClampNeg)).bind fun r11 =>
  if vin (l3 + (1 : Int32)) Ls then
  if vin (l3 + (2 : Int32)) Ls then
  if vin (l3 + (3 : Int32)) Ls then
  (f_X12_tickets r11.2 (xs (l3 + (1 : Int32)).toNatClampNeg) (xs (l3 + (2 : Int32)).toNatClampNeg) (xs (l3 + (3 : Int32)).toNatClampNeg)).bind fun r12 =>
  if r11.1 = r12.1 then
  (b_L_law_1517 Ls xs rec_18 r12.2 l3)
  else
  (some ((0 : Int32), r12.2))
  else none
  else none
  else none
  else none
  else none
  else none)), (3, (if vin (l3 + (1 : Int32)) Ls then
  if vin (l3 + (2 : Int32)) Ls then
  if vin (l3 + (3 : Int32)) Ls then
  (f_X11_mend q (xs (l3 + (1 : Int32)).toNatClampNeg) (xs (l3 + (2 : Int32)).toNatClampNeg) (xs (l3 + (3 : Int32)).toNatClampNeg)).bind fun r15 =>
  if vin (l3 + (1 : Int32)) Ls then
  if vin (l3 + (2 : Int32)) Ls then
  if vin (l3 + (3 : Int32)) Ls then
  (f_X12_mend r15.2 (xs (l3 + (1 : Int32)).toNatClampNeg) (xs (l3 + (2 : Int32)).toNatClampNeg) (xs (l3 + (3 : Int32)).toNatClampNeg)).bind fun r16 =>
  if r15.1 = r16.1 then
  (b_L_law_1517 Ls xs rec_18 r16.2 l3)
  else
  (some ((0 : Int32), r16.2))
  else none
  else none
  else none
  else none
  else none
  else none)), (4, (if vin (l3 + (1 : Int32)) Ls then
  if vin (l3 + (2 : Int32)) Ls then
  (f_X11_of q (xs (l3 + (1 : Int32)).toNatClampNeg) (xs (l3 + (2 : Int32)).toNatClampNeg)).bind fun r19 =>
  if vin (l3 + (1 : Int32)) Ls then
  if vin (l3 + (2 : Int32)) Ls then
  (f_X12_of r19.2 (xs (l3 + (1 : Int32)).toNatClampNeg) (xs (l3 + (2 : Int32)).toNatClampNeg)).bind fun r20 =>
  if r19.1 = r20.1 then
  (b_L_law_1517 Ls xs rec_18 r20.2 l3)
  else
  (some ((0 : Int32), r20.2))
  else none
  else none
  else none
  else none)), (5, (if vin (l3 + (1 : Int32)) Ls then
  (f_X11_feed q (xs (l3 + (1 : Int32)).toNatClampNeg)).bind fun r23 =>
  if vin (l3 + (1 : Int32)) Ls then
  (f_X12_feed r23.2 (xs (l3 + (1 : Int32)).toNatClampNeg)).bind fun r24 =>
  if r23.1 = r24.1 then
  (b_L_law_1517 Ls xs rec_18 r24.2 l3)
  else
  (some ((0 : Int32), r24.2))
  else none
  else none)), (6, ((f_X11_law q).bind fun r27 =>
  (f_X12_law r27.2).bind fun r28 =>
  if r27.1 = r28.1 then
  (b_L_law_1517 Ls xs rec_18 r28.2 l3)
  else
  (some ((0 : Int32), r28.2)))), (7, (if vin (l3 + (1 : Int32)) Ls then
  (f_X11_odds q (xs (l3 + (1 : Int32)).toNatClampNeg)).bind fun r31 =>
  if vin (l3 + (1 : Int32)) Ls then
  (f_X12_odds r31.2 (xs (l3 + (1 : Int32)).toNatClampNeg)).bind fun r32 =>
  if r31.1 = r32.1 then
  (b_L_law_1517 Ls xs rec_18 r32.2 l3)
  else
  (some ((0 : Int32), r32.2))
  else none
  else none)), (8, (if vin (l3 + (1 : Int32)) Ls then
  if vin (l3 + (2 : Int32)) Ls then
  if vin (l3 + (3 : Int32)) Ls then
  (f_X11_later q (xs (l3 + (1 : Int32)).toNatClampNeg) (xs (l3 + (2 : Int32)).toNatClampNeg) (xs (l3 + (3 : Int32)).toNatClampNeg)).bind fun r35 =>
  if vin (l3 + (1 : Int32)) Ls then
  if vin (l3 + (2 : Int32)) Ls then
  if vin (l3 + (3 : Int32)) Ls then
  (f_X12_later r35.2 (xs (l3 + (1 : Int32)).toNatClampNeg) (xs (l3 + (2 : Int32)).toNatClampNeg) (xs (l3 + (3 : Int32)).toNatClampNeg)).bind fun r36 =>
  if r35.1 = r36.1 then
  (b_L_law_1517 Ls xs rec_18 r36.2 l3)
  else
  (some ((0 : Int32), r36.2))
  else none
  else none
  else none
  else none
  else none
  else none)), (9, (if vin (l3 + (1 : Int32)) Ls then
  if vin (l3 + (2 : Int32)) Ls then
  if vin (l3 + (3 : Int32)) Ls then
  (f_X11_eve q (xs (l3 + (1 : Int32)).toNatClampNeg) (xs (l3 + (2 : Int32)).toNatClampNeg) (xs (l3 + (3 : Int32)).toNatClampNeg)).bind fun r39 =>
  if vin (l3 + (1 : Int32)) Ls then
  if vin (l3 + (2 : Int32)) Ls then
  if vin (l3 + (3 : Int32)) Ls then
  (f_X12_eve r39.2 (xs (l3 + (1 : Int32)).toNatClampNeg) (xs (l3 + (2 : Int32)).toNatClampNeg) (xs (l3 + (3 : Int32)).toNatClampNeg)).bind fun r40 =>
  if r39.1 = r40.1 then
  (b_L_law_1517 Ls xs rec_18 r40.2 l3)
  else
  (some ((0 : Int32), r40.2))
  else none
  else none
  else none
  else none
  else none
  else none)), (10, (if vin (l3 + (1 : Int32)) Ls then
  if vin (l3 + (2 : Int32)) Ls then
  if vin (l3 + (3 : Int32)) Ls then
  (f_X11_likely q (xs (l3 + (1 : Int32)).toNatClampNeg) (xs (l3 + (2 : Int32)).toNatClampNeg) (xs (l3 + (3 : Int32)).toNatClampNeg)).bind fun r43 =>
  if vin (l3 + (1 : Int32)) Ls then
  if vin (l3 + (2 : Int32)) Ls then
  if vin (l3 + (3 : Int32)) Ls then
  (f_X12_likely r43.2 (xs (l3 + (1 : Int32)).toNatClampNeg) (xs (l3 + (2 : Int32)).toNatClampNeg) (xs (l3 + (3 : Int32)).toNatClampNeg)).bind fun r44 =>
  if (lg_cmp r43.1 r44.1) = 0 then
  (b_L_law_1517 Ls xs rec_18 r44.2 l3)
  else
  (some ((0 : Int32), r44.2))
  else none
  else none
  else none
  else none
  else none
  else none)), (11, (if vin (l3 + (1 : Int32)) Ls then
  if vin (l3 + (2 : Int32)) Ls then
  (f_X11_all q (xs (l3 + (1 : Int32)).toNatClampNeg) (xs (l3 + (2 : Int32)).toNatClampNeg)).bind fun r47 =>
  if vin (l3 + (1 : Int32)) Ls then
  if vin (l3 + (2 : Int32)) Ls then
  (f_X12_all r47.2 (xs (l3 + (1 : Int32)).toNatClampNeg) (xs (l3 + (2 : Int32)).toNatClampNeg)).bind fun r48 =>
  if (lg_cmp r47.1 r48.1) = 0 then
  (b_L_law_1517 Ls xs rec_18 r48.2 l3)
  else
  (some ((0 : Int32), r48.2))
  else none
  else none
  else none
  else none)), (12, (if vin (l3 + (1 : Int32)) Ls then
  if vin (l3 + (2 : Int32)) Ls then
  (f_X11_king q (xs (l3 + (1 : Int32)).toNatClampNeg) (xs (l3 + (2 : Int32)).toNatClampNeg)).bind fun r51 =>
  if vin (l3 + (1 : Int32)) Ls then
  if vin (l3 + (2 : Int32)) Ls then
  (f_X12_king r51.2 (xs (l3 + (1 : Int32)).toNatClampNeg) (xs (l3 + (2 : Int32)).toNatClampNeg)).bind fun r52 =>
  if (lg_cmp r51.1 r52.1) = 0 then
  (b_L_law_1517 Ls xs rec_18 r52.2 l3)
  else
  (some ((0 : Int32), r52.2))
  else none
  else none
  else none
  else none)), (13, ((f_X11_safe q).bind fun r55 =>
  (f_X12_safe r55.2).bind fun r56 =>
  if r55.1 = r56.1 then
  (b_L_law_1517 Ls xs rec_18 r56.2 l3)
  else
  (some ((0 : Int32), r56.2)))), (14, ((f_X11_likeliest q).bind fun r59 =>
  (f_X12_likeliest r59.2).bind fun r60 =>
  if r59.1 = r60.1 then
  (b_L_law_1517 Ls xs rec_18 r60.2 l3)
  else
  (some ((0 : Int32), r60.2)))), (15, (if vin (l3 + (1 : Int32)) Ls then
  (f_X11_watch q (xs (l3 + (1 : Int32)).toNatClampNeg)).bind fun r63 =>
  if vin (l3 + (1 : Int32)) Ls then
  (f_X12_watch r63.2 (xs (l3 + (1 : Int32)).toNatClampNeg)).bind fun r64 =>
  if r63.1 = r64.1 then
  (b_L_law_1517 Ls xs rec_18 r64.2 l3)
  else
  (some ((0 : Int32), r64.2))
  else none
  else none)), (16, (if vin (l3 + (1 : Int32)) Ls then
  if vin (l3 + (2 : Int32)) Ls then
  if vin (l3 + (3 : Int32)) Ls then
  (f_X11_rid q (xs (l3 + (1 : Int32)).toNatClampNeg) (xs (l3 + (2 : Int32)).toNatClampNeg) (xs (l3 + (3 : Int32)).toNatClampNeg)).bind fun r67 =>
  if vin (l3 + (1 : Int32)) Ls then
  if vin (l3 + (2 : Int32)) Ls then
  if vin (l3 + (3 : Int32)) Ls then
  (f_X12_rid r67.2 (xs (l3 + (1 : Int32)).toNatClampNeg) (xs (l3 + (2 : Int32)).toNatClampNeg) (xs (l3 + (3 : Int32)).toNatClampNeg)).bind fun r68 =>
  if (lg_cmp r67.1 r68.1) = 0 then
  (b_L_law_1517 Ls xs rec_18 r68.2 l3)
  else
  (some ((0 : Int32), r68.2))
  else none
  else none
  else none
  else none
  else none
  else none)), (17, (if vin (l3 + (1 : Int32)) Ls then
  if vin (l3 + (2 : Int32)) Ls then
  (f_X11_first q (xs (l3 + (1 : Int32)).toNatClampNeg) (xs (l3 + (2 : Int32)).toNatClampNeg)).bind fun r71 =>
  if vin (l3 + (1 : Int32)) Ls then
  if vin (l3 + (2 : Int32)) Ls then
  (f_X12_first r71.2 (xs (l3 + (1 : Int32)).toNatClampNeg) (xs (l3 + (2 : Int32)).toNatClampNeg)).bind fun r72 =>
  if r71.1 = r72.1 then
  (b_L_law_1517 Ls xs rec_18 r72.2 l3)
  else
  (some ((0 : Int32), r72.2))
  else none
  else none
  else none
  else none)), (18, (if vin (l3 + (1 : Int32)) Ls then
  if vin (l3 + (2 : Int32)) Ls then
  if vin (l3 + (3 : Int32)) Ls then
  (f_X11_hire q (xs (l3 + (1 : Int32)).toNatClampNeg) (xs (l3 + (2 : Int32)).toNatClampNeg) (xs (l3 + (3 : Int32)).toNatClampNeg)).bind fun r75 =>
  if vin (l3 + (1 : Int32)) Ls then
  if vin (l3 + (2 : Int32)) Ls then
  if vin (l3 + (3 : Int32)) Ls then
  (f_X12_hire r75.2 (xs (l3 + (1 : Int32)).toNatClampNeg) (xs (l3 + (2 : Int32)).toNatClampNeg) (xs (l3 + (3 : Int32)).toNatClampNeg)).bind fun r76 =>
  if r75.1 = r76.1 then
  (b_L_law_1517 Ls xs rec_18 r76.2 l3)
  else
  (some ((0 : Int32), r76.2))
  else none
  else none
  else none
  else none
  else none
  else none)), (19, (if vin (l3 + (1 : Int32)) Ls then
  if vin (l3 + (2 : Int32)) Ls then
  (f_X11_friend q (xs (l3 + (1 : Int32)).toNatClampNeg) (xs (l3 + (2 : Int32)).toNatClampNeg)).bind fun r79 =>
  if vin (l3 + (1 : Int32)) Ls then
  if vin (l3 + (2 : Int32)) Ls then
  (f_X12_friend r79.2 (xs (l3 + (1 : Int32)).toNatClampNeg) (xs (l3 + (2 : Int32)).toNatClampNeg)).bind fun r80 =>
  if r79.1 = r80.1 then
  (b_L_law_1517 Ls xs rec_18 r80.2 l3)
  else
  (some ((0 : Int32), r80.2))
  else none
  else none
  else none
  else none)), (20, (if vin (l3 + (1 : Int32)) Ls then
  if vin (l3 + (2 : Int32)) Ls then
  (f_X11_share q (xs (l3 + (1 : Int32)).toNatClampNeg) (xs (l3 + (2 : Int32)).toNatClampNeg)).bind fun r83 =>
  if vin (l3 + (1 : Int32)) Ls then
  if vin (l3 + (2 : Int32)) Ls then
  (f_X12_share r83.2 (xs (l3 + (1 : Int32)).toNatClampNeg) (xs (l3 + (2 : Int32)).toNatClampNeg)).bind fun r84 =>
  if r83.1 = r84.1 then
  (b_L_law_1517 Ls xs rec_18 r84.2 l3)
  else
  (some ((0 : Int32), r84.2))
  else none
  else none
  else none
  else none)), (21, ((f_X11_half q).bind fun r87 =>
  (f_X12_half r87.2).bind fun r88 =>
  if r87.1 = r88.1 then
  (b_L_law_1517 Ls xs rec_18 r88.2 l3)
  else
  (some ((0 : Int32), r88.2)))), (22, (if vin (l3 + (1 : Int32)) Ls then
  if vin (l3 + (2 : Int32)) Ls then
  if vin (l3 + (3 : Int32)) Ls then
  (f_X11_behind q (xs (l3 + (1 : Int32)).toNatClampNeg) (xs (l3 + (2 : Int32)).toNatClampNeg) (xs (l3 + (3 : Int32)).toNatClampNeg)).bind fun r91 =>
  if vin (l3 + (1 : Int32)) Ls then
  if vin (l3 + (2 : Int32)) Ls then
  if vin (l3 + (3 : Int32)) Ls then
  (f_X12_behind r91.2 (xs (l3 + (1 : Int32)).toNatClampNeg) (xs (l3 + (2 : Int32)).toNatClampNeg) (xs (l3 + (3 : Int32)).toNatClampNeg)).bind fun r92 =>
  if r91.1 = r92.1 then
  (b_L_law_1517 Ls xs rec_18 r92.2 l3)
  else
  (some ((0 : Int32), r92.2))
  else none
  else none
  else none
  else none
  else none
  else none)), (23, (if vin (l3 + (1 : Int32)) Ls then
  if vin (l3 + (2 : Int32)) Ls then
  if vin (l3 + (3 : Int32)) Ls then
  (f_X11_drawn q (xs (l3 + (1 : Int32)).toNatClampNeg) (xs (l3 + (2 : Int32)).toNatClampNeg) (xs (l3 + (3 : Int32)).toNatClampNeg)).bind fun r95 =>
  if vin (l3 + (1 : Int32)) Ls then
  if vin (l3 + (2 : Int32)) Ls then
  if vin (l3 + (3 : Int32)) Ls then
  (f_X12_drawn r95.2 (xs (l3 + (1 : Int32)).toNatClampNeg) (xs (l3 + (2 : Int32)).toNatClampNeg) (xs (l3 + (3 : Int32)).toNatClampNeg)).bind fun r96 =>
  if r95.1 = r96.1 then
  (b_L_law_1517 Ls xs rec_18 r96.2 l3)
  else
  (some ((0 : Int32), r96.2))
  else none
  else none
  else none
  else none
  else none
  else none)), (24, (if vin (l3 + (1 : Int32)) Ls then
  if vin (l3 + (2 : Int32)) Ls then
  (f_X11_slip q (xs (l3 + (1 : Int32)).toNatClampNeg) (xs (l3 + (2 : Int32)).toNatClampNeg)).bind fun r99 =>
  if vin (l3 + (1 : Int32)) Ls then
  if vin (l3 + (2 : Int32)) Ls then
  (f_X12_slip r99.2 (xs (l3 + (1 : Int32)).toNatClampNeg) (xs (l3 + (2 : Int32)).toNatClampNeg)).bind fun r100 =>
  if r99.1 = r100.1 then
  (b_L_law_1517 Ls xs rec_18 r100.2 l3)
  else
  (some ((0 : Int32), r100.2))
  else none
  else none
  else none
  else none)), (25, (if vin (l3 + (1 : Int32)) Ls then
  (f_X11_fold q (xs (l3 + (1 : Int32)).toNatClampNeg)).bind fun r103 =>
  if vin (l3 + (1 : Int32)) Ls then
  (f_X12_fold r103.2 (xs (l3 + (1 : Int32)).toNatClampNeg)).bind fun r104 =>
  if r103.1 = r104.1 then
  (b_L_law_1517 Ls xs rec_18 r104.2 l3)
  else
  (some ((0 : Int32), r104.2))
  else none
  else none)), (26, ((f_X11_hour q).bind fun r107 =>
  (f_X12_hour r107.2).bind fun r108 =>
  if r107.1 = r108.1 then
  (b_L_law_1517 Ls xs rec_18 r108.2 l3)
  else
  (some ((0 : Int32), r108.2)))), (27, (if vin (l3 + (1 : Int32)) Ls then
  (f_X11_led q (xs (l3 + (1 : Int32)).toNatClampNeg)).bind fun r111 =>
  if vin (l3 + (1 : Int32)) Ls then
  (f_X12_led q (xs (l3 + (1 : Int32)).toNatClampNeg)).bind fun r112 =>
  if r111 = r112 then
  (b_L_law_1517 Ls xs rec_18 q l3)
  else
  (some ((0 : Int32), q))
  else none
  else none)), (28, ((f_X11_image q).bind fun r115 =>
  (f_X12_image r115.2).bind fun r116 =>
  if r115.1 = r116.1 then
  (b_L_law_1517 Ls xs rec_18 r116.2 l3)
  else
  (some ((0 : Int32), r116.2)))), (29, ((f_X11_back q).bind fun r119 =>
  (f_X12_back r119.2).bind fun r120 =>
  if r119.1 = r120.1 then
  (b_L_law_1517 Ls xs rec_18 r120.2 l3)
  else
  (some ((0 : Int32), r120.2)))), (30, ((f_X11_undo q).bind fun r123 =>
  (f_X12_undo r123.2).bind fun r124 =>
  if r123.1 = r124.1 then
  (b_L_law_1517 Ls xs rec_18 r124.2 l3)
  else
  (some ((0 : Int32), r124.2)))), (31, ((f_X11_redo q).bind fun r127 =>
  (f_X12_redo r127.2).bind fun r128 =>
  if r127.1 = r128.1 then
  (b_L_law_1517 Ls xs rec_18 r128.2 l3)
  else
  (some ((0 : Int32), r128.2)))), (32, (if vin (l3 + (1 : Int32)) Ls then
  (f_X11_body q (xs (l3 + (1 : Int32)).toNatClampNeg)).bind fun r131 =>
  if vin (l3 + (1 : Int32)) Ls then
  (f_X12_body r131.2 (xs (l3 + (1 : Int32)).toNatClampNeg)).bind fun r132 =>
  if r131.1 = r132.1 then
  (b_L_law_1517 Ls xs rec_18 r132.2 l3)
  else
  (some ((0 : Int32), r132.2))
  else none
  else none)), (33, (if vin (l3 + (1 : Int32)) Ls then
  if vin (l3 + (2 : Int32)) Ls then
  if vin (l3 + (3 : Int32)) Ls then
  (f_X11_act q (xs (l3 + (1 : Int32)).toNatClampNeg) (xs (l3 + (2 : Int32)).toNatClampNeg) (xs (l3 + (3 : Int32)).toNatClampNeg)).bind fun r135 =>
  if vin (l3 + (1 : Int32)) Ls then
  if vin (l3 + (2 : Int32)) Ls then
  if vin (l3 + (3 : Int32)) Ls then
  (f_X12_act r135.2 (xs (l3 + (1 : Int32)).toNatClampNeg) (xs (l3 + (2 : Int32)).toNatClampNeg) (xs (l3 + (3 : Int32)).toNatClampNeg)).bind fun r136 =>
  if r135.1 = r136.1 then
  (b_L_law_1517 Ls xs rec_18 r136.2 l3)
  else
  (some ((0 : Int32), r136.2))
  else none
  else none
  else none
  else none
  else none
  else none)), (34, (if vin (l3 + (1 : Int32)) Ls then
  (f_X11_trace q (xs (l3 + (1 : Int32)).toNatClampNeg)).bind fun r139 =>
  if vin (l3 + (1 : Int32)) Ls then
  (f_X12_trace q (xs (l3 + (1 : Int32)).toNatClampNeg)).bind fun r140 =>
  if r139 = r140 then
  (b_L_law_1517 Ls xs rec_18 q l3)
  else
  (some ((0 : Int32), q))
  else none
  else none)), (35, (if vin (l3 + (1 : Int32)) Ls then
  if vin (l3 + (2 : Int32)) Ls then
  (f_X11_keep q (xs (l3 + (1 : Int32)).toNatClampNeg) (xs (l3 + (2 : Int32)).toNatClampNeg)).bind fun r143 =>
  if vin (l3 + (1 : Int32)) Ls then
  if vin (l3 + (2 : Int32)) Ls then
  (f_X12_keep r143.2 (xs (l3 + (1 : Int32)).toNatClampNeg) (xs (l3 + (2 : Int32)).toNatClampNeg)).bind fun r144 =>
  if r143.1 = r144.1 then
  (b_L_law_1517 Ls xs rec_18 r144.2 l3)
  else
  (some ((0 : Int32), r144.2))
  else none
  else none
  else none
  else none)), (36, (if vin (l3 + (1 : Int32)) Ls then
  if vin (l3 + (2 : Int32)) Ls then
  if vin (l3 + (3 : Int32)) Ls then
  (f_X11_row q (xs (l3 + (1 : Int32)).toNatClampNeg) (xs (l3 + (2 : Int32)).toNatClampNeg) (xs (l3 + (3 : Int32)).toNatClampNeg)).bind fun r147 =>
  if vin (l3 + (1 : Int32)) Ls then
  if vin (l3 + (2 : Int32)) Ls then
  if vin (l3 + (3 : Int32)) Ls then
  (f_X12_row r147.2 (xs (l3 + (1 : Int32)).toNatClampNeg) (xs (l3 + (2 : Int32)).toNatClampNeg) (xs (l3 + (3 : Int32)).toNatClampNeg)).bind fun r148 =>
  if r147.1 = r148.1 then
  (b_L_law_1517 Ls xs rec_18 r148.2 l3)
  else
  (some ((0 : Int32), r148.2))
  else none
  else none
  else none
  else none
  else none
  else none)), (37, (if vin (l3 + (1 : Int32)) Ls then
  if vin (l3 + (2 : Int32)) Ls then
  if vin (l3 + (3 : Int32)) Ls then
  if vin (l3 + (4 : Int32)) Ls then
  (f_X11_put q (xs (l3 + (1 : Int32)).toNatClampNeg) (xs (l3 + (2 : Int32)).toNatClampNeg) ((jlshl ((xs (l3 + (3 : Int32)).toNatClampNeg).toInt64) (32 : Int32)) ||| (((xs (l3 + (4 : Int32)).toNatClampNeg).toInt64) &&& (4294967295 : Int64)))).bind fun r151 =>
  if vin (l3 + (1 : Int32)) Ls then
  if vin (l3 + (2 : Int32)) Ls then
  if vin (l3 + (3 : Int32)) Ls then
  if vin (l3 + (4 : Int32)) Ls then
  (f_X12_put r151.2 (xs (l3 + (1 : Int32)).toNatClampNeg) (xs (l3 + (2 : Int32)).toNatClampNeg) ((jlshl ((xs (l3 + (3 : Int32)).toNatClampNeg).toInt64) (32 : Int32)) ||| (((xs (l3 + (4 : Int32)).toNatClampNeg).toInt64) &&& (4294967295 : Int64)))).bind fun r152 =>
  if r151.1 = r152.1 then
  (b_L_law_1517 Ls xs rec_18 r152.2 l3)
  else
  (some ((0 : Int32), r152.2))
  else none
  else none
  else none
  else none
  else none
  else none
  else none
  else none)), (38, (if vin (l3 + (1 : Int32)) Ls then
  if vin (l3 + (2 : Int32)) Ls then
  (f_X11_element q (xs (l3 + (1 : Int32)).toNatClampNeg) (xs (l3 + (2 : Int32)).toNatClampNeg)).bind fun r155 =>
  if vin (l3 + (1 : Int32)) Ls then
  if vin (l3 + (2 : Int32)) Ls then
  (f_X12_element q (xs (l3 + (1 : Int32)).toNatClampNeg) (xs (l3 + (2 : Int32)).toNatClampNeg)).bind fun r156 =>
  if (lg_cmp r155 r156) = 0 then
  (b_L_law_1517 Ls xs rec_18 q l3)
  else
  (some ((0 : Int32), q))
  else none
  else none
  else none
  else none)), (39, (if vin (l3 + (1 : Int32)) Ls then
  if vin (l3 + (2 : Int32)) Ls then
  if vin (l3 + (3 : Int32)) Ls then
  if vin (l3 + (4 : Int32)) Ls then
  if vin (l3 + (5 : Int32)) Ls then
  (f_X11_shift q (xs (l3 + (1 : Int32)).toNatClampNeg) (xs (l3 + (2 : Int32)).toNatClampNeg) (xs (l3 + (3 : Int32)).toNatClampNeg) (xs (l3 + (4 : Int32)).toNatClampNeg) (xs (l3 + (5 : Int32)).toNatClampNeg)).bind fun r159 =>
  if vin (l3 + (1 : Int32)) Ls then
  if vin (l3 + (2 : Int32)) Ls then
  if vin (l3 + (3 : Int32)) Ls then
  if vin (l3 + (4 : Int32)) Ls then
  if vin (l3 + (5 : Int32)) Ls then
  (f_X12_shift r159.2 (xs (l3 + (1 : Int32)).toNatClampNeg) (xs (l3 + (2 : Int32)).toNatClampNeg) (xs (l3 + (3 : Int32)).toNatClampNeg) (xs (l3 + (4 : Int32)).toNatClampNeg) (xs (l3 + (5 : Int32)).toNatClampNeg)).bind fun r160 =>
  if r159.1 = r160.1 then
  (b_L_law_1517 Ls xs rec_18 r160.2 l3)
  else
  (some ((0 : Int32), r160.2))
  else none
  else none
  else none
  else none
  else none
  else none
  else none
  else none
  else none
  else none)), (40, (if vin (l3 + (1 : Int32)) Ls then
  if vin (l3 + (2 : Int32)) Ls then
  (f_X11_taken q (xs (l3 + (1 : Int32)).toNatClampNeg) (xs (l3 + (2 : Int32)).toNatClampNeg)).bind fun r163 =>
  if vin (l3 + (1 : Int32)) Ls then
  if vin (l3 + (2 : Int32)) Ls then
  (f_X12_taken q (xs (l3 + (1 : Int32)).toNatClampNeg) (xs (l3 + (2 : Int32)).toNatClampNeg)).bind fun r164 =>
  if r163 = r164 then
  (b_L_law_1517 Ls xs rec_18 q l3)
  else
  (some ((0 : Int32), q))
  else none
  else none
  else none
  else none)), (41, (if vin (l3 + (1 : Int32)) Ls then
  (f_X11_count q (xs (l3 + (1 : Int32)).toNatClampNeg)).bind fun r167 =>
  if vin (l3 + (1 : Int32)) Ls then
  (f_X12_count q (xs (l3 + (1 : Int32)).toNatClampNeg)).bind fun r168 =>
  if r167 = r168 then
  (b_L_law_1517 Ls xs rec_18 q l3)
  else
  (some ((0 : Int32), q))
  else none
  else none))]
  (b_L_law_1517 Ls xs rec_18 q l3)
  else none)) FU
theorem rb_L_law_18 {E : EE} (hE : GE E) (q : SS) (l3 : Int32) : R E (κI E) 906 NM 18 [(0, .retAddr 0), (1, .ref 0), (2, .ref 60), (3, .int l3)] [] q (b_L_law_18 E.1 E.2.1 q l3) := by
  unfold b_L_law_18
  refine fx2_ok (P := fun q l3 o => R E (κI E) 906 NM 18 [(0, .retAddr 0), (1, .ref 0), (2, .ref 60), (3, .int l3)] [] q o) (fun _ _ => r_no) (fun rec_18 hrec_18 q l3 => ?_) _ _ _
  refine r_iload_n (x := l3) dL_law_18 rfl ?_
  refine r_roload_n (x := 0) dL_law_19 rfl ?_
  refine r_sclen dL_law_20 ?_
  refine r_bipush (v := (6 : Int32)) dL_law_21 rfl ?_
  refine r_isub dL_law_23 ?_
  refine r_icmp_gt (t := 1523) dL_law_24 rfl (fun h171 => ?_) (fun h171 => ?_)
  · refine r_iconst (v := (1 : Int32)) dL_law_1523 rfl ?_
    exact r_ireturn dL_law_1524 rfl rfl
  · refine r_roload_n (x := 0) dL_law_27 rfl ?_
    refine r_iload_n (x := l3) dL_law_28 rfl ?_
    refine r_scload dL_law_29 ?_
    refine r_bipush (v := (63 : Int32)) dL_law_30 rfl ?_
    refine r_iand dL_law_32 ?_
    refine r_nmI fun v1 _ => ?_
    refine r_sw1 (fun h2 => ?_) (fun h2 => ?_)
    · refine r_jmp (t := 216) dL_law_33 rfl (by rw [h2]; rfl) ?_
      refine r_aload_n (x := 0) dL_law_216 rfl ?_
      refine r_roload_n (x := 0) dL_law_217 rfl ?_
      refine r_iload_n (x := l3) dL_law_218 rfl ?_
      refine r_iconst (v := (1 : Int32)) dL_law_219 rfl ?_
      refine r_iadd dL_law_220 ?_
      refine r_scload dL_law_221 ?_
      refine r_callI (k := 0) (idx := 13) (y := 139) (as := [.ref 0, .int (E.2.1 (l3 + (1 : Int32)).toNatClampNeg)]) (rest := []) (L0 := [(0, .ref 0), (1, .int (E.2.1 (l3 + (1 : Int32)).toNatClampNeg))]) dL_law_222 rfl rfl rfl rfl rfl (vok_v (ob_0 hE) rfl) rfl (r_dep (by decide) (e_X11_person hE q (E.2.1 (l3 + (1 : Int32)).toNatClampNeg))) (fun r3 => ?_)
      refine r_aload_n (x := 60) dL_law_225 rfl ?_
      refine r_roload_n (x := 0) dL_law_226 rfl ?_
      refine r_iload_n (x := l3) dL_law_227 rfl ?_
      refine r_iconst (v := (1 : Int32)) dL_law_228 rfl ?_
      refine r_iadd dL_law_229 ?_
      refine r_scload dL_law_230 ?_
      refine r_callI (k := 0) (idx := 17) (y := 193) (as := [.ref 60, .int (E.2.1 (l3 + (1 : Int32)).toNatClampNeg)]) (rest := [.int r3.1]) (L0 := [(0, .ref 60), (1, .int (E.2.1 (l3 + (1 : Int32)).toNatClampNeg))]) dL_law_231 rfl rfl rfl rfl rfl (vok_v (ob_60 hE) rfl) rfl (r_dep (by decide) (e_X12_person hE r3.2 (E.2.1 (l3 + (1 : Int32)).toNatClampNeg))) (fun r4 => ?_)
      refine r_icmp_eq (t := 1517) dL_law_234 rfl (fun h5 => ?_) (fun h5 => ?_)
      · exact r_sub (L' := [(0, .retAddr 0), (1, .ref 0), (2, .ref 60), (3, .int l3)]) (sub_c rfl (sub_c rfl (sub_c rfl (sub_c rfl sub_n)))) (rb_L_law_1517 hE hrec_18 r4.2 l3)
      · refine r_iconst (v := (0 : Int32)) dL_law_237 rfl ?_
        exact r_ireturn dL_law_238 rfl rfl
    refine r_sw1 (fun h6 => ?_) (fun h6 => ?_)
    · refine r_jmp (t := 239) dL_law_33 rfl (by rw [h6]; rfl) ?_
      refine r_aload_n (x := 0) dL_law_239 rfl ?_
      refine r_roload_n (x := 0) dL_law_240 rfl ?_
      refine r_iload_n (x := l3) dL_law_241 rfl ?_
      refine r_iconst (v := (1 : Int32)) dL_law_242 rfl ?_
      refine r_iadd dL_law_243 ?_
      refine r_scload dL_law_244 ?_
      refine r_roload_n (x := 0) dL_law_245 rfl ?_
      refine r_iload_n (x := l3) dL_law_246 rfl ?_
      refine r_iconst (v := (2 : Int32)) dL_law_247 rfl ?_
      refine r_iadd dL_law_248 ?_
      refine r_scload dL_law_249 ?_
      refine r_callI (k := 0) (idx := 18) (y := 140) (as := [.ref 0, .int (E.2.1 (l3 + (1 : Int32)).toNatClampNeg), .int (E.2.1 (l3 + (2 : Int32)).toNatClampNeg)]) (rest := []) (L0 := [(0, .ref 0), (1, .int (E.2.1 (l3 + (1 : Int32)).toNatClampNeg)), (2, .int (E.2.1 (l3 + (2 : Int32)).toNatClampNeg))]) dL_law_250 rfl rfl rfl rfl rfl (vok_v (ob_0 hE) rfl) rfl (r_dep (by decide) (e_X11_ticket hE q (E.2.1 (l3 + (1 : Int32)).toNatClampNeg) (E.2.1 (l3 + (2 : Int32)).toNatClampNeg))) (fun r7 => ?_)
      refine r_aload_n (x := 60) dL_law_253 rfl ?_
      refine r_roload_n (x := 0) dL_law_254 rfl ?_
      refine r_iload_n (x := l3) dL_law_255 rfl ?_
      refine r_iconst (v := (1 : Int32)) dL_law_256 rfl ?_
      refine r_iadd dL_law_257 ?_
      refine r_scload dL_law_258 ?_
      refine r_roload_n (x := 0) dL_law_259 rfl ?_
      refine r_iload_n (x := l3) dL_law_260 rfl ?_
      refine r_iconst (v := (2 : Int32)) dL_law_261 rfl ?_
      refine r_iadd dL_law_262 ?_
      refine r_scload dL_law_263 ?_
      refine r_callI (k := 0) (idx := 22) (y := 196) (as := [.ref 60, .int (E.2.1 (l3 + (1 : Int32)).toNatClampNeg), .int (E.2.1 (l3 + (2 : Int32)).toNatClampNeg)]) (rest := [.int r7.1]) (L0 := [(0, .ref 60), (1, .int (E.2.1 (l3 + (1 : Int32)).toNatClampNeg)), (2, .int (E.2.1 (l3 + (2 : Int32)).toNatClampNeg))]) dL_law_264 rfl rfl rfl rfl rfl (vok_v (ob_60 hE) rfl) rfl (r_dep (by decide) (e_X12_ticket hE r7.2 (E.2.1 (l3 + (1 : Int32)).toNatClampNeg) (E.2.1 (l3 + (2 : Int32)).toNatClampNeg))) (fun r8 => ?_)
      refine r_icmp_eq (t := 1517) dL_law_267 rfl (fun h9 => ?_) (fun h9 => ?_)
      · exact r_sub (L' := [(0, .retAddr 0), (1, .ref 0), (2, .ref 60), (3, .int l3)]) (sub_c rfl (sub_c rfl (sub_c rfl (sub_c rfl sub_n)))) (rb_L_law_1517 hE hrec_18 r8.2 l3)
      · refine r_iconst (v := (0 : Int32)) dL_law_270 rfl ?_
        exact r_ireturn dL_law_271 rfl rfl
    refine r_sw1 (fun h10 => ?_) (fun h10 => ?_)
    · refine r_jmp (t := 272) dL_law_33 rfl (by rw [h10]; rfl) ?_
      refine r_aload_n (x := 0) dL_law_272 rfl ?_
      refine r_roload_n (x := 0) dL_law_273 rfl ?_
      refine r_iload_n (x := l3) dL_law_274 rfl ?_
      refine r_iconst (v := (1 : Int32)) dL_law_275 rfl ?_
      refine r_iadd dL_law_276 ?_
      refine r_scload dL_law_277 ?_
      refine r_roload_n (x := 0) dL_law_278 rfl ?_
      refine r_iload_n (x := l3) dL_law_279 rfl ?_
      refine r_iconst (v := (2 : Int32)) dL_law_280 rfl ?_
      refine r_iadd dL_law_281 ?_
      refine r_scload dL_law_282 ?_
      refine r_roload_n (x := 0) dL_law_283 rfl ?_
      refine r_iload_n (x := l3) dL_law_284 rfl ?_
      refine r_iconst (v := (3 : Int32)) dL_law_285 rfl ?_
      refine r_iadd dL_law_286 ?_
      refine r_scload dL_law_287 ?_
      refine r_callI (k := 0) (idx := 23) (y := 141) (as := [.ref 0, .int (E.2.1 (l3 + (1 : Int32)).toNatClampNeg), .int (E.2.1 (l3 + (2 : Int32)).toNatClampNeg), .int (E.2.1 (l3 + (3 : Int32)).toNatClampNeg)]) (rest := []) (L0 := [(0, .ref 0), (1, .int (E.2.1 (l3 + (1 : Int32)).toNatClampNeg)), (2, .int (E.2.1 (l3 + (2 : Int32)).toNatClampNeg)), (3, .int (E.2.1 (l3 + (3 : Int32)).toNatClampNeg))]) dL_law_288 rfl rfl rfl rfl rfl (vok_v (ob_0 hE) rfl) rfl (r_dep (by decide) (e_X11_tickets hE q (E.2.1 (l3 + (1 : Int32)).toNatClampNeg) (E.2.1 (l3 + (2 : Int32)).toNatClampNeg) (E.2.1 (l3 + (3 : Int32)).toNatClampNeg))) (fun r11 => ?_)
      refine r_aload_n (x := 60) dL_law_291 rfl ?_
      refine r_roload_n (x := 0) dL_law_292 rfl ?_
      refine r_iload_n (x := l3) dL_law_293 rfl ?_
      refine r_iconst (v := (1 : Int32)) dL_law_294 rfl ?_
      refine r_iadd dL_law_295 ?_
      refine r_scload dL_law_296 ?_
      refine r_roload_n (x := 0) dL_law_297 rfl ?_
      refine r_iload_n (x := l3) dL_law_298 rfl ?_
      refine r_iconst (v := (2 : Int32)) dL_law_299 rfl ?_
      refine r_iadd dL_law_300 ?_
      refine r_scload dL_law_301 ?_
      refine r_roload_n (x := 0) dL_law_302 rfl ?_
      refine r_iload_n (x := l3) dL_law_303 rfl ?_
      refine r_iconst (v := (3 : Int32)) dL_law_304 rfl ?_
      refine r_iadd dL_law_305 ?_
      refine r_scload dL_law_306 ?_
      refine r_callI (k := 0) (idx := 27) (y := 197) (as := [.ref 60, .int (E.2.1 (l3 + (1 : Int32)).toNatClampNeg), .int (E.2.1 (l3 + (2 : Int32)).toNatClampNeg), .int (E.2.1 (l3 + (3 : Int32)).toNatClampNeg)]) (rest := [.int r11.1]) (L0 := [(0, .ref 60), (1, .int (E.2.1 (l3 + (1 : Int32)).toNatClampNeg)), (2, .int (E.2.1 (l3 + (2 : Int32)).toNatClampNeg)), (3, .int (E.2.1 (l3 + (3 : Int32)).toNatClampNeg))]) dL_law_307 rfl rfl rfl rfl rfl (vok_v (ob_60 hE) rfl) rfl (r_dep (by decide) (e_X12_tickets hE r11.2 (E.2.1 (l3 + (1 : Int32)).toNatClampNeg) (E.2.1 (l3 + (2 : Int32)).toNatClampNeg) (E.2.1 (l3 + (3 : Int32)).toNatClampNeg))) (fun r12 => ?_)
      refine r_icmp_eq (t := 1517) dL_law_310 rfl (fun h13 => ?_) (fun h13 => ?_)
      · exact r_sub (L' := [(0, .retAddr 0), (1, .ref 0), (2, .ref 60), (3, .int l3)]) (sub_c rfl (sub_c rfl (sub_c rfl (sub_c rfl sub_n)))) (rb_L_law_1517 hE hrec_18 r12.2 l3)
      · refine r_iconst (v := (0 : Int32)) dL_law_313 rfl ?_
        exact r_ireturn dL_law_314 rfl rfl
    refine r_sw1 (fun h14 => ?_) (fun h14 => ?_)
    · refine r_jmp (t := 315) dL_law_33 rfl (by rw [h14]; rfl) ?_
      refine r_aload_n (x := 0) dL_law_315 rfl ?_
      refine r_roload_n (x := 0) dL_law_316 rfl ?_
      refine r_iload_n (x := l3) dL_law_317 rfl ?_
      refine r_iconst (v := (1 : Int32)) dL_law_318 rfl ?_
      refine r_iadd dL_law_319 ?_
      refine r_scload dL_law_320 ?_
      refine r_roload_n (x := 0) dL_law_321 rfl ?_
      refine r_iload_n (x := l3) dL_law_322 rfl ?_
      refine r_iconst (v := (2 : Int32)) dL_law_323 rfl ?_
      refine r_iadd dL_law_324 ?_
      refine r_scload dL_law_325 ?_
      refine r_roload_n (x := 0) dL_law_326 rfl ?_
      refine r_iload_n (x := l3) dL_law_327 rfl ?_
      refine r_iconst (v := (3 : Int32)) dL_law_328 rfl ?_
      refine r_iadd dL_law_329 ?_
      refine r_scload dL_law_330 ?_
      refine r_callI (k := 0) (idx := 28) (y := 143) (as := [.ref 0, .int (E.2.1 (l3 + (1 : Int32)).toNatClampNeg), .int (E.2.1 (l3 + (2 : Int32)).toNatClampNeg), .int (E.2.1 (l3 + (3 : Int32)).toNatClampNeg)]) (rest := []) (L0 := [(0, .ref 0), (1, .int (E.2.1 (l3 + (1 : Int32)).toNatClampNeg)), (2, .int (E.2.1 (l3 + (2 : Int32)).toNatClampNeg)), (3, .int (E.2.1 (l3 + (3 : Int32)).toNatClampNeg))]) dL_law_331 rfl rfl rfl rfl rfl (vok_v (ob_0 hE) rfl) rfl (r_dep (by decide) (e_X11_mend hE q (E.2.1 (l3 + (1 : Int32)).toNatClampNeg) (E.2.1 (l3 + (2 : Int32)).toNatClampNeg) (E.2.1 (l3 + (3 : Int32)).toNatClampNeg))) (fun r15 => ?_)
      refine r_aload_n (x := 60) dL_law_334 rfl ?_
      refine r_roload_n (x := 0) dL_law_335 rfl ?_
      refine r_iload_n (x := l3) dL_law_336 rfl ?_
      refine r_iconst (v := (1 : Int32)) dL_law_337 rfl ?_
      refine r_iadd dL_law_338 ?_
      refine r_scload dL_law_339 ?_
      refine r_roload_n (x := 0) dL_law_340 rfl ?_
      refine r_iload_n (x := l3) dL_law_341 rfl ?_
      refine r_iconst (v := (2 : Int32)) dL_law_342 rfl ?_
      refine r_iadd dL_law_343 ?_
      refine r_scload dL_law_344 ?_
      refine r_roload_n (x := 0) dL_law_345 rfl ?_
      refine r_iload_n (x := l3) dL_law_346 rfl ?_
      refine r_iconst (v := (3 : Int32)) dL_law_347 rfl ?_
      refine r_iadd dL_law_348 ?_
      refine r_scload dL_law_349 ?_
      refine r_callI (k := 0) (idx := 31) (y := 205) (as := [.ref 60, .int (E.2.1 (l3 + (1 : Int32)).toNatClampNeg), .int (E.2.1 (l3 + (2 : Int32)).toNatClampNeg), .int (E.2.1 (l3 + (3 : Int32)).toNatClampNeg)]) (rest := [.int r15.1]) (L0 := [(0, .ref 60), (1, .int (E.2.1 (l3 + (1 : Int32)).toNatClampNeg)), (2, .int (E.2.1 (l3 + (2 : Int32)).toNatClampNeg)), (3, .int (E.2.1 (l3 + (3 : Int32)).toNatClampNeg))]) dL_law_350 rfl rfl rfl rfl rfl (vok_v (ob_60 hE) rfl) rfl (r_dep (by decide) (e_X12_mend hE r15.2 (E.2.1 (l3 + (1 : Int32)).toNatClampNeg) (E.2.1 (l3 + (2 : Int32)).toNatClampNeg) (E.2.1 (l3 + (3 : Int32)).toNatClampNeg))) (fun r16 => ?_)
      refine r_icmp_eq (t := 1517) dL_law_353 rfl (fun h17 => ?_) (fun h17 => ?_)
      · exact r_sub (L' := [(0, .retAddr 0), (1, .ref 0), (2, .ref 60), (3, .int l3)]) (sub_c rfl (sub_c rfl (sub_c rfl (sub_c rfl sub_n)))) (rb_L_law_1517 hE hrec_18 r16.2 l3)
      · refine r_iconst (v := (0 : Int32)) dL_law_356 rfl ?_
        exact r_ireturn dL_law_357 rfl rfl
    refine r_sw1 (fun h18 => ?_) (fun h18 => ?_)
    · refine r_jmp (t := 358) dL_law_33 rfl (by rw [h18]; rfl) ?_
      refine r_aload_n (x := 0) dL_law_358 rfl ?_
      refine r_roload_n (x := 0) dL_law_359 rfl ?_
      refine r_iload_n (x := l3) dL_law_360 rfl ?_
      refine r_iconst (v := (1 : Int32)) dL_law_361 rfl ?_
      refine r_iadd dL_law_362 ?_
      refine r_scload dL_law_363 ?_
      refine r_roload_n (x := 0) dL_law_364 rfl ?_
      refine r_iload_n (x := l3) dL_law_365 rfl ?_
      refine r_iconst (v := (2 : Int32)) dL_law_366 rfl ?_
      refine r_iadd dL_law_367 ?_
      refine r_scload dL_law_368 ?_
      refine r_callI (k := 0) (idx := 32) (y := 144) (as := [.ref 0, .int (E.2.1 (l3 + (1 : Int32)).toNatClampNeg), .int (E.2.1 (l3 + (2 : Int32)).toNatClampNeg)]) (rest := []) (L0 := [(0, .ref 0), (1, .int (E.2.1 (l3 + (1 : Int32)).toNatClampNeg)), (2, .int (E.2.1 (l3 + (2 : Int32)).toNatClampNeg))]) dL_law_369 rfl rfl rfl rfl rfl (vok_v (ob_0 hE) rfl) rfl (r_dep (by decide) (e_X11_of hE q (E.2.1 (l3 + (1 : Int32)).toNatClampNeg) (E.2.1 (l3 + (2 : Int32)).toNatClampNeg))) (fun r19 => ?_)
      refine r_aload_n (x := 60) dL_law_372 rfl ?_
      refine r_roload_n (x := 0) dL_law_373 rfl ?_
      refine r_iload_n (x := l3) dL_law_374 rfl ?_
      refine r_iconst (v := (1 : Int32)) dL_law_375 rfl ?_
      refine r_iadd dL_law_376 ?_
      refine r_scload dL_law_377 ?_
      refine r_roload_n (x := 0) dL_law_378 rfl ?_
      refine r_iload_n (x := l3) dL_law_379 rfl ?_
      refine r_iconst (v := (2 : Int32)) dL_law_380 rfl ?_
      refine r_iadd dL_law_381 ?_
      refine r_scload dL_law_382 ?_
      refine r_callI (k := 0) (idx := 35) (y := 206) (as := [.ref 60, .int (E.2.1 (l3 + (1 : Int32)).toNatClampNeg), .int (E.2.1 (l3 + (2 : Int32)).toNatClampNeg)]) (rest := [.int r19.1]) (L0 := [(0, .ref 60), (1, .int (E.2.1 (l3 + (1 : Int32)).toNatClampNeg)), (2, .int (E.2.1 (l3 + (2 : Int32)).toNatClampNeg))]) dL_law_383 rfl rfl rfl rfl rfl (vok_v (ob_60 hE) rfl) rfl (r_dep (by decide) (e_X12_of hE r19.2 (E.2.1 (l3 + (1 : Int32)).toNatClampNeg) (E.2.1 (l3 + (2 : Int32)).toNatClampNeg))) (fun r20 => ?_)
      refine r_icmp_eq (t := 1517) dL_law_386 rfl (fun h21 => ?_) (fun h21 => ?_)
      · exact r_sub (L' := [(0, .retAddr 0), (1, .ref 0), (2, .ref 60), (3, .int l3)]) (sub_c rfl (sub_c rfl (sub_c rfl (sub_c rfl sub_n)))) (rb_L_law_1517 hE hrec_18 r20.2 l3)
      · refine r_iconst (v := (0 : Int32)) dL_law_389 rfl ?_
        exact r_ireturn dL_law_390 rfl rfl
    refine r_sw1 (fun h22 => ?_) (fun h22 => ?_)
    · refine r_jmp (t := 391) dL_law_33 rfl (by rw [h22]; rfl) ?_
      refine r_aload_n (x := 0) dL_law_391 rfl ?_
      refine r_roload_n (x := 0) dL_law_392 rfl ?_
      refine r_iload_n (x := l3) dL_law_393 rfl ?_
      refine r_iconst (v := (1 : Int32)) dL_law_394 rfl ?_
      refine r_iadd dL_law_395 ?_
      refine r_scload dL_law_396 ?_
      refine r_callI (k := 0) (idx := 36) (y := 145) (as := [.ref 0, .int (E.2.1 (l3 + (1 : Int32)).toNatClampNeg)]) (rest := []) (L0 := [(0, .ref 0), (1, .int (E.2.1 (l3 + (1 : Int32)).toNatClampNeg))]) dL_law_397 rfl rfl rfl rfl rfl (vok_v (ob_0 hE) rfl) rfl (r_dep (by decide) (e_X11_feed hE q (E.2.1 (l3 + (1 : Int32)).toNatClampNeg))) (fun r23 => ?_)
      refine r_aload_n (x := 60) dL_law_400 rfl ?_
      refine r_roload_n (x := 0) dL_law_401 rfl ?_
      refine r_iload_n (x := l3) dL_law_402 rfl ?_
      refine r_iconst (v := (1 : Int32)) dL_law_403 rfl ?_
      refine r_iadd dL_law_404 ?_
      refine r_scload dL_law_405 ?_
      refine r_callI (k := 0) (idx := 39) (y := 207) (as := [.ref 60, .int (E.2.1 (l3 + (1 : Int32)).toNatClampNeg)]) (rest := [.int r23.1]) (L0 := [(0, .ref 60), (1, .int (E.2.1 (l3 + (1 : Int32)).toNatClampNeg))]) dL_law_406 rfl rfl rfl rfl rfl (vok_v (ob_60 hE) rfl) rfl (r_dep (by decide) (e_X12_feed hE r23.2 (E.2.1 (l3 + (1 : Int32)).toNatClampNeg))) (fun r24 => ?_)
      refine r_icmp_eq (t := 1517) dL_law_409 rfl (fun h25 => ?_) (fun h25 => ?_)
      · exact r_sub (L' := [(0, .retAddr 0), (1, .ref 0), (2, .ref 60), (3, .int l3)]) (sub_c rfl (sub_c rfl (sub_c rfl (sub_c rfl sub_n)))) (rb_L_law_1517 hE hrec_18 r24.2 l3)
      · refine r_iconst (v := (0 : Int32)) dL_law_412 rfl ?_
        exact r_ireturn dL_law_413 rfl rfl
    refine r_sw1 (fun h26 => ?_) (fun h26 => ?_)
    · refine r_jmp (t := 414) dL_law_33 rfl (by rw [h26]; rfl) ?_
      refine r_aload_n (x := 0) dL_law_414 rfl ?_
      refine r_callI (k := 0) (idx := 40) (y := 146) (as := [.ref 0]) (rest := []) (L0 := [(0, .ref 0)]) dL_law_415 rfl rfl rfl rfl rfl (vok_v (ob_0 hE) rfl) rfl (r_dep (by decide) (e_X11_law hE q)) (fun r27 => ?_)
      refine r_aload_n (x := 60) dL_law_418 rfl ?_
      refine r_callI (k := 0) (idx := 44) (y := 225) (as := [.ref 60]) (rest := [.int r27.1]) (L0 := [(0, .ref 60)]) dL_law_419 rfl rfl rfl rfl rfl (vok_v (ob_60 hE) rfl) rfl (r_dep (by decide) (e_X12_law hE r27.2)) (fun r28 => ?_)
      refine r_icmp_eq (t := 1517) dL_law_422 rfl (fun h29 => ?_) (fun h29 => ?_)
      · exact r_sub (L' := [(0, .retAddr 0), (1, .ref 0), (2, .ref 60), (3, .int l3)]) (sub_c rfl (sub_c rfl (sub_c rfl (sub_c rfl sub_n)))) (rb_L_law_1517 hE hrec_18 r28.2 l3)
      · refine r_iconst (v := (0 : Int32)) dL_law_425 rfl ?_
        exact r_ireturn dL_law_426 rfl rfl
    refine r_sw1 (fun h30 => ?_) (fun h30 => ?_)
    · refine r_jmp (t := 427) dL_law_33 rfl (by rw [h30]; rfl) ?_
      refine r_aload_n (x := 0) dL_law_427 rfl ?_
      refine r_roload_n (x := 0) dL_law_428 rfl ?_
      refine r_iload_n (x := l3) dL_law_429 rfl ?_
      refine r_iconst (v := (1 : Int32)) dL_law_430 rfl ?_
      refine r_iadd dL_law_431 ?_
      refine r_scload dL_law_432 ?_
      refine r_callI (k := 0) (idx := 45) (y := 147) (as := [.ref 0, .int (E.2.1 (l3 + (1 : Int32)).toNatClampNeg)]) (rest := []) (L0 := [(0, .ref 0), (1, .int (E.2.1 (l3 + (1 : Int32)).toNatClampNeg))]) dL_law_433 rfl rfl rfl rfl rfl (vok_v (ob_0 hE) rfl) rfl (r_dep (by decide) (e_X11_odds hE q (E.2.1 (l3 + (1 : Int32)).toNatClampNeg))) (fun r31 => ?_)
      refine r_aload_n (x := 60) dL_law_436 rfl ?_
      refine r_roload_n (x := 0) dL_law_437 rfl ?_
      refine r_iload_n (x := l3) dL_law_438 rfl ?_
      refine r_iconst (v := (1 : Int32)) dL_law_439 rfl ?_
      refine r_iadd dL_law_440 ?_
      refine r_scload dL_law_441 ?_
      refine r_callI (k := 0) (idx := 48) (y := 233) (as := [.ref 60, .int (E.2.1 (l3 + (1 : Int32)).toNatClampNeg)]) (rest := [.int r31.1]) (L0 := [(0, .ref 60), (1, .int (E.2.1 (l3 + (1 : Int32)).toNatClampNeg))]) dL_law_442 rfl rfl rfl rfl rfl (vok_v (ob_60 hE) rfl) rfl (r_dep (by decide) (e_X12_odds hE r31.2 (E.2.1 (l3 + (1 : Int32)).toNatClampNeg))) (fun r32 => ?_)
      refine r_icmp_eq (t := 1517) dL_law_445 rfl (fun h33 => ?_) (fun h33 => ?_)
      · exact r_sub (L' := [(0, .retAddr 0), (1, .ref 0), (2, .ref 60), (3, .int l3)]) (sub_c rfl (sub_c rfl (sub_c rfl (sub_c rfl sub_n)))) (rb_L_law_1517 hE hrec_18 r32.2 l3)
      · refine r_iconst (v := (0 : Int32)) dL_law_448 rfl ?_
        exact r_ireturn dL_law_449 rfl rfl
    refine r_sw1 (fun h34 => ?_) (fun h34 => ?_)
    · refine r_jmp (t := 450) dL_law_33 rfl (by rw [h34]; rfl) ?_
      refine r_aload_n (x := 0) dL_law_450 rfl ?_
      refine r_roload_n (x := 0) dL_law_451 rfl ?_
      refine r_iload_n (x := l3) dL_law_452 rfl ?_
      refine r_iconst (v := (1 : Int32)) dL_law_453 rfl ?_
      refine r_iadd dL_law_454 ?_
      refine r_scload dL_law_455 ?_
      refine r_roload_n (x := 0) dL_law_456 rfl ?_
      refine r_iload_n (x := l3) dL_law_457 rfl ?_
      refine r_iconst (v := (2 : Int32)) dL_law_458 rfl ?_
      refine r_iadd dL_law_459 ?_
      refine r_scload dL_law_460 ?_
      refine r_roload_n (x := 0) dL_law_461 rfl ?_
      refine r_iload_n (x := l3) dL_law_462 rfl ?_
      refine r_iconst (v := (3 : Int32)) dL_law_463 rfl ?_
      refine r_iadd dL_law_464 ?_
      refine r_scload dL_law_465 ?_
      refine r_callI (k := 0) (idx := 49) (y := 149) (as := [.ref 0, .int (E.2.1 (l3 + (1 : Int32)).toNatClampNeg), .int (E.2.1 (l3 + (2 : Int32)).toNatClampNeg), .int (E.2.1 (l3 + (3 : Int32)).toNatClampNeg)]) (rest := []) (L0 := [(0, .ref 0), (1, .int (E.2.1 (l3 + (1 : Int32)).toNatClampNeg)), (2, .int (E.2.1 (l3 + (2 : Int32)).toNatClampNeg)), (3, .int (E.2.1 (l3 + (3 : Int32)).toNatClampNeg))]) dL_law_466 rfl rfl rfl rfl rfl (vok_v (ob_0 hE) rfl) rfl (r_dep (by decide) (e_X11_later hE q (E.2.1 (l3 + (1 : Int32)).toNatClampNeg) (E.2.1 (l3 + (2 : Int32)).toNatClampNeg) (E.2.1 (l3 + (3 : Int32)).toNatClampNeg))) (fun r35 => ?_)
      refine r_aload_n (x := 60) dL_law_469 rfl ?_
      refine r_roload_n (x := 0) dL_law_470 rfl ?_
      refine r_iload_n (x := l3) dL_law_471 rfl ?_
      refine r_iconst (v := (1 : Int32)) dL_law_472 rfl ?_
      refine r_iadd dL_law_473 ?_
      refine r_scload dL_law_474 ?_
      refine r_roload_n (x := 0) dL_law_475 rfl ?_
      refine r_iload_n (x := l3) dL_law_476 rfl ?_
      refine r_iconst (v := (2 : Int32)) dL_law_477 rfl ?_
      refine r_iadd dL_law_478 ?_
      refine r_scload dL_law_479 ?_
      refine r_roload_n (x := 0) dL_law_480 rfl ?_
      refine r_iload_n (x := l3) dL_law_481 rfl ?_
      refine r_iconst (v := (3 : Int32)) dL_law_482 rfl ?_
      refine r_iadd dL_law_483 ?_
      refine r_scload dL_law_484 ?_
      refine r_callI (k := 0) (idx := 52) (y := 239) (as := [.ref 60, .int (E.2.1 (l3 + (1 : Int32)).toNatClampNeg), .int (E.2.1 (l3 + (2 : Int32)).toNatClampNeg), .int (E.2.1 (l3 + (3 : Int32)).toNatClampNeg)]) (rest := [.int r35.1]) (L0 := [(0, .ref 60), (1, .int (E.2.1 (l3 + (1 : Int32)).toNatClampNeg)), (2, .int (E.2.1 (l3 + (2 : Int32)).toNatClampNeg)), (3, .int (E.2.1 (l3 + (3 : Int32)).toNatClampNeg))]) dL_law_485 rfl rfl rfl rfl rfl (vok_v (ob_60 hE) rfl) rfl (r_dep (by decide) (e_X12_later hE r35.2 (E.2.1 (l3 + (1 : Int32)).toNatClampNeg) (E.2.1 (l3 + (2 : Int32)).toNatClampNeg) (E.2.1 (l3 + (3 : Int32)).toNatClampNeg))) (fun r36 => ?_)
      refine r_icmp_eq (t := 1517) dL_law_488 rfl (fun h37 => ?_) (fun h37 => ?_)
      · exact r_sub (L' := [(0, .retAddr 0), (1, .ref 0), (2, .ref 60), (3, .int l3)]) (sub_c rfl (sub_c rfl (sub_c rfl (sub_c rfl sub_n)))) (rb_L_law_1517 hE hrec_18 r36.2 l3)
      · refine r_iconst (v := (0 : Int32)) dL_law_491 rfl ?_
        exact r_ireturn dL_law_492 rfl rfl
    refine r_sw1 (fun h38 => ?_) (fun h38 => ?_)
    · refine r_jmp (t := 493) dL_law_33 rfl (by rw [h38]; rfl) ?_
      refine r_aload_n (x := 0) dL_law_493 rfl ?_
      refine r_roload_n (x := 0) dL_law_494 rfl ?_
      refine r_iload_n (x := l3) dL_law_495 rfl ?_
      refine r_iconst (v := (1 : Int32)) dL_law_496 rfl ?_
      refine r_iadd dL_law_497 ?_
      refine r_scload dL_law_498 ?_
      refine r_roload_n (x := 0) dL_law_499 rfl ?_
      refine r_iload_n (x := l3) dL_law_500 rfl ?_
      refine r_iconst (v := (2 : Int32)) dL_law_501 rfl ?_
      refine r_iadd dL_law_502 ?_
      refine r_scload dL_law_503 ?_
      refine r_roload_n (x := 0) dL_law_504 rfl ?_
      refine r_iload_n (x := l3) dL_law_505 rfl ?_
      refine r_iconst (v := (3 : Int32)) dL_law_506 rfl ?_
      refine r_iadd dL_law_507 ?_
      refine r_scload dL_law_508 ?_
      refine r_callI (k := 0) (idx := 53) (y := 150) (as := [.ref 0, .int (E.2.1 (l3 + (1 : Int32)).toNatClampNeg), .int (E.2.1 (l3 + (2 : Int32)).toNatClampNeg), .int (E.2.1 (l3 + (3 : Int32)).toNatClampNeg)]) (rest := []) (L0 := [(0, .ref 0), (1, .int (E.2.1 (l3 + (1 : Int32)).toNatClampNeg)), (2, .int (E.2.1 (l3 + (2 : Int32)).toNatClampNeg)), (3, .int (E.2.1 (l3 + (3 : Int32)).toNatClampNeg))]) dL_law_509 rfl rfl rfl rfl rfl (vok_v (ob_0 hE) rfl) rfl (r_dep (by decide) (e_X11_eve hE q (E.2.1 (l3 + (1 : Int32)).toNatClampNeg) (E.2.1 (l3 + (2 : Int32)).toNatClampNeg) (E.2.1 (l3 + (3 : Int32)).toNatClampNeg))) (fun r39 => ?_)
      refine r_aload_n (x := 60) dL_law_512 rfl ?_
      refine r_roload_n (x := 0) dL_law_513 rfl ?_
      refine r_iload_n (x := l3) dL_law_514 rfl ?_
      refine r_iconst (v := (1 : Int32)) dL_law_515 rfl ?_
      refine r_iadd dL_law_516 ?_
      refine r_scload dL_law_517 ?_
      refine r_roload_n (x := 0) dL_law_518 rfl ?_
      refine r_iload_n (x := l3) dL_law_519 rfl ?_
      refine r_iconst (v := (2 : Int32)) dL_law_520 rfl ?_
      refine r_iadd dL_law_521 ?_
      refine r_scload dL_law_522 ?_
      refine r_roload_n (x := 0) dL_law_523 rfl ?_
      refine r_iload_n (x := l3) dL_law_524 rfl ?_
      refine r_iconst (v := (3 : Int32)) dL_law_525 rfl ?_
      refine r_iadd dL_law_526 ?_
      refine r_scload dL_law_527 ?_
      refine r_callI (k := 0) (idx := 56) (y := 240) (as := [.ref 60, .int (E.2.1 (l3 + (1 : Int32)).toNatClampNeg), .int (E.2.1 (l3 + (2 : Int32)).toNatClampNeg), .int (E.2.1 (l3 + (3 : Int32)).toNatClampNeg)]) (rest := [.int r39.1]) (L0 := [(0, .ref 60), (1, .int (E.2.1 (l3 + (1 : Int32)).toNatClampNeg)), (2, .int (E.2.1 (l3 + (2 : Int32)).toNatClampNeg)), (3, .int (E.2.1 (l3 + (3 : Int32)).toNatClampNeg))]) dL_law_528 rfl rfl rfl rfl rfl (vok_v (ob_60 hE) rfl) rfl (r_dep (by decide) (e_X12_eve hE r39.2 (E.2.1 (l3 + (1 : Int32)).toNatClampNeg) (E.2.1 (l3 + (2 : Int32)).toNatClampNeg) (E.2.1 (l3 + (3 : Int32)).toNatClampNeg))) (fun r40 => ?_)
      refine r_icmp_eq (t := 1517) dL_law_531 rfl (fun h41 => ?_) (fun h41 => ?_)
      · exact r_sub (L' := [(0, .retAddr 0), (1, .ref 0), (2, .ref 60), (3, .int l3)]) (sub_c rfl (sub_c rfl (sub_c rfl (sub_c rfl sub_n)))) (rb_L_law_1517 hE hrec_18 r40.2 l3)
      · refine r_iconst (v := (0 : Int32)) dL_law_534 rfl ?_
        exact r_ireturn dL_law_535 rfl rfl
    refine r_sw1 (fun h42 => ?_) (fun h42 => ?_)
    · refine r_jmp (t := 536) dL_law_33 rfl (by rw [h42]; rfl) ?_
      refine r_aload_n (x := 0) dL_law_536 rfl ?_
      refine r_roload_n (x := 0) dL_law_537 rfl ?_
      refine r_iload_n (x := l3) dL_law_538 rfl ?_
      refine r_iconst (v := (1 : Int32)) dL_law_539 rfl ?_
      refine r_iadd dL_law_540 ?_
      refine r_scload dL_law_541 ?_
      refine r_roload_n (x := 0) dL_law_542 rfl ?_
      refine r_iload_n (x := l3) dL_law_543 rfl ?_
      refine r_iconst (v := (2 : Int32)) dL_law_544 rfl ?_
      refine r_iadd dL_law_545 ?_
      refine r_scload dL_law_546 ?_
      refine r_roload_n (x := 0) dL_law_547 rfl ?_
      refine r_iload_n (x := l3) dL_law_548 rfl ?_
      refine r_iconst (v := (3 : Int32)) dL_law_549 rfl ?_
      refine r_iadd dL_law_550 ?_
      refine r_scload dL_law_551 ?_
      refine r_callL (k := 0) (idx := 57) (y := 151) (as := [.ref 0, .int (E.2.1 (l3 + (1 : Int32)).toNatClampNeg), .int (E.2.1 (l3 + (2 : Int32)).toNatClampNeg), .int (E.2.1 (l3 + (3 : Int32)).toNatClampNeg)]) (rest := []) (L0 := [(0, .ref 0), (1, .int (E.2.1 (l3 + (1 : Int32)).toNatClampNeg)), (2, .int (E.2.1 (l3 + (2 : Int32)).toNatClampNeg)), (3, .int (E.2.1 (l3 + (3 : Int32)).toNatClampNeg))]) dL_law_552 rfl rfl rfl rfl rfl (vok_v (ob_0 hE) rfl) rfl (r_dep (by decide) (e_X11_likely hE q (E.2.1 (l3 + (1 : Int32)).toNatClampNeg) (E.2.1 (l3 + (2 : Int32)).toNatClampNeg) (E.2.1 (l3 + (3 : Int32)).toNatClampNeg))) (fun r43 => ?_)
      refine r_aload_n (x := 60) dL_law_555 rfl ?_
      refine r_roload_n (x := 0) dL_law_556 rfl ?_
      refine r_iload_n (x := l3) dL_law_557 rfl ?_
      refine r_iconst (v := (1 : Int32)) dL_law_558 rfl ?_
      refine r_iadd dL_law_559 ?_
      refine r_scload dL_law_560 ?_
      refine r_roload_n (x := 0) dL_law_561 rfl ?_
      refine r_iload_n (x := l3) dL_law_562 rfl ?_
      refine r_iconst (v := (2 : Int32)) dL_law_563 rfl ?_
      refine r_iadd dL_law_564 ?_
      refine r_scload dL_law_565 ?_
      refine r_roload_n (x := 0) dL_law_566 rfl ?_
      refine r_iload_n (x := l3) dL_law_567 rfl ?_
      refine r_iconst (v := (3 : Int32)) dL_law_568 rfl ?_
      refine r_iadd dL_law_569 ?_
      refine r_scload dL_law_570 ?_
      refine r_callL (k := 0) (idx := 61) (y := 242) (as := [.ref 60, .int (E.2.1 (l3 + (1 : Int32)).toNatClampNeg), .int (E.2.1 (l3 + (2 : Int32)).toNatClampNeg), .int (E.2.1 (l3 + (3 : Int32)).toNatClampNeg)]) (rest := [.long r43.1]) (L0 := [(0, .ref 60), (1, .int (E.2.1 (l3 + (1 : Int32)).toNatClampNeg)), (2, .int (E.2.1 (l3 + (2 : Int32)).toNatClampNeg)), (3, .int (E.2.1 (l3 + (3 : Int32)).toNatClampNeg))]) dL_law_571 rfl rfl rfl rfl rfl (vok_v (ob_60 hE) rfl) rfl (r_dep (by decide) (e_X12_likely hE r43.2 (E.2.1 (l3 + (1 : Int32)).toNatClampNeg) (E.2.1 (l3 + (2 : Int32)).toNatClampNeg) (E.2.1 (l3 + (3 : Int32)).toNatClampNeg))) (fun r44 => ?_)
      refine r_lcmp dL_law_574 ?_
      refine r_if_eq (t := 1517) dL_law_575 rfl (fun h45 => ?_) (fun h45 => ?_)
      · exact r_sub (L' := [(0, .retAddr 0), (1, .ref 0), (2, .ref 60), (3, .int l3)]) (sub_c rfl (sub_c rfl (sub_c rfl (sub_c rfl sub_n)))) (rb_L_law_1517 hE hrec_18 r44.2 l3)
      · refine r_iconst (v := (0 : Int32)) dL_law_578 rfl ?_
        exact r_ireturn dL_law_579 rfl rfl
    refine r_sw1 (fun h46 => ?_) (fun h46 => ?_)
    · refine r_jmp (t := 580) dL_law_33 rfl (by rw [h46]; rfl) ?_
      refine r_aload_n (x := 0) dL_law_580 rfl ?_
      refine r_roload_n (x := 0) dL_law_581 rfl ?_
      refine r_iload_n (x := l3) dL_law_582 rfl ?_
      refine r_iconst (v := (1 : Int32)) dL_law_583 rfl ?_
      refine r_iadd dL_law_584 ?_
      refine r_scload dL_law_585 ?_
      refine r_roload_n (x := 0) dL_law_586 rfl ?_
      refine r_iload_n (x := l3) dL_law_587 rfl ?_
      refine r_iconst (v := (2 : Int32)) dL_law_588 rfl ?_
      refine r_iadd dL_law_589 ?_
      refine r_scload dL_law_590 ?_
      refine r_callL (k := 0) (idx := 62) (y := 152) (as := [.ref 0, .int (E.2.1 (l3 + (1 : Int32)).toNatClampNeg), .int (E.2.1 (l3 + (2 : Int32)).toNatClampNeg)]) (rest := []) (L0 := [(0, .ref 0), (1, .int (E.2.1 (l3 + (1 : Int32)).toNatClampNeg)), (2, .int (E.2.1 (l3 + (2 : Int32)).toNatClampNeg))]) dL_law_591 rfl rfl rfl rfl rfl (vok_v (ob_0 hE) rfl) rfl (r_dep (by decide) (e_X11_all hE q (E.2.1 (l3 + (1 : Int32)).toNatClampNeg) (E.2.1 (l3 + (2 : Int32)).toNatClampNeg))) (fun r47 => ?_)
      refine r_aload_n (x := 60) dL_law_594 rfl ?_
      refine r_roload_n (x := 0) dL_law_595 rfl ?_
      refine r_iload_n (x := l3) dL_law_596 rfl ?_
      refine r_iconst (v := (1 : Int32)) dL_law_597 rfl ?_
      refine r_iadd dL_law_598 ?_
      refine r_scload dL_law_599 ?_
      refine r_roload_n (x := 0) dL_law_600 rfl ?_
      refine r_iload_n (x := l3) dL_law_601 rfl ?_
      refine r_iconst (v := (2 : Int32)) dL_law_602 rfl ?_
      refine r_iadd dL_law_603 ?_
      refine r_scload dL_law_604 ?_
      refine r_callL (k := 0) (idx := 66) (y := 243) (as := [.ref 60, .int (E.2.1 (l3 + (1 : Int32)).toNatClampNeg), .int (E.2.1 (l3 + (2 : Int32)).toNatClampNeg)]) (rest := [.long r47.1]) (L0 := [(0, .ref 60), (1, .int (E.2.1 (l3 + (1 : Int32)).toNatClampNeg)), (2, .int (E.2.1 (l3 + (2 : Int32)).toNatClampNeg))]) dL_law_605 rfl rfl rfl rfl rfl (vok_v (ob_60 hE) rfl) rfl (r_dep (by decide) (e_X12_all hE r47.2 (E.2.1 (l3 + (1 : Int32)).toNatClampNeg) (E.2.1 (l3 + (2 : Int32)).toNatClampNeg))) (fun r48 => ?_)
      refine r_lcmp dL_law_608 ?_
      refine r_if_eq (t := 1517) dL_law_609 rfl (fun h49 => ?_) (fun h49 => ?_)
      · exact r_sub (L' := [(0, .retAddr 0), (1, .ref 0), (2, .ref 60), (3, .int l3)]) (sub_c rfl (sub_c rfl (sub_c rfl (sub_c rfl sub_n)))) (rb_L_law_1517 hE hrec_18 r48.2 l3)
      · refine r_iconst (v := (0 : Int32)) dL_law_612 rfl ?_
        exact r_ireturn dL_law_613 rfl rfl
    refine r_sw1 (fun h50 => ?_) (fun h50 => ?_)
    · refine r_jmp (t := 614) dL_law_33 rfl (by rw [h50]; rfl) ?_
      refine r_aload_n (x := 0) dL_law_614 rfl ?_
      refine r_roload_n (x := 0) dL_law_615 rfl ?_
      refine r_iload_n (x := l3) dL_law_616 rfl ?_
      refine r_iconst (v := (1 : Int32)) dL_law_617 rfl ?_
      refine r_iadd dL_law_618 ?_
      refine r_scload dL_law_619 ?_
      refine r_roload_n (x := 0) dL_law_620 rfl ?_
      refine r_iload_n (x := l3) dL_law_621 rfl ?_
      refine r_iconst (v := (2 : Int32)) dL_law_622 rfl ?_
      refine r_iadd dL_law_623 ?_
      refine r_scload dL_law_624 ?_
      refine r_callL (k := 0) (idx := 67) (y := 155) (as := [.ref 0, .int (E.2.1 (l3 + (1 : Int32)).toNatClampNeg), .int (E.2.1 (l3 + (2 : Int32)).toNatClampNeg)]) (rest := []) (L0 := [(0, .ref 0), (1, .int (E.2.1 (l3 + (1 : Int32)).toNatClampNeg)), (2, .int (E.2.1 (l3 + (2 : Int32)).toNatClampNeg))]) dL_law_625 rfl rfl rfl rfl rfl (vok_v (ob_0 hE) rfl) rfl (r_dep (by decide) (e_X11_king hE q (E.2.1 (l3 + (1 : Int32)).toNatClampNeg) (E.2.1 (l3 + (2 : Int32)).toNatClampNeg))) (fun r51 => ?_)
      refine r_aload_n (x := 60) dL_law_628 rfl ?_
      refine r_roload_n (x := 0) dL_law_629 rfl ?_
      refine r_iload_n (x := l3) dL_law_630 rfl ?_
      refine r_iconst (v := (1 : Int32)) dL_law_631 rfl ?_
      refine r_iadd dL_law_632 ?_
      refine r_scload dL_law_633 ?_
      refine r_roload_n (x := 0) dL_law_634 rfl ?_
      refine r_iload_n (x := l3) dL_law_635 rfl ?_
      refine r_iconst (v := (2 : Int32)) dL_law_636 rfl ?_
      refine r_iadd dL_law_637 ?_
      refine r_scload dL_law_638 ?_
      refine r_callL (k := 0) (idx := 70) (y := 244) (as := [.ref 60, .int (E.2.1 (l3 + (1 : Int32)).toNatClampNeg), .int (E.2.1 (l3 + (2 : Int32)).toNatClampNeg)]) (rest := [.long r51.1]) (L0 := [(0, .ref 60), (1, .int (E.2.1 (l3 + (1 : Int32)).toNatClampNeg)), (2, .int (E.2.1 (l3 + (2 : Int32)).toNatClampNeg))]) dL_law_639 rfl rfl rfl rfl rfl (vok_v (ob_60 hE) rfl) rfl (r_dep (by decide) (e_X12_king hE r51.2 (E.2.1 (l3 + (1 : Int32)).toNatClampNeg) (E.2.1 (l3 + (2 : Int32)).toNatClampNeg))) (fun r52 => ?_)
      refine r_lcmp dL_law_642 ?_
      refine r_if_eq (t := 1517) dL_law_643 rfl (fun h53 => ?_) (fun h53 => ?_)
      · exact r_sub (L' := [(0, .retAddr 0), (1, .ref 0), (2, .ref 60), (3, .int l3)]) (sub_c rfl (sub_c rfl (sub_c rfl (sub_c rfl sub_n)))) (rb_L_law_1517 hE hrec_18 r52.2 l3)
      · refine r_iconst (v := (0 : Int32)) dL_law_646 rfl ?_
        exact r_ireturn dL_law_647 rfl rfl
    refine r_sw1 (fun h54 => ?_) (fun h54 => ?_)
    · refine r_jmp (t := 648) dL_law_33 rfl (by rw [h54]; rfl) ?_
      refine r_aload_n (x := 0) dL_law_648 rfl ?_
      refine r_callI (k := 0) (idx := 71) (y := 156) (as := [.ref 0]) (rest := []) (L0 := [(0, .ref 0)]) dL_law_649 rfl rfl rfl rfl rfl (vok_v (ob_0 hE) rfl) rfl (r_dep (by decide) (e_X11_safe hE q)) (fun r55 => ?_)
      refine r_aload_n (x := 60) dL_law_652 rfl ?_
      refine r_callI (k := 0) (idx := 74) (y := 245) (as := [.ref 60]) (rest := [.int r55.1]) (L0 := [(0, .ref 60)]) dL_law_653 rfl rfl rfl rfl rfl (vok_v (ob_60 hE) rfl) rfl (r_dep (by decide) (e_X12_safe hE r55.2)) (fun r56 => ?_)
      refine r_icmp_eq (t := 1517) dL_law_656 rfl (fun h57 => ?_) (fun h57 => ?_)
      · exact r_sub (L' := [(0, .retAddr 0), (1, .ref 0), (2, .ref 60), (3, .int l3)]) (sub_c rfl (sub_c rfl (sub_c rfl (sub_c rfl sub_n)))) (rb_L_law_1517 hE hrec_18 r56.2 l3)
      · refine r_iconst (v := (0 : Int32)) dL_law_659 rfl ?_
        exact r_ireturn dL_law_660 rfl rfl
    refine r_sw1 (fun h58 => ?_) (fun h58 => ?_)
    · refine r_jmp (t := 661) dL_law_33 rfl (by rw [h58]; rfl) ?_
      refine r_aload_n (x := 0) dL_law_661 rfl ?_
      refine r_callI (k := 0) (idx := 75) (y := 157) (as := [.ref 0]) (rest := []) (L0 := [(0, .ref 0)]) dL_law_662 rfl rfl rfl rfl rfl (vok_v (ob_0 hE) rfl) rfl (r_dep (by decide) (e_X11_likeliest hE q)) (fun r59 => ?_)
      refine r_aload_n (x := 60) dL_law_665 rfl ?_
      refine r_callI (k := 0) (idx := 78) (y := 246) (as := [.ref 60]) (rest := [.int r59.1]) (L0 := [(0, .ref 60)]) dL_law_666 rfl rfl rfl rfl rfl (vok_v (ob_60 hE) rfl) rfl (r_dep (by decide) (e_X12_likeliest hE r59.2)) (fun r60 => ?_)
      refine r_icmp_eq (t := 1517) dL_law_669 rfl (fun h61 => ?_) (fun h61 => ?_)
      · exact r_sub (L' := [(0, .retAddr 0), (1, .ref 0), (2, .ref 60), (3, .int l3)]) (sub_c rfl (sub_c rfl (sub_c rfl (sub_c rfl sub_n)))) (rb_L_law_1517 hE hrec_18 r60.2 l3)
      · refine r_iconst (v := (0 : Int32)) dL_law_672 rfl ?_
        exact r_ireturn dL_law_673 rfl rfl
    refine r_sw1 (fun h62 => ?_) (fun h62 => ?_)
    · refine r_jmp (t := 674) dL_law_33 rfl (by rw [h62]; rfl) ?_
      refine r_aload_n (x := 0) dL_law_674 rfl ?_
      refine r_roload_n (x := 0) dL_law_675 rfl ?_
      refine r_iload_n (x := l3) dL_law_676 rfl ?_
      refine r_iconst (v := (1 : Int32)) dL_law_677 rfl ?_
      refine r_iadd dL_law_678 ?_
      refine r_scload dL_law_679 ?_
      refine r_callI (k := 0) (idx := 79) (y := 158) (as := [.ref 0, .int (E.2.1 (l3 + (1 : Int32)).toNatClampNeg)]) (rest := []) (L0 := [(0, .ref 0), (1, .int (E.2.1 (l3 + (1 : Int32)).toNatClampNeg))]) dL_law_680 rfl rfl rfl rfl rfl (vok_v (ob_0 hE) rfl) rfl (r_dep (by decide) (e_X11_watch hE q (E.2.1 (l3 + (1 : Int32)).toNatClampNeg))) (fun r63 => ?_)
      refine r_aload_n (x := 60) dL_law_683 rfl ?_
      refine r_roload_n (x := 0) dL_law_684 rfl ?_
      refine r_iload_n (x := l3) dL_law_685 rfl ?_
      refine r_iconst (v := (1 : Int32)) dL_law_686 rfl ?_
      refine r_iadd dL_law_687 ?_
      refine r_scload dL_law_688 ?_
      refine r_callI (k := 0) (idx := 82) (y := 247) (as := [.ref 60, .int (E.2.1 (l3 + (1 : Int32)).toNatClampNeg)]) (rest := [.int r63.1]) (L0 := [(0, .ref 60), (1, .int (E.2.1 (l3 + (1 : Int32)).toNatClampNeg))]) dL_law_689 rfl rfl rfl rfl rfl (vok_v (ob_60 hE) rfl) rfl (r_dep (by decide) (e_X12_watch hE r63.2 (E.2.1 (l3 + (1 : Int32)).toNatClampNeg))) (fun r64 => ?_)
      refine r_icmp_eq (t := 1517) dL_law_692 rfl (fun h65 => ?_) (fun h65 => ?_)
      · exact r_sub (L' := [(0, .retAddr 0), (1, .ref 0), (2, .ref 60), (3, .int l3)]) (sub_c rfl (sub_c rfl (sub_c rfl (sub_c rfl sub_n)))) (rb_L_law_1517 hE hrec_18 r64.2 l3)
      · refine r_iconst (v := (0 : Int32)) dL_law_695 rfl ?_
        exact r_ireturn dL_law_696 rfl rfl
    refine r_sw1 (fun h66 => ?_) (fun h66 => ?_)
    · refine r_jmp (t := 697) dL_law_33 rfl (by rw [h66]; rfl) ?_
      refine r_aload_n (x := 0) dL_law_697 rfl ?_
      refine r_roload_n (x := 0) dL_law_698 rfl ?_
      refine r_iload_n (x := l3) dL_law_699 rfl ?_
      refine r_iconst (v := (1 : Int32)) dL_law_700 rfl ?_
      refine r_iadd dL_law_701 ?_
      refine r_scload dL_law_702 ?_
      refine r_roload_n (x := 0) dL_law_703 rfl ?_
      refine r_iload_n (x := l3) dL_law_704 rfl ?_
      refine r_iconst (v := (2 : Int32)) dL_law_705 rfl ?_
      refine r_iadd dL_law_706 ?_
      refine r_scload dL_law_707 ?_
      refine r_roload_n (x := 0) dL_law_708 rfl ?_
      refine r_iload_n (x := l3) dL_law_709 rfl ?_
      refine r_iconst (v := (3 : Int32)) dL_law_710 rfl ?_
      refine r_iadd dL_law_711 ?_
      refine r_scload dL_law_712 ?_
      refine r_callL (k := 0) (idx := 83) (y := 159) (as := [.ref 0, .int (E.2.1 (l3 + (1 : Int32)).toNatClampNeg), .int (E.2.1 (l3 + (2 : Int32)).toNatClampNeg), .int (E.2.1 (l3 + (3 : Int32)).toNatClampNeg)]) (rest := []) (L0 := [(0, .ref 0), (1, .int (E.2.1 (l3 + (1 : Int32)).toNatClampNeg)), (2, .int (E.2.1 (l3 + (2 : Int32)).toNatClampNeg)), (3, .int (E.2.1 (l3 + (3 : Int32)).toNatClampNeg))]) dL_law_713 rfl rfl rfl rfl rfl (vok_v (ob_0 hE) rfl) rfl (r_dep (by decide) (e_X11_rid hE q (E.2.1 (l3 + (1 : Int32)).toNatClampNeg) (E.2.1 (l3 + (2 : Int32)).toNatClampNeg) (E.2.1 (l3 + (3 : Int32)).toNatClampNeg))) (fun r67 => ?_)
      refine r_aload_n (x := 60) dL_law_716 rfl ?_
      refine r_roload_n (x := 0) dL_law_717 rfl ?_
      refine r_iload_n (x := l3) dL_law_718 rfl ?_
      refine r_iconst (v := (1 : Int32)) dL_law_719 rfl ?_
      refine r_iadd dL_law_720 ?_
      refine r_scload dL_law_721 ?_
      refine r_roload_n (x := 0) dL_law_722 rfl ?_
      refine r_iload_n (x := l3) dL_law_723 rfl ?_
      refine r_iconst (v := (2 : Int32)) dL_law_724 rfl ?_
      refine r_iadd dL_law_725 ?_
      refine r_scload dL_law_726 ?_
      refine r_roload_n (x := 0) dL_law_727 rfl ?_
      refine r_iload_n (x := l3) dL_law_728 rfl ?_
      refine r_iconst (v := (3 : Int32)) dL_law_729 rfl ?_
      refine r_iadd dL_law_730 ?_
      refine r_scload dL_law_731 ?_
      refine r_callL (k := 0) (idx := 86) (y := 252) (as := [.ref 60, .int (E.2.1 (l3 + (1 : Int32)).toNatClampNeg), .int (E.2.1 (l3 + (2 : Int32)).toNatClampNeg), .int (E.2.1 (l3 + (3 : Int32)).toNatClampNeg)]) (rest := [.long r67.1]) (L0 := [(0, .ref 60), (1, .int (E.2.1 (l3 + (1 : Int32)).toNatClampNeg)), (2, .int (E.2.1 (l3 + (2 : Int32)).toNatClampNeg)), (3, .int (E.2.1 (l3 + (3 : Int32)).toNatClampNeg))]) dL_law_732 rfl rfl rfl rfl rfl (vok_v (ob_60 hE) rfl) rfl (r_dep (by decide) (e_X12_rid hE r67.2 (E.2.1 (l3 + (1 : Int32)).toNatClampNeg) (E.2.1 (l3 + (2 : Int32)).toNatClampNeg) (E.2.1 (l3 + (3 : Int32)).toNatClampNeg))) (fun r68 => ?_)
      refine r_lcmp dL_law_735 ?_
      refine r_if_eq (t := 1517) dL_law_736 rfl (fun h69 => ?_) (fun h69 => ?_)
      · exact r_sub (L' := [(0, .retAddr 0), (1, .ref 0), (2, .ref 60), (3, .int l3)]) (sub_c rfl (sub_c rfl (sub_c rfl (sub_c rfl sub_n)))) (rb_L_law_1517 hE hrec_18 r68.2 l3)
      · refine r_iconst (v := (0 : Int32)) dL_law_739 rfl ?_
        exact r_ireturn dL_law_740 rfl rfl
    refine r_sw1 (fun h70 => ?_) (fun h70 => ?_)
    · refine r_jmp (t := 741) dL_law_33 rfl (by rw [h70]; rfl) ?_
      refine r_aload_n (x := 0) dL_law_741 rfl ?_
      refine r_roload_n (x := 0) dL_law_742 rfl ?_
      refine r_iload_n (x := l3) dL_law_743 rfl ?_
      refine r_iconst (v := (1 : Int32)) dL_law_744 rfl ?_
      refine r_iadd dL_law_745 ?_
      refine r_scload dL_law_746 ?_
      refine r_roload_n (x := 0) dL_law_747 rfl ?_
      refine r_iload_n (x := l3) dL_law_748 rfl ?_
      refine r_iconst (v := (2 : Int32)) dL_law_749 rfl ?_
      refine r_iadd dL_law_750 ?_
      refine r_scload dL_law_751 ?_
      refine r_callI (k := 0) (idx := 87) (y := 160) (as := [.ref 0, .int (E.2.1 (l3 + (1 : Int32)).toNatClampNeg), .int (E.2.1 (l3 + (2 : Int32)).toNatClampNeg)]) (rest := []) (L0 := [(0, .ref 0), (1, .int (E.2.1 (l3 + (1 : Int32)).toNatClampNeg)), (2, .int (E.2.1 (l3 + (2 : Int32)).toNatClampNeg))]) dL_law_752 rfl rfl rfl rfl rfl (vok_v (ob_0 hE) rfl) rfl (r_dep (by decide) (e_X11_first hE q (E.2.1 (l3 + (1 : Int32)).toNatClampNeg) (E.2.1 (l3 + (2 : Int32)).toNatClampNeg))) (fun r71 => ?_)
      refine r_aload_n (x := 60) dL_law_755 rfl ?_
      refine r_roload_n (x := 0) dL_law_756 rfl ?_
      refine r_iload_n (x := l3) dL_law_757 rfl ?_
      refine r_iconst (v := (1 : Int32)) dL_law_758 rfl ?_
      refine r_iadd dL_law_759 ?_
      refine r_scload dL_law_760 ?_
      refine r_roload_n (x := 0) dL_law_761 rfl ?_
      refine r_iload_n (x := l3) dL_law_762 rfl ?_
      refine r_iconst (v := (2 : Int32)) dL_law_763 rfl ?_
      refine r_iadd dL_law_764 ?_
      refine r_scload dL_law_765 ?_
      refine r_callI (k := 0) (idx := 90) (y := 253) (as := [.ref 60, .int (E.2.1 (l3 + (1 : Int32)).toNatClampNeg), .int (E.2.1 (l3 + (2 : Int32)).toNatClampNeg)]) (rest := [.int r71.1]) (L0 := [(0, .ref 60), (1, .int (E.2.1 (l3 + (1 : Int32)).toNatClampNeg)), (2, .int (E.2.1 (l3 + (2 : Int32)).toNatClampNeg))]) dL_law_766 rfl rfl rfl rfl rfl (vok_v (ob_60 hE) rfl) rfl (r_dep (by decide) (e_X12_first hE r71.2 (E.2.1 (l3 + (1 : Int32)).toNatClampNeg) (E.2.1 (l3 + (2 : Int32)).toNatClampNeg))) (fun r72 => ?_)
      refine r_icmp_eq (t := 1517) dL_law_769 rfl (fun h73 => ?_) (fun h73 => ?_)
      · exact r_sub (L' := [(0, .retAddr 0), (1, .ref 0), (2, .ref 60), (3, .int l3)]) (sub_c rfl (sub_c rfl (sub_c rfl (sub_c rfl sub_n)))) (rb_L_law_1517 hE hrec_18 r72.2 l3)
      · refine r_iconst (v := (0 : Int32)) dL_law_772 rfl ?_
        exact r_ireturn dL_law_773 rfl rfl
    refine r_sw1 (fun h74 => ?_) (fun h74 => ?_)
    · refine r_jmp (t := 774) dL_law_33 rfl (by rw [h74]; rfl) ?_
      refine r_aload_n (x := 0) dL_law_774 rfl ?_
      refine r_roload_n (x := 0) dL_law_775 rfl ?_
      refine r_iload_n (x := l3) dL_law_776 rfl ?_
      refine r_iconst (v := (1 : Int32)) dL_law_777 rfl ?_
      refine r_iadd dL_law_778 ?_
      refine r_scload dL_law_779 ?_
      refine r_roload_n (x := 0) dL_law_780 rfl ?_
      refine r_iload_n (x := l3) dL_law_781 rfl ?_
      refine r_iconst (v := (2 : Int32)) dL_law_782 rfl ?_
      refine r_iadd dL_law_783 ?_
      refine r_scload dL_law_784 ?_
      refine r_roload_n (x := 0) dL_law_785 rfl ?_
      refine r_iload_n (x := l3) dL_law_786 rfl ?_
      refine r_iconst (v := (3 : Int32)) dL_law_787 rfl ?_
      refine r_iadd dL_law_788 ?_
      refine r_scload dL_law_789 ?_
      refine r_callI (k := 0) (idx := 91) (y := 161) (as := [.ref 0, .int (E.2.1 (l3 + (1 : Int32)).toNatClampNeg), .int (E.2.1 (l3 + (2 : Int32)).toNatClampNeg), .int (E.2.1 (l3 + (3 : Int32)).toNatClampNeg)]) (rest := []) (L0 := [(0, .ref 0), (1, .int (E.2.1 (l3 + (1 : Int32)).toNatClampNeg)), (2, .int (E.2.1 (l3 + (2 : Int32)).toNatClampNeg)), (3, .int (E.2.1 (l3 + (3 : Int32)).toNatClampNeg))]) dL_law_790 rfl rfl rfl rfl rfl (vok_v (ob_0 hE) rfl) rfl (r_dep (by decide) (e_X11_hire hE q (E.2.1 (l3 + (1 : Int32)).toNatClampNeg) (E.2.1 (l3 + (2 : Int32)).toNatClampNeg) (E.2.1 (l3 + (3 : Int32)).toNatClampNeg))) (fun r75 => ?_)
      refine r_aload_n (x := 60) dL_law_793 rfl ?_
      refine r_roload_n (x := 0) dL_law_794 rfl ?_
      refine r_iload_n (x := l3) dL_law_795 rfl ?_
      refine r_iconst (v := (1 : Int32)) dL_law_796 rfl ?_
      refine r_iadd dL_law_797 ?_
      refine r_scload dL_law_798 ?_
      refine r_roload_n (x := 0) dL_law_799 rfl ?_
      refine r_iload_n (x := l3) dL_law_800 rfl ?_
      refine r_iconst (v := (2 : Int32)) dL_law_801 rfl ?_
      refine r_iadd dL_law_802 ?_
      refine r_scload dL_law_803 ?_
      refine r_roload_n (x := 0) dL_law_804 rfl ?_
      refine r_iload_n (x := l3) dL_law_805 rfl ?_
      refine r_iconst (v := (3 : Int32)) dL_law_806 rfl ?_
      refine r_iadd dL_law_807 ?_
      refine r_scload dL_law_808 ?_
      refine r_callI (k := 0) (idx := 94) (y := 254) (as := [.ref 60, .int (E.2.1 (l3 + (1 : Int32)).toNatClampNeg), .int (E.2.1 (l3 + (2 : Int32)).toNatClampNeg), .int (E.2.1 (l3 + (3 : Int32)).toNatClampNeg)]) (rest := [.int r75.1]) (L0 := [(0, .ref 60), (1, .int (E.2.1 (l3 + (1 : Int32)).toNatClampNeg)), (2, .int (E.2.1 (l3 + (2 : Int32)).toNatClampNeg)), (3, .int (E.2.1 (l3 + (3 : Int32)).toNatClampNeg))]) dL_law_809 rfl rfl rfl rfl rfl (vok_v (ob_60 hE) rfl) rfl (r_dep (by decide) (e_X12_hire hE r75.2 (E.2.1 (l3 + (1 : Int32)).toNatClampNeg) (E.2.1 (l3 + (2 : Int32)).toNatClampNeg) (E.2.1 (l3 + (3 : Int32)).toNatClampNeg))) (fun r76 => ?_)
      refine r_icmp_eq (t := 1517) dL_law_812 rfl (fun h77 => ?_) (fun h77 => ?_)
      · exact r_sub (L' := [(0, .retAddr 0), (1, .ref 0), (2, .ref 60), (3, .int l3)]) (sub_c rfl (sub_c rfl (sub_c rfl (sub_c rfl sub_n)))) (rb_L_law_1517 hE hrec_18 r76.2 l3)
      · refine r_iconst (v := (0 : Int32)) dL_law_815 rfl ?_
        exact r_ireturn dL_law_816 rfl rfl
    refine r_sw1 (fun h78 => ?_) (fun h78 => ?_)
    · refine r_jmp (t := 817) dL_law_33 rfl (by rw [h78]; rfl) ?_
      refine r_aload_n (x := 0) dL_law_817 rfl ?_
      refine r_roload_n (x := 0) dL_law_818 rfl ?_
      refine r_iload_n (x := l3) dL_law_819 rfl ?_
      refine r_iconst (v := (1 : Int32)) dL_law_820 rfl ?_
      refine r_iadd dL_law_821 ?_
      refine r_scload dL_law_822 ?_
      refine r_roload_n (x := 0) dL_law_823 rfl ?_
      refine r_iload_n (x := l3) dL_law_824 rfl ?_
      refine r_iconst (v := (2 : Int32)) dL_law_825 rfl ?_
      refine r_iadd dL_law_826 ?_
      refine r_scload dL_law_827 ?_
      refine r_callI (k := 0) (idx := 95) (y := 163) (as := [.ref 0, .int (E.2.1 (l3 + (1 : Int32)).toNatClampNeg), .int (E.2.1 (l3 + (2 : Int32)).toNatClampNeg)]) (rest := []) (L0 := [(0, .ref 0), (1, .int (E.2.1 (l3 + (1 : Int32)).toNatClampNeg)), (2, .int (E.2.1 (l3 + (2 : Int32)).toNatClampNeg))]) dL_law_828 rfl rfl rfl rfl rfl (vok_v (ob_0 hE) rfl) rfl (r_dep (by decide) (e_X11_friend hE q (E.2.1 (l3 + (1 : Int32)).toNatClampNeg) (E.2.1 (l3 + (2 : Int32)).toNatClampNeg))) (fun r79 => ?_)
      refine r_aload_n (x := 60) dL_law_831 rfl ?_
      refine r_roload_n (x := 0) dL_law_832 rfl ?_
      refine r_iload_n (x := l3) dL_law_833 rfl ?_
      refine r_iconst (v := (1 : Int32)) dL_law_834 rfl ?_
      refine r_iadd dL_law_835 ?_
      refine r_scload dL_law_836 ?_
      refine r_roload_n (x := 0) dL_law_837 rfl ?_
      refine r_iload_n (x := l3) dL_law_838 rfl ?_
      refine r_iconst (v := (2 : Int32)) dL_law_839 rfl ?_
      refine r_iadd dL_law_840 ?_
      refine r_scload dL_law_841 ?_
      refine r_callI (k := 0) (idx := 98) (y := 255) (as := [.ref 60, .int (E.2.1 (l3 + (1 : Int32)).toNatClampNeg), .int (E.2.1 (l3 + (2 : Int32)).toNatClampNeg)]) (rest := [.int r79.1]) (L0 := [(0, .ref 60), (1, .int (E.2.1 (l3 + (1 : Int32)).toNatClampNeg)), (2, .int (E.2.1 (l3 + (2 : Int32)).toNatClampNeg))]) dL_law_842 rfl rfl rfl rfl rfl (vok_v (ob_60 hE) rfl) rfl (r_dep (by decide) (e_X12_friend hE r79.2 (E.2.1 (l3 + (1 : Int32)).toNatClampNeg) (E.2.1 (l3 + (2 : Int32)).toNatClampNeg))) (fun r80 => ?_)
      refine r_icmp_eq (t := 1517) dL_law_845 rfl (fun h81 => ?_) (fun h81 => ?_)
      · exact r_sub (L' := [(0, .retAddr 0), (1, .ref 0), (2, .ref 60), (3, .int l3)]) (sub_c rfl (sub_c rfl (sub_c rfl (sub_c rfl sub_n)))) (rb_L_law_1517 hE hrec_18 r80.2 l3)
      · refine r_iconst (v := (0 : Int32)) dL_law_848 rfl ?_
        exact r_ireturn dL_law_849 rfl rfl
    refine r_sw1 (fun h82 => ?_) (fun h82 => ?_)
    · refine r_jmp (t := 850) dL_law_33 rfl (by rw [h82]; rfl) ?_
      refine r_aload_n (x := 0) dL_law_850 rfl ?_
      refine r_roload_n (x := 0) dL_law_851 rfl ?_
      refine r_iload_n (x := l3) dL_law_852 rfl ?_
      refine r_iconst (v := (1 : Int32)) dL_law_853 rfl ?_
      refine r_iadd dL_law_854 ?_
      refine r_scload dL_law_855 ?_
      refine r_roload_n (x := 0) dL_law_856 rfl ?_
      refine r_iload_n (x := l3) dL_law_857 rfl ?_
      refine r_iconst (v := (2 : Int32)) dL_law_858 rfl ?_
      refine r_iadd dL_law_859 ?_
      refine r_scload dL_law_860 ?_
      refine r_callI (k := 0) (idx := 99) (y := 164) (as := [.ref 0, .int (E.2.1 (l3 + (1 : Int32)).toNatClampNeg), .int (E.2.1 (l3 + (2 : Int32)).toNatClampNeg)]) (rest := []) (L0 := [(0, .ref 0), (1, .int (E.2.1 (l3 + (1 : Int32)).toNatClampNeg)), (2, .int (E.2.1 (l3 + (2 : Int32)).toNatClampNeg))]) dL_law_861 rfl rfl rfl rfl rfl (vok_v (ob_0 hE) rfl) rfl (r_dep (by decide) (e_X11_share hE q (E.2.1 (l3 + (1 : Int32)).toNatClampNeg) (E.2.1 (l3 + (2 : Int32)).toNatClampNeg))) (fun r83 => ?_)
      refine r_aload_n (x := 60) dL_law_864 rfl ?_
      refine r_roload_n (x := 0) dL_law_865 rfl ?_
      refine r_iload_n (x := l3) dL_law_866 rfl ?_
      refine r_iconst (v := (1 : Int32)) dL_law_867 rfl ?_
      refine r_iadd dL_law_868 ?_
      refine r_scload dL_law_869 ?_
      refine r_roload_n (x := 0) dL_law_870 rfl ?_
      refine r_iload_n (x := l3) dL_law_871 rfl ?_
      refine r_iconst (v := (2 : Int32)) dL_law_872 rfl ?_
      refine r_iadd dL_law_873 ?_
      refine r_scload dL_law_874 ?_
      refine r_callI (k := 0) (idx := 102) (y := 256) (as := [.ref 60, .int (E.2.1 (l3 + (1 : Int32)).toNatClampNeg), .int (E.2.1 (l3 + (2 : Int32)).toNatClampNeg)]) (rest := [.int r83.1]) (L0 := [(0, .ref 60), (1, .int (E.2.1 (l3 + (1 : Int32)).toNatClampNeg)), (2, .int (E.2.1 (l3 + (2 : Int32)).toNatClampNeg))]) dL_law_875 rfl rfl rfl rfl rfl (vok_v (ob_60 hE) rfl) rfl (r_dep (by decide) (e_X12_share hE r83.2 (E.2.1 (l3 + (1 : Int32)).toNatClampNeg) (E.2.1 (l3 + (2 : Int32)).toNatClampNeg))) (fun r84 => ?_)
      refine r_icmp_eq (t := 1517) dL_law_878 rfl (fun h85 => ?_) (fun h85 => ?_)
      · exact r_sub (L' := [(0, .retAddr 0), (1, .ref 0), (2, .ref 60), (3, .int l3)]) (sub_c rfl (sub_c rfl (sub_c rfl (sub_c rfl sub_n)))) (rb_L_law_1517 hE hrec_18 r84.2 l3)
      · refine r_iconst (v := (0 : Int32)) dL_law_881 rfl ?_
        exact r_ireturn dL_law_882 rfl rfl
    refine r_sw1 (fun h86 => ?_) (fun h86 => ?_)
    · refine r_jmp (t := 883) dL_law_33 rfl (by rw [h86]; rfl) ?_
      refine r_aload_n (x := 0) dL_law_883 rfl ?_
      refine r_callI (k := 0) (idx := 103) (y := 165) (as := [.ref 0]) (rest := []) (L0 := [(0, .ref 0)]) dL_law_884 rfl rfl rfl rfl rfl (vok_v (ob_0 hE) rfl) rfl (r_dep (by decide) (e_X11_half hE q)) (fun r87 => ?_)
      refine r_aload_n (x := 60) dL_law_887 rfl ?_
      refine r_callI (k := 0) (idx := 106) (y := 257) (as := [.ref 60]) (rest := [.int r87.1]) (L0 := [(0, .ref 60)]) dL_law_888 rfl rfl rfl rfl rfl (vok_v (ob_60 hE) rfl) rfl (r_dep (by decide) (e_X12_half hE r87.2)) (fun r88 => ?_)
      refine r_icmp_eq (t := 1517) dL_law_891 rfl (fun h89 => ?_) (fun h89 => ?_)
      · exact r_sub (L' := [(0, .retAddr 0), (1, .ref 0), (2, .ref 60), (3, .int l3)]) (sub_c rfl (sub_c rfl (sub_c rfl (sub_c rfl sub_n)))) (rb_L_law_1517 hE hrec_18 r88.2 l3)
      · refine r_iconst (v := (0 : Int32)) dL_law_894 rfl ?_
        exact r_ireturn dL_law_895 rfl rfl
    refine r_sw1 (fun h90 => ?_) (fun h90 => ?_)
    · refine r_jmp (t := 896) dL_law_33 rfl (by rw [h90]; rfl) ?_
      refine r_aload_n (x := 0) dL_law_896 rfl ?_
      refine r_roload_n (x := 0) dL_law_897 rfl ?_
      refine r_iload_n (x := l3) dL_law_898 rfl ?_
      refine r_iconst (v := (1 : Int32)) dL_law_899 rfl ?_
      refine r_iadd dL_law_900 ?_
      refine r_scload dL_law_901 ?_
      refine r_roload_n (x := 0) dL_law_902 rfl ?_
      refine r_iload_n (x := l3) dL_law_903 rfl ?_
      refine r_iconst (v := (2 : Int32)) dL_law_904 rfl ?_
      refine r_iadd dL_law_905 ?_
      refine r_scload dL_law_906 ?_
      refine r_roload_n (x := 0) dL_law_907 rfl ?_
      refine r_iload_n (x := l3) dL_law_908 rfl ?_
      refine r_iconst (v := (3 : Int32)) dL_law_909 rfl ?_
      refine r_iadd dL_law_910 ?_
      refine r_scload dL_law_911 ?_
      refine r_callI (k := 0) (idx := 107) (y := 167) (as := [.ref 0, .int (E.2.1 (l3 + (1 : Int32)).toNatClampNeg), .int (E.2.1 (l3 + (2 : Int32)).toNatClampNeg), .int (E.2.1 (l3 + (3 : Int32)).toNatClampNeg)]) (rest := []) (L0 := [(0, .ref 0), (1, .int (E.2.1 (l3 + (1 : Int32)).toNatClampNeg)), (2, .int (E.2.1 (l3 + (2 : Int32)).toNatClampNeg)), (3, .int (E.2.1 (l3 + (3 : Int32)).toNatClampNeg))]) dL_law_912 rfl rfl rfl rfl rfl (vok_v (ob_0 hE) rfl) rfl (r_dep (by decide) (e_X11_behind hE q (E.2.1 (l3 + (1 : Int32)).toNatClampNeg) (E.2.1 (l3 + (2 : Int32)).toNatClampNeg) (E.2.1 (l3 + (3 : Int32)).toNatClampNeg))) (fun r91 => ?_)
      refine r_aload_n (x := 60) dL_law_915 rfl ?_
      refine r_roload_n (x := 0) dL_law_916 rfl ?_
      refine r_iload_n (x := l3) dL_law_917 rfl ?_
      refine r_iconst (v := (1 : Int32)) dL_law_918 rfl ?_
      refine r_iadd dL_law_919 ?_
      refine r_scload dL_law_920 ?_
      refine r_roload_n (x := 0) dL_law_921 rfl ?_
      refine r_iload_n (x := l3) dL_law_922 rfl ?_
      refine r_iconst (v := (2 : Int32)) dL_law_923 rfl ?_
      refine r_iadd dL_law_924 ?_
      refine r_scload dL_law_925 ?_
      refine r_roload_n (x := 0) dL_law_926 rfl ?_
      refine r_iload_n (x := l3) dL_law_927 rfl ?_
      refine r_iconst (v := (3 : Int32)) dL_law_928 rfl ?_
      refine r_iadd dL_law_929 ?_
      refine r_scload dL_law_930 ?_
      refine r_callI (k := 0) (idx := 110) (y := 261) (as := [.ref 60, .int (E.2.1 (l3 + (1 : Int32)).toNatClampNeg), .int (E.2.1 (l3 + (2 : Int32)).toNatClampNeg), .int (E.2.1 (l3 + (3 : Int32)).toNatClampNeg)]) (rest := [.int r91.1]) (L0 := [(0, .ref 60), (1, .int (E.2.1 (l3 + (1 : Int32)).toNatClampNeg)), (2, .int (E.2.1 (l3 + (2 : Int32)).toNatClampNeg)), (3, .int (E.2.1 (l3 + (3 : Int32)).toNatClampNeg))]) dL_law_931 rfl rfl rfl rfl rfl (vok_v (ob_60 hE) rfl) rfl (r_dep (by decide) (e_X12_behind hE r91.2 (E.2.1 (l3 + (1 : Int32)).toNatClampNeg) (E.2.1 (l3 + (2 : Int32)).toNatClampNeg) (E.2.1 (l3 + (3 : Int32)).toNatClampNeg))) (fun r92 => ?_)
      refine r_icmp_eq (t := 1517) dL_law_934 rfl (fun h93 => ?_) (fun h93 => ?_)
      · exact r_sub (L' := [(0, .retAddr 0), (1, .ref 0), (2, .ref 60), (3, .int l3)]) (sub_c rfl (sub_c rfl (sub_c rfl (sub_c rfl sub_n)))) (rb_L_law_1517 hE hrec_18 r92.2 l3)
      · refine r_iconst (v := (0 : Int32)) dL_law_937 rfl ?_
        exact r_ireturn dL_law_938 rfl rfl
    refine r_sw1 (fun h94 => ?_) (fun h94 => ?_)
    · refine r_jmp (t := 939) dL_law_33 rfl (by rw [h94]; rfl) ?_
      refine r_aload_n (x := 0) dL_law_939 rfl ?_
      refine r_roload_n (x := 0) dL_law_940 rfl ?_
      refine r_iload_n (x := l3) dL_law_941 rfl ?_
      refine r_iconst (v := (1 : Int32)) dL_law_942 rfl ?_
      refine r_iadd dL_law_943 ?_
      refine r_scload dL_law_944 ?_
      refine r_roload_n (x := 0) dL_law_945 rfl ?_
      refine r_iload_n (x := l3) dL_law_946 rfl ?_
      refine r_iconst (v := (2 : Int32)) dL_law_947 rfl ?_
      refine r_iadd dL_law_948 ?_
      refine r_scload dL_law_949 ?_
      refine r_roload_n (x := 0) dL_law_950 rfl ?_
      refine r_iload_n (x := l3) dL_law_951 rfl ?_
      refine r_iconst (v := (3 : Int32)) dL_law_952 rfl ?_
      refine r_iadd dL_law_953 ?_
      refine r_scload dL_law_954 ?_
      refine r_callI (k := 0) (idx := 111) (y := 168) (as := [.ref 0, .int (E.2.1 (l3 + (1 : Int32)).toNatClampNeg), .int (E.2.1 (l3 + (2 : Int32)).toNatClampNeg), .int (E.2.1 (l3 + (3 : Int32)).toNatClampNeg)]) (rest := []) (L0 := [(0, .ref 0), (1, .int (E.2.1 (l3 + (1 : Int32)).toNatClampNeg)), (2, .int (E.2.1 (l3 + (2 : Int32)).toNatClampNeg)), (3, .int (E.2.1 (l3 + (3 : Int32)).toNatClampNeg))]) dL_law_955 rfl rfl rfl rfl rfl (vok_v (ob_0 hE) rfl) rfl (r_dep (by decide) (e_X11_drawn hE q (E.2.1 (l3 + (1 : Int32)).toNatClampNeg) (E.2.1 (l3 + (2 : Int32)).toNatClampNeg) (E.2.1 (l3 + (3 : Int32)).toNatClampNeg))) (fun r95 => ?_)
      refine r_aload_n (x := 60) dL_law_958 rfl ?_
      refine r_roload_n (x := 0) dL_law_959 rfl ?_
      refine r_iload_n (x := l3) dL_law_960 rfl ?_
      refine r_iconst (v := (1 : Int32)) dL_law_961 rfl ?_
      refine r_iadd dL_law_962 ?_
      refine r_scload dL_law_963 ?_
      refine r_roload_n (x := 0) dL_law_964 rfl ?_
      refine r_iload_n (x := l3) dL_law_965 rfl ?_
      refine r_iconst (v := (2 : Int32)) dL_law_966 rfl ?_
      refine r_iadd dL_law_967 ?_
      refine r_scload dL_law_968 ?_
      refine r_roload_n (x := 0) dL_law_969 rfl ?_
      refine r_iload_n (x := l3) dL_law_970 rfl ?_
      refine r_iconst (v := (3 : Int32)) dL_law_971 rfl ?_
      refine r_iadd dL_law_972 ?_
      refine r_scload dL_law_973 ?_
      refine r_callI (k := 0) (idx := 114) (y := 263) (as := [.ref 60, .int (E.2.1 (l3 + (1 : Int32)).toNatClampNeg), .int (E.2.1 (l3 + (2 : Int32)).toNatClampNeg), .int (E.2.1 (l3 + (3 : Int32)).toNatClampNeg)]) (rest := [.int r95.1]) (L0 := [(0, .ref 60), (1, .int (E.2.1 (l3 + (1 : Int32)).toNatClampNeg)), (2, .int (E.2.1 (l3 + (2 : Int32)).toNatClampNeg)), (3, .int (E.2.1 (l3 + (3 : Int32)).toNatClampNeg))]) dL_law_974 rfl rfl rfl rfl rfl (vok_v (ob_60 hE) rfl) rfl (r_dep (by decide) (e_X12_drawn hE r95.2 (E.2.1 (l3 + (1 : Int32)).toNatClampNeg) (E.2.1 (l3 + (2 : Int32)).toNatClampNeg) (E.2.1 (l3 + (3 : Int32)).toNatClampNeg))) (fun r96 => ?_)
      refine r_icmp_eq (t := 1517) dL_law_977 rfl (fun h97 => ?_) (fun h97 => ?_)
      · exact r_sub (L' := [(0, .retAddr 0), (1, .ref 0), (2, .ref 60), (3, .int l3)]) (sub_c rfl (sub_c rfl (sub_c rfl (sub_c rfl sub_n)))) (rb_L_law_1517 hE hrec_18 r96.2 l3)
      · refine r_iconst (v := (0 : Int32)) dL_law_980 rfl ?_
        exact r_ireturn dL_law_981 rfl rfl
    refine r_sw1 (fun h98 => ?_) (fun h98 => ?_)
    · refine r_jmp (t := 982) dL_law_33 rfl (by rw [h98]; rfl) ?_
      refine r_aload_n (x := 0) dL_law_982 rfl ?_
      refine r_roload_n (x := 0) dL_law_983 rfl ?_
      refine r_iload_n (x := l3) dL_law_984 rfl ?_
      refine r_iconst (v := (1 : Int32)) dL_law_985 rfl ?_
      refine r_iadd dL_law_986 ?_
      refine r_scload dL_law_987 ?_
      refine r_roload_n (x := 0) dL_law_988 rfl ?_
      refine r_iload_n (x := l3) dL_law_989 rfl ?_
      refine r_iconst (v := (2 : Int32)) dL_law_990 rfl ?_
      refine r_iadd dL_law_991 ?_
      refine r_scload dL_law_992 ?_
      refine r_callI (k := 0) (idx := 115) (y := 170) (as := [.ref 0, .int (E.2.1 (l3 + (1 : Int32)).toNatClampNeg), .int (E.2.1 (l3 + (2 : Int32)).toNatClampNeg)]) (rest := []) (L0 := [(0, .ref 0), (1, .int (E.2.1 (l3 + (1 : Int32)).toNatClampNeg)), (2, .int (E.2.1 (l3 + (2 : Int32)).toNatClampNeg))]) dL_law_993 rfl rfl rfl rfl rfl (vok_v (ob_0 hE) rfl) rfl (r_dep (by decide) (e_X11_slip hE q (E.2.1 (l3 + (1 : Int32)).toNatClampNeg) (E.2.1 (l3 + (2 : Int32)).toNatClampNeg))) (fun r99 => ?_)
      refine r_aload_n (x := 60) dL_law_996 rfl ?_
      refine r_roload_n (x := 0) dL_law_997 rfl ?_
      refine r_iload_n (x := l3) dL_law_998 rfl ?_
      refine r_iconst (v := (1 : Int32)) dL_law_999 rfl ?_
      refine r_iadd dL_law_1000 ?_
      refine r_scload dL_law_1001 ?_
      refine r_roload_n (x := 0) dL_law_1002 rfl ?_
      refine r_iload_n (x := l3) dL_law_1003 rfl ?_
      refine r_iconst (v := (2 : Int32)) dL_law_1004 rfl ?_
      refine r_iadd dL_law_1005 ?_
      refine r_scload dL_law_1006 ?_
      refine r_callI (k := 0) (idx := 118) (y := 264) (as := [.ref 60, .int (E.2.1 (l3 + (1 : Int32)).toNatClampNeg), .int (E.2.1 (l3 + (2 : Int32)).toNatClampNeg)]) (rest := [.int r99.1]) (L0 := [(0, .ref 60), (1, .int (E.2.1 (l3 + (1 : Int32)).toNatClampNeg)), (2, .int (E.2.1 (l3 + (2 : Int32)).toNatClampNeg))]) dL_law_1007 rfl rfl rfl rfl rfl (vok_v (ob_60 hE) rfl) rfl (r_dep (by decide) (e_X12_slip hE r99.2 (E.2.1 (l3 + (1 : Int32)).toNatClampNeg) (E.2.1 (l3 + (2 : Int32)).toNatClampNeg))) (fun r100 => ?_)
      refine r_icmp_eq (t := 1517) dL_law_1010 rfl (fun h101 => ?_) (fun h101 => ?_)
      · exact r_sub (L' := [(0, .retAddr 0), (1, .ref 0), (2, .ref 60), (3, .int l3)]) (sub_c rfl (sub_c rfl (sub_c rfl (sub_c rfl sub_n)))) (rb_L_law_1517 hE hrec_18 r100.2 l3)
      · refine r_iconst (v := (0 : Int32)) dL_law_1013 rfl ?_
        exact r_ireturn dL_law_1014 rfl rfl
    refine r_sw1 (fun h102 => ?_) (fun h102 => ?_)
    · refine r_jmp (t := 1015) dL_law_33 rfl (by rw [h102]; rfl) ?_
      refine r_aload_n (x := 0) dL_law_1015 rfl ?_
      refine r_roload_n (x := 0) dL_law_1016 rfl ?_
      refine r_iload_n (x := l3) dL_law_1017 rfl ?_
      refine r_iconst (v := (1 : Int32)) dL_law_1018 rfl ?_
      refine r_iadd dL_law_1019 ?_
      refine r_scload dL_law_1020 ?_
      refine r_callI (k := 0) (idx := 119) (y := 171) (as := [.ref 0, .int (E.2.1 (l3 + (1 : Int32)).toNatClampNeg)]) (rest := []) (L0 := [(0, .ref 0), (1, .int (E.2.1 (l3 + (1 : Int32)).toNatClampNeg))]) dL_law_1021 rfl rfl rfl rfl rfl (vok_v (ob_0 hE) rfl) rfl (r_dep (by decide) (e_X11_fold hE q (E.2.1 (l3 + (1 : Int32)).toNatClampNeg))) (fun r103 => ?_)
      refine r_aload_n (x := 60) dL_law_1024 rfl ?_
      refine r_roload_n (x := 0) dL_law_1025 rfl ?_
      refine r_iload_n (x := l3) dL_law_1026 rfl ?_
      refine r_iconst (v := (1 : Int32)) dL_law_1027 rfl ?_
      refine r_iadd dL_law_1028 ?_
      refine r_scload dL_law_1029 ?_
      refine r_callI (k := 0) (idx := 122) (y := 265) (as := [.ref 60, .int (E.2.1 (l3 + (1 : Int32)).toNatClampNeg)]) (rest := [.int r103.1]) (L0 := [(0, .ref 60), (1, .int (E.2.1 (l3 + (1 : Int32)).toNatClampNeg))]) dL_law_1030 rfl rfl rfl rfl rfl (vok_v (ob_60 hE) rfl) rfl (r_dep (by decide) (e_X12_fold hE r103.2 (E.2.1 (l3 + (1 : Int32)).toNatClampNeg))) (fun r104 => ?_)
      refine r_icmp_eq (t := 1517) dL_law_1033 rfl (fun h105 => ?_) (fun h105 => ?_)
      · exact r_sub (L' := [(0, .retAddr 0), (1, .ref 0), (2, .ref 60), (3, .int l3)]) (sub_c rfl (sub_c rfl (sub_c rfl (sub_c rfl sub_n)))) (rb_L_law_1517 hE hrec_18 r104.2 l3)
      · refine r_iconst (v := (0 : Int32)) dL_law_1036 rfl ?_
        exact r_ireturn dL_law_1037 rfl rfl
    refine r_sw1 (fun h106 => ?_) (fun h106 => ?_)
    · refine r_jmp (t := 1038) dL_law_33 rfl (by rw [h106]; rfl) ?_
      refine r_aload_n (x := 0) dL_law_1038 rfl ?_
      refine r_callI (k := 0) (idx := 123) (y := 172) (as := [.ref 0]) (rest := []) (L0 := [(0, .ref 0)]) dL_law_1039 rfl rfl rfl rfl rfl (vok_v (ob_0 hE) rfl) rfl (r_dep (by decide) (e_X11_hour hE q)) (fun r107 => ?_)
      refine r_aload_n (x := 60) dL_law_1042 rfl ?_
      refine r_callI (k := 0) (idx := 126) (y := 266) (as := [.ref 60]) (rest := [.int r107.1]) (L0 := [(0, .ref 60)]) dL_law_1043 rfl rfl rfl rfl rfl (vok_v (ob_60 hE) rfl) rfl (r_dep (by decide) (e_X12_hour hE r107.2)) (fun r108 => ?_)
      refine r_icmp_eq (t := 1517) dL_law_1046 rfl (fun h109 => ?_) (fun h109 => ?_)
      · exact r_sub (L' := [(0, .retAddr 0), (1, .ref 0), (2, .ref 60), (3, .int l3)]) (sub_c rfl (sub_c rfl (sub_c rfl (sub_c rfl sub_n)))) (rb_L_law_1517 hE hrec_18 r108.2 l3)
      · refine r_iconst (v := (0 : Int32)) dL_law_1049 rfl ?_
        exact r_ireturn dL_law_1050 rfl rfl
    refine r_sw1 (fun h110 => ?_) (fun h110 => ?_)
    · refine r_jmp (t := 1051) dL_law_33 rfl (by rw [h110]; rfl) ?_
      refine r_aload_n (x := 0) dL_law_1051 rfl ?_
      refine r_roload_n (x := 0) dL_law_1052 rfl ?_
      refine r_iload_n (x := l3) dL_law_1053 rfl ?_
      refine r_iconst (v := (1 : Int32)) dL_law_1054 rfl ?_
      refine r_iadd dL_law_1055 ?_
      refine r_scload dL_law_1056 ?_
      refine r_calli (k := 0) (idx := 127) (y := 173) (as := [.ref 0, .int (E.2.1 (l3 + (1 : Int32)).toNatClampNeg)]) (rest := []) (L0 := [(0, .ref 0), (1, .int (E.2.1 (l3 + (1 : Int32)).toNatClampNeg))]) dL_law_1057 rfl rfl rfl rfl rfl (vok_v (ob_0 hE) rfl) rfl (r_dep (by decide) (e_X11_led hE q (E.2.1 (l3 + (1 : Int32)).toNatClampNeg))) (fun r111 => ?_)
      refine r_aload_n (x := 60) dL_law_1060 rfl ?_
      refine r_roload_n (x := 0) dL_law_1061 rfl ?_
      refine r_iload_n (x := l3) dL_law_1062 rfl ?_
      refine r_iconst (v := (1 : Int32)) dL_law_1063 rfl ?_
      refine r_iadd dL_law_1064 ?_
      refine r_scload dL_law_1065 ?_
      refine r_calli (k := 0) (idx := 130) (y := 267) (as := [.ref 60, .int (E.2.1 (l3 + (1 : Int32)).toNatClampNeg)]) (rest := [.int r111]) (L0 := [(0, .ref 60), (1, .int (E.2.1 (l3 + (1 : Int32)).toNatClampNeg))]) dL_law_1066 rfl rfl rfl rfl rfl (vok_v (ob_60 hE) rfl) rfl (r_dep (by decide) (e_X12_led hE q (E.2.1 (l3 + (1 : Int32)).toNatClampNeg))) (fun r112 => ?_)
      refine r_icmp_eq (t := 1517) dL_law_1069 rfl (fun h113 => ?_) (fun h113 => ?_)
      · exact r_sub (L' := [(0, .retAddr 0), (1, .ref 0), (2, .ref 60), (3, .int l3)]) (sub_c rfl (sub_c rfl (sub_c rfl (sub_c rfl sub_n)))) (rb_L_law_1517 hE hrec_18 q l3)
      · refine r_iconst (v := (0 : Int32)) dL_law_1072 rfl ?_
        exact r_ireturn dL_law_1073 rfl rfl
    refine r_sw1 (fun h114 => ?_) (fun h114 => ?_)
    · refine r_jmp (t := 1074) dL_law_33 rfl (by rw [h114]; rfl) ?_
      refine r_aload_n (x := 0) dL_law_1074 rfl ?_
      refine r_callI (k := 0) (idx := 131) (y := 174) (as := [.ref 0]) (rest := []) (L0 := [(0, .ref 0)]) dL_law_1075 rfl rfl rfl rfl rfl (vok_v (ob_0 hE) rfl) rfl (r_dep (by decide) (e_X11_image hE q)) (fun r115 => ?_)
      refine r_aload_n (x := 60) dL_law_1078 rfl ?_
      refine r_callI (k := 0) (idx := 134) (y := 268) (as := [.ref 60]) (rest := [.int r115.1]) (L0 := [(0, .ref 60)]) dL_law_1079 rfl rfl rfl rfl rfl (vok_v (ob_60 hE) rfl) rfl (r_dep (by decide) (e_X12_image hE r115.2)) (fun r116 => ?_)
      refine r_icmp_eq (t := 1517) dL_law_1082 rfl (fun h117 => ?_) (fun h117 => ?_)
      · exact r_sub (L' := [(0, .retAddr 0), (1, .ref 0), (2, .ref 60), (3, .int l3)]) (sub_c rfl (sub_c rfl (sub_c rfl (sub_c rfl sub_n)))) (rb_L_law_1517 hE hrec_18 r116.2 l3)
      · refine r_iconst (v := (0 : Int32)) dL_law_1085 rfl ?_
        exact r_ireturn dL_law_1086 rfl rfl
    refine r_sw1 (fun h118 => ?_) (fun h118 => ?_)
    · refine r_jmp (t := 1087) dL_law_33 rfl (by rw [h118]; rfl) ?_
      refine r_aload_n (x := 0) dL_law_1087 rfl ?_
      refine r_callI (k := 0) (idx := 135) (y := 175) (as := [.ref 0]) (rest := []) (L0 := [(0, .ref 0)]) dL_law_1088 rfl rfl rfl rfl rfl (vok_v (ob_0 hE) rfl) rfl (r_dep (by decide) (e_X11_back hE q)) (fun r119 => ?_)
      refine r_aload_n (x := 60) dL_law_1091 rfl ?_
      refine r_callI (k := 0) (idx := 138) (y := 269) (as := [.ref 60]) (rest := [.int r119.1]) (L0 := [(0, .ref 60)]) dL_law_1092 rfl rfl rfl rfl rfl (vok_v (ob_60 hE) rfl) rfl (r_dep (by decide) (e_X12_back hE r119.2)) (fun r120 => ?_)
      refine r_icmp_eq (t := 1517) dL_law_1095 rfl (fun h121 => ?_) (fun h121 => ?_)
      · exact r_sub (L' := [(0, .retAddr 0), (1, .ref 0), (2, .ref 60), (3, .int l3)]) (sub_c rfl (sub_c rfl (sub_c rfl (sub_c rfl sub_n)))) (rb_L_law_1517 hE hrec_18 r120.2 l3)
      · refine r_iconst (v := (0 : Int32)) dL_law_1098 rfl ?_
        exact r_ireturn dL_law_1099 rfl rfl
    refine r_sw1 (fun h122 => ?_) (fun h122 => ?_)
    · refine r_jmp (t := 1100) dL_law_33 rfl (by rw [h122]; rfl) ?_
      refine r_aload_n (x := 0) dL_law_1100 rfl ?_
      refine r_callI (k := 0) (idx := 139) (y := 176) (as := [.ref 0]) (rest := []) (L0 := [(0, .ref 0)]) dL_law_1101 rfl rfl rfl rfl rfl (vok_v (ob_0 hE) rfl) rfl (r_dep (by decide) (e_X11_undo hE q)) (fun r123 => ?_)
      refine r_aload_n (x := 60) dL_law_1104 rfl ?_
      refine r_callI (k := 0) (idx := 142) (y := 201) (as := [.ref 60]) (rest := [.int r123.1]) (L0 := [(0, .ref 60)]) dL_law_1105 rfl rfl rfl rfl rfl (vok_v (ob_60 hE) rfl) rfl (r_dep (by decide) (e_X12_undo hE r123.2)) (fun r124 => ?_)
      refine r_icmp_eq (t := 1517) dL_law_1108 rfl (fun h125 => ?_) (fun h125 => ?_)
      · exact r_sub (L' := [(0, .retAddr 0), (1, .ref 0), (2, .ref 60), (3, .int l3)]) (sub_c rfl (sub_c rfl (sub_c rfl (sub_c rfl sub_n)))) (rb_L_law_1517 hE hrec_18 r124.2 l3)
      · refine r_iconst (v := (0 : Int32)) dL_law_1111 rfl ?_
        exact r_ireturn dL_law_1112 rfl rfl
    refine r_sw1 (fun h126 => ?_) (fun h126 => ?_)
    · refine r_jmp (t := 1113) dL_law_33 rfl (by rw [h126]; rfl) ?_
      refine r_aload_n (x := 0) dL_law_1113 rfl ?_
      refine r_callI (k := 0) (idx := 143) (y := 177) (as := [.ref 0]) (rest := []) (L0 := [(0, .ref 0)]) dL_law_1114 rfl rfl rfl rfl rfl (vok_v (ob_0 hE) rfl) rfl (r_dep (by decide) (e_X11_redo hE q)) (fun r127 => ?_)
      refine r_aload_n (x := 60) dL_law_1117 rfl ?_
      refine r_callI (k := 0) (idx := 146) (y := 202) (as := [.ref 60]) (rest := [.int r127.1]) (L0 := [(0, .ref 60)]) dL_law_1118 rfl rfl rfl rfl rfl (vok_v (ob_60 hE) rfl) rfl (r_dep (by decide) (e_X12_redo hE r127.2)) (fun r128 => ?_)
      refine r_icmp_eq (t := 1517) dL_law_1121 rfl (fun h129 => ?_) (fun h129 => ?_)
      · exact r_sub (L' := [(0, .retAddr 0), (1, .ref 0), (2, .ref 60), (3, .int l3)]) (sub_c rfl (sub_c rfl (sub_c rfl (sub_c rfl sub_n)))) (rb_L_law_1517 hE hrec_18 r128.2 l3)
      · refine r_iconst (v := (0 : Int32)) dL_law_1124 rfl ?_
        exact r_ireturn dL_law_1125 rfl rfl
    refine r_sw1 (fun h130 => ?_) (fun h130 => ?_)
    · refine r_jmp (t := 1126) dL_law_33 rfl (by rw [h130]; rfl) ?_
      refine r_aload_n (x := 0) dL_law_1126 rfl ?_
      refine r_roload_n (x := 0) dL_law_1127 rfl ?_
      refine r_iload_n (x := l3) dL_law_1128 rfl ?_
      refine r_iconst (v := (1 : Int32)) dL_law_1129 rfl ?_
      refine r_iadd dL_law_1130 ?_
      refine r_scload dL_law_1131 ?_
      refine r_callI (k := 0) (idx := 147) (y := 178) (as := [.ref 0, .int (E.2.1 (l3 + (1 : Int32)).toNatClampNeg)]) (rest := []) (L0 := [(0, .ref 0), (1, .int (E.2.1 (l3 + (1 : Int32)).toNatClampNeg))]) dL_law_1132 rfl rfl rfl rfl rfl (vok_v (ob_0 hE) rfl) rfl (r_dep (by decide) (e_X11_body hE q (E.2.1 (l3 + (1 : Int32)).toNatClampNeg))) (fun r131 => ?_)
      refine r_aload_n (x := 60) dL_law_1135 rfl ?_
      refine r_roload_n (x := 0) dL_law_1136 rfl ?_
      refine r_iload_n (x := l3) dL_law_1137 rfl ?_
      refine r_iconst (v := (1 : Int32)) dL_law_1138 rfl ?_
      refine r_iadd dL_law_1139 ?_
      refine r_scload dL_law_1140 ?_
      refine r_callI (k := 0) (idx := 150) (y := 273) (as := [.ref 60, .int (E.2.1 (l3 + (1 : Int32)).toNatClampNeg)]) (rest := [.int r131.1]) (L0 := [(0, .ref 60), (1, .int (E.2.1 (l3 + (1 : Int32)).toNatClampNeg))]) dL_law_1141 rfl rfl rfl rfl rfl (vok_v (ob_60 hE) rfl) rfl (r_dep (by decide) (e_X12_body hE r131.2 (E.2.1 (l3 + (1 : Int32)).toNatClampNeg))) (fun r132 => ?_)
      refine r_icmp_eq (t := 1517) dL_law_1144 rfl (fun h133 => ?_) (fun h133 => ?_)
      · exact r_sub (L' := [(0, .retAddr 0), (1, .ref 0), (2, .ref 60), (3, .int l3)]) (sub_c rfl (sub_c rfl (sub_c rfl (sub_c rfl sub_n)))) (rb_L_law_1517 hE hrec_18 r132.2 l3)
      · refine r_iconst (v := (0 : Int32)) dL_law_1147 rfl ?_
        exact r_ireturn dL_law_1148 rfl rfl
    refine r_sw1 (fun h134 => ?_) (fun h134 => ?_)
    · refine r_jmp (t := 1149) dL_law_33 rfl (by rw [h134]; rfl) ?_
      refine r_aload_n (x := 0) dL_law_1149 rfl ?_
      refine r_roload_n (x := 0) dL_law_1150 rfl ?_
      refine r_iload_n (x := l3) dL_law_1151 rfl ?_
      refine r_iconst (v := (1 : Int32)) dL_law_1152 rfl ?_
      refine r_iadd dL_law_1153 ?_
      refine r_scload dL_law_1154 ?_
      refine r_roload_n (x := 0) dL_law_1155 rfl ?_
      refine r_iload_n (x := l3) dL_law_1156 rfl ?_
      refine r_iconst (v := (2 : Int32)) dL_law_1157 rfl ?_
      refine r_iadd dL_law_1158 ?_
      refine r_scload dL_law_1159 ?_
      refine r_roload_n (x := 0) dL_law_1160 rfl ?_
      refine r_iload_n (x := l3) dL_law_1161 rfl ?_
      refine r_iconst (v := (3 : Int32)) dL_law_1162 rfl ?_
      refine r_iadd dL_law_1163 ?_
      refine r_scload dL_law_1164 ?_
      refine r_callI (k := 0) (idx := 151) (y := 179) (as := [.ref 0, .int (E.2.1 (l3 + (1 : Int32)).toNatClampNeg), .int (E.2.1 (l3 + (2 : Int32)).toNatClampNeg), .int (E.2.1 (l3 + (3 : Int32)).toNatClampNeg)]) (rest := []) (L0 := [(0, .ref 0), (1, .int (E.2.1 (l3 + (1 : Int32)).toNatClampNeg)), (2, .int (E.2.1 (l3 + (2 : Int32)).toNatClampNeg)), (3, .int (E.2.1 (l3 + (3 : Int32)).toNatClampNeg))]) dL_law_1165 rfl rfl rfl rfl rfl (vok_v (ob_0 hE) rfl) rfl (r_dep (by decide) (e_X11_act hE q (E.2.1 (l3 + (1 : Int32)).toNatClampNeg) (E.2.1 (l3 + (2 : Int32)).toNatClampNeg) (E.2.1 (l3 + (3 : Int32)).toNatClampNeg))) (fun r135 => ?_)
      refine r_aload_n (x := 60) dL_law_1168 rfl ?_
      refine r_roload_n (x := 0) dL_law_1169 rfl ?_
      refine r_iload_n (x := l3) dL_law_1170 rfl ?_
      refine r_iconst (v := (1 : Int32)) dL_law_1171 rfl ?_
      refine r_iadd dL_law_1172 ?_
      refine r_scload dL_law_1173 ?_
      refine r_roload_n (x := 0) dL_law_1174 rfl ?_
      refine r_iload_n (x := l3) dL_law_1175 rfl ?_
      refine r_iconst (v := (2 : Int32)) dL_law_1176 rfl ?_
      refine r_iadd dL_law_1177 ?_
      refine r_scload dL_law_1178 ?_
      refine r_roload_n (x := 0) dL_law_1179 rfl ?_
      refine r_iload_n (x := l3) dL_law_1180 rfl ?_
      refine r_iconst (v := (3 : Int32)) dL_law_1181 rfl ?_
      refine r_iadd dL_law_1182 ?_
      refine r_scload dL_law_1183 ?_
      refine r_callI (k := 0) (idx := 154) (y := 286) (as := [.ref 60, .int (E.2.1 (l3 + (1 : Int32)).toNatClampNeg), .int (E.2.1 (l3 + (2 : Int32)).toNatClampNeg), .int (E.2.1 (l3 + (3 : Int32)).toNatClampNeg)]) (rest := [.int r135.1]) (L0 := [(0, .ref 60), (1, .int (E.2.1 (l3 + (1 : Int32)).toNatClampNeg)), (2, .int (E.2.1 (l3 + (2 : Int32)).toNatClampNeg)), (3, .int (E.2.1 (l3 + (3 : Int32)).toNatClampNeg))]) dL_law_1184 rfl rfl rfl rfl rfl (vok_v (ob_60 hE) rfl) rfl (r_dep (by decide) (e_X12_act hE r135.2 (E.2.1 (l3 + (1 : Int32)).toNatClampNeg) (E.2.1 (l3 + (2 : Int32)).toNatClampNeg) (E.2.1 (l3 + (3 : Int32)).toNatClampNeg))) (fun r136 => ?_)
      refine r_icmp_eq (t := 1517) dL_law_1187 rfl (fun h137 => ?_) (fun h137 => ?_)
      · exact r_sub (L' := [(0, .retAddr 0), (1, .ref 0), (2, .ref 60), (3, .int l3)]) (sub_c rfl (sub_c rfl (sub_c rfl (sub_c rfl sub_n)))) (rb_L_law_1517 hE hrec_18 r136.2 l3)
      · refine r_iconst (v := (0 : Int32)) dL_law_1190 rfl ?_
        exact r_ireturn dL_law_1191 rfl rfl
    refine r_sw1 (fun h138 => ?_) (fun h138 => ?_)
    · refine r_jmp (t := 1192) dL_law_33 rfl (by rw [h138]; rfl) ?_
      refine r_aload_n (x := 0) dL_law_1192 rfl ?_
      refine r_roload_n (x := 0) dL_law_1193 rfl ?_
      refine r_iload_n (x := l3) dL_law_1194 rfl ?_
      refine r_iconst (v := (1 : Int32)) dL_law_1195 rfl ?_
      refine r_iadd dL_law_1196 ?_
      refine r_scload dL_law_1197 ?_
      refine r_calli (k := 0) (idx := 155) (y := 180) (as := [.ref 0, .int (E.2.1 (l3 + (1 : Int32)).toNatClampNeg)]) (rest := []) (L0 := [(0, .ref 0), (1, .int (E.2.1 (l3 + (1 : Int32)).toNatClampNeg))]) dL_law_1198 rfl rfl rfl rfl rfl (vok_v (ob_0 hE) rfl) rfl (r_dep (by decide) (e_X11_trace hE q (E.2.1 (l3 + (1 : Int32)).toNatClampNeg))) (fun r139 => ?_)
      refine r_aload_n (x := 60) dL_law_1201 rfl ?_
      refine r_roload_n (x := 0) dL_law_1202 rfl ?_
      refine r_iload_n (x := l3) dL_law_1203 rfl ?_
      refine r_iconst (v := (1 : Int32)) dL_law_1204 rfl ?_
      refine r_iadd dL_law_1205 ?_
      refine r_scload dL_law_1206 ?_
      refine r_calli (k := 0) (idx := 158) (y := 272) (as := [.ref 60, .int (E.2.1 (l3 + (1 : Int32)).toNatClampNeg)]) (rest := [.int r139]) (L0 := [(0, .ref 60), (1, .int (E.2.1 (l3 + (1 : Int32)).toNatClampNeg))]) dL_law_1207 rfl rfl rfl rfl rfl (vok_v (ob_60 hE) rfl) rfl (r_dep (by decide) (e_X12_trace hE q (E.2.1 (l3 + (1 : Int32)).toNatClampNeg))) (fun r140 => ?_)
      refine r_icmp_eq (t := 1517) dL_law_1210 rfl (fun h141 => ?_) (fun h141 => ?_)
      · exact r_sub (L' := [(0, .retAddr 0), (1, .ref 0), (2, .ref 60), (3, .int l3)]) (sub_c rfl (sub_c rfl (sub_c rfl (sub_c rfl sub_n)))) (rb_L_law_1517 hE hrec_18 q l3)
      · refine r_iconst (v := (0 : Int32)) dL_law_1213 rfl ?_
        exact r_ireturn dL_law_1214 rfl rfl
    refine r_sw1 (fun h142 => ?_) (fun h142 => ?_)
    · refine r_jmp (t := 1215) dL_law_33 rfl (by rw [h142]; rfl) ?_
      refine r_aload_n (x := 0) dL_law_1215 rfl ?_
      refine r_roload_n (x := 0) dL_law_1216 rfl ?_
      refine r_iload_n (x := l3) dL_law_1217 rfl ?_
      refine r_iconst (v := (1 : Int32)) dL_law_1218 rfl ?_
      refine r_iadd dL_law_1219 ?_
      refine r_scload dL_law_1220 ?_
      refine r_roload_n (x := 0) dL_law_1221 rfl ?_
      refine r_iload_n (x := l3) dL_law_1222 rfl ?_
      refine r_iconst (v := (2 : Int32)) dL_law_1223 rfl ?_
      refine r_iadd dL_law_1224 ?_
      refine r_scload dL_law_1225 ?_
      refine r_callI (k := 0) (idx := 159) (y := 181) (as := [.ref 0, .int (E.2.1 (l3 + (1 : Int32)).toNatClampNeg), .int (E.2.1 (l3 + (2 : Int32)).toNatClampNeg)]) (rest := []) (L0 := [(0, .ref 0), (1, .int (E.2.1 (l3 + (1 : Int32)).toNatClampNeg)), (2, .int (E.2.1 (l3 + (2 : Int32)).toNatClampNeg))]) dL_law_1226 rfl rfl rfl rfl rfl (vok_v (ob_0 hE) rfl) rfl (r_dep (by decide) (e_X11_keep hE q (E.2.1 (l3 + (1 : Int32)).toNatClampNeg) (E.2.1 (l3 + (2 : Int32)).toNatClampNeg))) (fun r143 => ?_)
      refine r_aload_n (x := 60) dL_law_1229 rfl ?_
      refine r_roload_n (x := 0) dL_law_1230 rfl ?_
      refine r_iload_n (x := l3) dL_law_1231 rfl ?_
      refine r_iconst (v := (1 : Int32)) dL_law_1232 rfl ?_
      refine r_iadd dL_law_1233 ?_
      refine r_scload dL_law_1234 ?_
      refine r_roload_n (x := 0) dL_law_1235 rfl ?_
      refine r_iload_n (x := l3) dL_law_1236 rfl ?_
      refine r_iconst (v := (2 : Int32)) dL_law_1237 rfl ?_
      refine r_iadd dL_law_1238 ?_
      refine r_scload dL_law_1239 ?_
      refine r_callI (k := 0) (idx := 162) (y := 289) (as := [.ref 60, .int (E.2.1 (l3 + (1 : Int32)).toNatClampNeg), .int (E.2.1 (l3 + (2 : Int32)).toNatClampNeg)]) (rest := [.int r143.1]) (L0 := [(0, .ref 60), (1, .int (E.2.1 (l3 + (1 : Int32)).toNatClampNeg)), (2, .int (E.2.1 (l3 + (2 : Int32)).toNatClampNeg))]) dL_law_1240 rfl rfl rfl rfl rfl (vok_v (ob_60 hE) rfl) rfl (r_dep (by decide) (e_X12_keep hE r143.2 (E.2.1 (l3 + (1 : Int32)).toNatClampNeg) (E.2.1 (l3 + (2 : Int32)).toNatClampNeg))) (fun r144 => ?_)
      refine r_icmp_eq (t := 1517) dL_law_1243 rfl (fun h145 => ?_) (fun h145 => ?_)
      · exact r_sub (L' := [(0, .retAddr 0), (1, .ref 0), (2, .ref 60), (3, .int l3)]) (sub_c rfl (sub_c rfl (sub_c rfl (sub_c rfl sub_n)))) (rb_L_law_1517 hE hrec_18 r144.2 l3)
      · refine r_iconst (v := (0 : Int32)) dL_law_1246 rfl ?_
        exact r_ireturn dL_law_1247 rfl rfl
    refine r_sw1 (fun h146 => ?_) (fun h146 => ?_)
    · refine r_jmp (t := 1248) dL_law_33 rfl (by rw [h146]; rfl) ?_
      refine r_aload_n (x := 0) dL_law_1248 rfl ?_
      refine r_roload_n (x := 0) dL_law_1249 rfl ?_
      refine r_iload_n (x := l3) dL_law_1250 rfl ?_
      refine r_iconst (v := (1 : Int32)) dL_law_1251 rfl ?_
      refine r_iadd dL_law_1252 ?_
      refine r_scload dL_law_1253 ?_
      refine r_roload_n (x := 0) dL_law_1254 rfl ?_
      refine r_iload_n (x := l3) dL_law_1255 rfl ?_
      refine r_iconst (v := (2 : Int32)) dL_law_1256 rfl ?_
      refine r_iadd dL_law_1257 ?_
      refine r_scload dL_law_1258 ?_
      refine r_roload_n (x := 0) dL_law_1259 rfl ?_
      refine r_iload_n (x := l3) dL_law_1260 rfl ?_
      refine r_iconst (v := (3 : Int32)) dL_law_1261 rfl ?_
      refine r_iadd dL_law_1262 ?_
      refine r_scload dL_law_1263 ?_
      refine r_callI (k := 0) (idx := 163) (y := 182) (as := [.ref 0, .int (E.2.1 (l3 + (1 : Int32)).toNatClampNeg), .int (E.2.1 (l3 + (2 : Int32)).toNatClampNeg), .int (E.2.1 (l3 + (3 : Int32)).toNatClampNeg)]) (rest := []) (L0 := [(0, .ref 0), (1, .int (E.2.1 (l3 + (1 : Int32)).toNatClampNeg)), (2, .int (E.2.1 (l3 + (2 : Int32)).toNatClampNeg)), (3, .int (E.2.1 (l3 + (3 : Int32)).toNatClampNeg))]) dL_law_1264 rfl rfl rfl rfl rfl (vok_v (ob_0 hE) rfl) rfl (r_dep (by decide) (e_X11_row hE q (E.2.1 (l3 + (1 : Int32)).toNatClampNeg) (E.2.1 (l3 + (2 : Int32)).toNatClampNeg) (E.2.1 (l3 + (3 : Int32)).toNatClampNeg))) (fun r147 => ?_)
      refine r_aload_n (x := 60) dL_law_1267 rfl ?_
      refine r_roload_n (x := 0) dL_law_1268 rfl ?_
      refine r_iload_n (x := l3) dL_law_1269 rfl ?_
      refine r_iconst (v := (1 : Int32)) dL_law_1270 rfl ?_
      refine r_iadd dL_law_1271 ?_
      refine r_scload dL_law_1272 ?_
      refine r_roload_n (x := 0) dL_law_1273 rfl ?_
      refine r_iload_n (x := l3) dL_law_1274 rfl ?_
      refine r_iconst (v := (2 : Int32)) dL_law_1275 rfl ?_
      refine r_iadd dL_law_1276 ?_
      refine r_scload dL_law_1277 ?_
      refine r_roload_n (x := 0) dL_law_1278 rfl ?_
      refine r_iload_n (x := l3) dL_law_1279 rfl ?_
      refine r_iconst (v := (3 : Int32)) dL_law_1280 rfl ?_
      refine r_iadd dL_law_1281 ?_
      refine r_scload dL_law_1282 ?_
      refine r_callI (k := 0) (idx := 166) (y := 290) (as := [.ref 60, .int (E.2.1 (l3 + (1 : Int32)).toNatClampNeg), .int (E.2.1 (l3 + (2 : Int32)).toNatClampNeg), .int (E.2.1 (l3 + (3 : Int32)).toNatClampNeg)]) (rest := [.int r147.1]) (L0 := [(0, .ref 60), (1, .int (E.2.1 (l3 + (1 : Int32)).toNatClampNeg)), (2, .int (E.2.1 (l3 + (2 : Int32)).toNatClampNeg)), (3, .int (E.2.1 (l3 + (3 : Int32)).toNatClampNeg))]) dL_law_1283 rfl rfl rfl rfl rfl (vok_v (ob_60 hE) rfl) rfl (r_dep (by decide) (e_X12_row hE r147.2 (E.2.1 (l3 + (1 : Int32)).toNatClampNeg) (E.2.1 (l3 + (2 : Int32)).toNatClampNeg) (E.2.1 (l3 + (3 : Int32)).toNatClampNeg))) (fun r148 => ?_)
      refine r_icmp_eq (t := 1517) dL_law_1286 rfl (fun h149 => ?_) (fun h149 => ?_)
      · exact r_sub (L' := [(0, .retAddr 0), (1, .ref 0), (2, .ref 60), (3, .int l3)]) (sub_c rfl (sub_c rfl (sub_c rfl (sub_c rfl sub_n)))) (rb_L_law_1517 hE hrec_18 r148.2 l3)
      · refine r_iconst (v := (0 : Int32)) dL_law_1289 rfl ?_
        exact r_ireturn dL_law_1290 rfl rfl
    refine r_sw1 (fun h150 => ?_) (fun h150 => ?_)
    · refine r_jmp (t := 1291) dL_law_33 rfl (by rw [h150]; rfl) ?_
      refine r_aload_n (x := 0) dL_law_1291 rfl ?_
      refine r_roload_n (x := 0) dL_law_1292 rfl ?_
      refine r_iload_n (x := l3) dL_law_1293 rfl ?_
      refine r_iconst (v := (1 : Int32)) dL_law_1294 rfl ?_
      refine r_iadd dL_law_1295 ?_
      refine r_scload dL_law_1296 ?_
      refine r_roload_n (x := 0) dL_law_1297 rfl ?_
      refine r_iload_n (x := l3) dL_law_1298 rfl ?_
      refine r_iconst (v := (2 : Int32)) dL_law_1299 rfl ?_
      refine r_iadd dL_law_1300 ?_
      refine r_scload dL_law_1301 ?_
      refine r_roload_n (x := 0) dL_law_1302 rfl ?_
      refine r_iload_n (x := l3) dL_law_1303 rfl ?_
      refine r_iconst (v := (3 : Int32)) dL_law_1304 rfl ?_
      refine r_iadd dL_law_1305 ?_
      refine r_scload dL_law_1306 ?_
      refine r_i2l dL_law_1307 ?_
      refine r_bipush (v := (32 : Int32)) dL_law_1308 rfl ?_
      refine r_lshl dL_law_1310 ?_
      refine r_roload_n (x := 0) dL_law_1311 rfl ?_
      refine r_iload_n (x := l3) dL_law_1312 rfl ?_
      refine r_iconst (v := (4 : Int32)) dL_law_1313 rfl ?_
      refine r_iadd dL_law_1314 ?_
      refine r_scload dL_law_1315 ?_
      refine r_i2l dL_law_1316 ?_
      refine r_ldc2 (v := (4294967295 : Int64)) dL_law_1317 rfl ?_
      refine r_land dL_law_1320 ?_
      refine r_lor dL_law_1321 ?_
      refine r_callI (k := 0) (idx := 169) (y := 183) (as := [.ref 0, .int (E.2.1 (l3 + (1 : Int32)).toNatClampNeg), .int (E.2.1 (l3 + (2 : Int32)).toNatClampNeg), .long ((jlshl ((E.2.1 (l3 + (3 : Int32)).toNatClampNeg).toInt64) (32 : Int32)) ||| (((E.2.1 (l3 + (4 : Int32)).toNatClampNeg).toInt64) &&& (4294967295 : Int64)))]) (rest := []) (L0 := [(0, .ref 0), (1, .int (E.2.1 (l3 + (1 : Int32)).toNatClampNeg)), (2, .int (E.2.1 (l3 + (2 : Int32)).toNatClampNeg)), (3, .long ((jlshl ((E.2.1 (l3 + (3 : Int32)).toNatClampNeg).toInt64) (32 : Int32)) ||| (((E.2.1 (l3 + (4 : Int32)).toNatClampNeg).toInt64) &&& (4294967295 : Int64))))]) dL_law_1322 rfl rfl rfl rfl rfl (vok_v (ob_0 hE) rfl) rfl (r_dep (by decide) (e_X11_put hE q (E.2.1 (l3 + (1 : Int32)).toNatClampNeg) (E.2.1 (l3 + (2 : Int32)).toNatClampNeg) ((jlshl ((E.2.1 (l3 + (3 : Int32)).toNatClampNeg).toInt64) (32 : Int32)) ||| (((E.2.1 (l3 + (4 : Int32)).toNatClampNeg).toInt64) &&& (4294967295 : Int64))))) (fun r151 => ?_)
      refine r_aload_n (x := 60) dL_law_1325 rfl ?_
      refine r_roload_n (x := 0) dL_law_1326 rfl ?_
      refine r_iload_n (x := l3) dL_law_1327 rfl ?_
      refine r_iconst (v := (1 : Int32)) dL_law_1328 rfl ?_
      refine r_iadd dL_law_1329 ?_
      refine r_scload dL_law_1330 ?_
      refine r_roload_n (x := 0) dL_law_1331 rfl ?_
      refine r_iload_n (x := l3) dL_law_1332 rfl ?_
      refine r_iconst (v := (2 : Int32)) dL_law_1333 rfl ?_
      refine r_iadd dL_law_1334 ?_
      refine r_scload dL_law_1335 ?_
      refine r_roload_n (x := 0) dL_law_1336 rfl ?_
      refine r_iload_n (x := l3) dL_law_1337 rfl ?_
      refine r_iconst (v := (3 : Int32)) dL_law_1338 rfl ?_
      refine r_iadd dL_law_1339 ?_
      refine r_scload dL_law_1340 ?_
      refine r_i2l dL_law_1341 ?_
      refine r_bipush (v := (32 : Int32)) dL_law_1342 rfl ?_
      refine r_lshl dL_law_1344 ?_
      refine r_roload_n (x := 0) dL_law_1345 rfl ?_
      refine r_iload_n (x := l3) dL_law_1346 rfl ?_
      refine r_iconst (v := (4 : Int32)) dL_law_1347 rfl ?_
      refine r_iadd dL_law_1348 ?_
      refine r_scload dL_law_1349 ?_
      refine r_i2l dL_law_1350 ?_
      refine r_ldc2 (v := (4294967295 : Int64)) dL_law_1351 rfl ?_
      refine r_land dL_law_1354 ?_
      refine r_lor dL_law_1355 ?_
      refine r_callI (k := 0) (idx := 173) (y := 292) (as := [.ref 60, .int (E.2.1 (l3 + (1 : Int32)).toNatClampNeg), .int (E.2.1 (l3 + (2 : Int32)).toNatClampNeg), .long ((jlshl ((E.2.1 (l3 + (3 : Int32)).toNatClampNeg).toInt64) (32 : Int32)) ||| (((E.2.1 (l3 + (4 : Int32)).toNatClampNeg).toInt64) &&& (4294967295 : Int64)))]) (rest := [.int r151.1]) (L0 := [(0, .ref 60), (1, .int (E.2.1 (l3 + (1 : Int32)).toNatClampNeg)), (2, .int (E.2.1 (l3 + (2 : Int32)).toNatClampNeg)), (3, .long ((jlshl ((E.2.1 (l3 + (3 : Int32)).toNatClampNeg).toInt64) (32 : Int32)) ||| (((E.2.1 (l3 + (4 : Int32)).toNatClampNeg).toInt64) &&& (4294967295 : Int64))))]) dL_law_1356 rfl rfl rfl rfl rfl (vok_v (ob_60 hE) rfl) rfl (r_dep (by decide) (e_X12_put hE r151.2 (E.2.1 (l3 + (1 : Int32)).toNatClampNeg) (E.2.1 (l3 + (2 : Int32)).toNatClampNeg) ((jlshl ((E.2.1 (l3 + (3 : Int32)).toNatClampNeg).toInt64) (32 : Int32)) ||| (((E.2.1 (l3 + (4 : Int32)).toNatClampNeg).toInt64) &&& (4294967295 : Int64))))) (fun r152 => ?_)
      refine r_icmp_eq (t := 1517) dL_law_1359 rfl (fun h153 => ?_) (fun h153 => ?_)
      · exact r_sub (L' := [(0, .retAddr 0), (1, .ref 0), (2, .ref 60), (3, .int l3)]) (sub_c rfl (sub_c rfl (sub_c rfl (sub_c rfl sub_n)))) (rb_L_law_1517 hE hrec_18 r152.2 l3)
      · refine r_iconst (v := (0 : Int32)) dL_law_1362 rfl ?_
        exact r_ireturn dL_law_1363 rfl rfl
    refine r_sw1 (fun h154 => ?_) (fun h154 => ?_)
    · refine r_jmp (t := 1364) dL_law_33 rfl (by rw [h154]; rfl) ?_
      refine r_aload_n (x := 0) dL_law_1364 rfl ?_
      refine r_roload_n (x := 0) dL_law_1365 rfl ?_
      refine r_iload_n (x := l3) dL_law_1366 rfl ?_
      refine r_iconst (v := (1 : Int32)) dL_law_1367 rfl ?_
      refine r_iadd dL_law_1368 ?_
      refine r_scload dL_law_1369 ?_
      refine r_roload_n (x := 0) dL_law_1370 rfl ?_
      refine r_iload_n (x := l3) dL_law_1371 rfl ?_
      refine r_iconst (v := (2 : Int32)) dL_law_1372 rfl ?_
      refine r_iadd dL_law_1373 ?_
      refine r_scload dL_law_1374 ?_
      refine r_calll (k := 0) (idx := 174) (y := 184) (as := [.ref 0, .int (E.2.1 (l3 + (1 : Int32)).toNatClampNeg), .int (E.2.1 (l3 + (2 : Int32)).toNatClampNeg)]) (rest := []) (L0 := [(0, .ref 0), (1, .int (E.2.1 (l3 + (1 : Int32)).toNatClampNeg)), (2, .int (E.2.1 (l3 + (2 : Int32)).toNatClampNeg))]) dL_law_1375 rfl rfl rfl rfl rfl (vok_v (ob_0 hE) rfl) rfl (r_dep (by decide) (e_X11_element hE q (E.2.1 (l3 + (1 : Int32)).toNatClampNeg) (E.2.1 (l3 + (2 : Int32)).toNatClampNeg))) (fun r155 => ?_)
      refine r_aload_n (x := 60) dL_law_1378 rfl ?_
      refine r_roload_n (x := 0) dL_law_1379 rfl ?_
      refine r_iload_n (x := l3) dL_law_1380 rfl ?_
      refine r_iconst (v := (1 : Int32)) dL_law_1381 rfl ?_
      refine r_iadd dL_law_1382 ?_
      refine r_scload dL_law_1383 ?_
      refine r_roload_n (x := 0) dL_law_1384 rfl ?_
      refine r_iload_n (x := l3) dL_law_1385 rfl ?_
      refine r_iconst (v := (2 : Int32)) dL_law_1386 rfl ?_
      refine r_iadd dL_law_1387 ?_
      refine r_scload dL_law_1388 ?_
      refine r_calll (k := 0) (idx := 177) (y := 293) (as := [.ref 60, .int (E.2.1 (l3 + (1 : Int32)).toNatClampNeg), .int (E.2.1 (l3 + (2 : Int32)).toNatClampNeg)]) (rest := [.long r155]) (L0 := [(0, .ref 60), (1, .int (E.2.1 (l3 + (1 : Int32)).toNatClampNeg)), (2, .int (E.2.1 (l3 + (2 : Int32)).toNatClampNeg))]) dL_law_1389 rfl rfl rfl rfl rfl (vok_v (ob_60 hE) rfl) rfl (r_dep (by decide) (e_X12_element hE q (E.2.1 (l3 + (1 : Int32)).toNatClampNeg) (E.2.1 (l3 + (2 : Int32)).toNatClampNeg))) (fun r156 => ?_)
      refine r_lcmp dL_law_1392 ?_
      refine r_if_eq (t := 1517) dL_law_1393 rfl (fun h157 => ?_) (fun h157 => ?_)
      · exact r_sub (L' := [(0, .retAddr 0), (1, .ref 0), (2, .ref 60), (3, .int l3)]) (sub_c rfl (sub_c rfl (sub_c rfl (sub_c rfl sub_n)))) (rb_L_law_1517 hE hrec_18 q l3)
      · refine r_iconst (v := (0 : Int32)) dL_law_1396 rfl ?_
        exact r_ireturn dL_law_1397 rfl rfl
    refine r_sw1 (fun h158 => ?_) (fun h158 => ?_)
    · refine r_jmp (t := 1398) dL_law_33 rfl (by rw [h158]; rfl) ?_
      refine r_aload_n (x := 0) dL_law_1398 rfl ?_
      refine r_roload_n (x := 0) dL_law_1399 rfl ?_
      refine r_iload_n (x := l3) dL_law_1400 rfl ?_
      refine r_iconst (v := (1 : Int32)) dL_law_1401 rfl ?_
      refine r_iadd dL_law_1402 ?_
      refine r_scload dL_law_1403 ?_
      refine r_roload_n (x := 0) dL_law_1404 rfl ?_
      refine r_iload_n (x := l3) dL_law_1405 rfl ?_
      refine r_iconst (v := (2 : Int32)) dL_law_1406 rfl ?_
      refine r_iadd dL_law_1407 ?_
      refine r_scload dL_law_1408 ?_
      refine r_roload_n (x := 0) dL_law_1409 rfl ?_
      refine r_iload_n (x := l3) dL_law_1410 rfl ?_
      refine r_iconst (v := (3 : Int32)) dL_law_1411 rfl ?_
      refine r_iadd dL_law_1412 ?_
      refine r_scload dL_law_1413 ?_
      refine r_roload_n (x := 0) dL_law_1414 rfl ?_
      refine r_iload_n (x := l3) dL_law_1415 rfl ?_
      refine r_iconst (v := (4 : Int32)) dL_law_1416 rfl ?_
      refine r_iadd dL_law_1417 ?_
      refine r_scload dL_law_1418 ?_
      refine r_roload_n (x := 0) dL_law_1419 rfl ?_
      refine r_iload_n (x := l3) dL_law_1420 rfl ?_
      refine r_iconst (v := (5 : Int32)) dL_law_1421 rfl ?_
      refine r_iadd dL_law_1422 ?_
      refine r_scload dL_law_1423 ?_
      refine r_callI (k := 0) (idx := 178) (y := 185) (as := [.ref 0, .int (E.2.1 (l3 + (1 : Int32)).toNatClampNeg), .int (E.2.1 (l3 + (2 : Int32)).toNatClampNeg), .int (E.2.1 (l3 + (3 : Int32)).toNatClampNeg), .int (E.2.1 (l3 + (4 : Int32)).toNatClampNeg), .int (E.2.1 (l3 + (5 : Int32)).toNatClampNeg)]) (rest := []) (L0 := [(0, .ref 0), (1, .int (E.2.1 (l3 + (1 : Int32)).toNatClampNeg)), (2, .int (E.2.1 (l3 + (2 : Int32)).toNatClampNeg)), (3, .int (E.2.1 (l3 + (3 : Int32)).toNatClampNeg)), (4, .int (E.2.1 (l3 + (4 : Int32)).toNatClampNeg)), (5, .int (E.2.1 (l3 + (5 : Int32)).toNatClampNeg))]) dL_law_1424 rfl rfl rfl rfl rfl (vok_v (ob_0 hE) rfl) rfl (r_dep (by decide) (e_X11_shift hE q (E.2.1 (l3 + (1 : Int32)).toNatClampNeg) (E.2.1 (l3 + (2 : Int32)).toNatClampNeg) (E.2.1 (l3 + (3 : Int32)).toNatClampNeg) (E.2.1 (l3 + (4 : Int32)).toNatClampNeg) (E.2.1 (l3 + (5 : Int32)).toNatClampNeg))) (fun r159 => ?_)
      refine r_aload_n (x := 60) dL_law_1427 rfl ?_
      refine r_roload_n (x := 0) dL_law_1428 rfl ?_
      refine r_iload_n (x := l3) dL_law_1429 rfl ?_
      refine r_iconst (v := (1 : Int32)) dL_law_1430 rfl ?_
      refine r_iadd dL_law_1431 ?_
      refine r_scload dL_law_1432 ?_
      refine r_roload_n (x := 0) dL_law_1433 rfl ?_
      refine r_iload_n (x := l3) dL_law_1434 rfl ?_
      refine r_iconst (v := (2 : Int32)) dL_law_1435 rfl ?_
      refine r_iadd dL_law_1436 ?_
      refine r_scload dL_law_1437 ?_
      refine r_roload_n (x := 0) dL_law_1438 rfl ?_
      refine r_iload_n (x := l3) dL_law_1439 rfl ?_
      refine r_iconst (v := (3 : Int32)) dL_law_1440 rfl ?_
      refine r_iadd dL_law_1441 ?_
      refine r_scload dL_law_1442 ?_
      refine r_roload_n (x := 0) dL_law_1443 rfl ?_
      refine r_iload_n (x := l3) dL_law_1444 rfl ?_
      refine r_iconst (v := (4 : Int32)) dL_law_1445 rfl ?_
      refine r_iadd dL_law_1446 ?_
      refine r_scload dL_law_1447 ?_
      refine r_roload_n (x := 0) dL_law_1448 rfl ?_
      refine r_iload_n (x := l3) dL_law_1449 rfl ?_
      refine r_iconst (v := (5 : Int32)) dL_law_1450 rfl ?_
      refine r_iadd dL_law_1451 ?_
      refine r_scload dL_law_1452 ?_
      refine r_callI (k := 0) (idx := 182) (y := 294) (as := [.ref 60, .int (E.2.1 (l3 + (1 : Int32)).toNatClampNeg), .int (E.2.1 (l3 + (2 : Int32)).toNatClampNeg), .int (E.2.1 (l3 + (3 : Int32)).toNatClampNeg), .int (E.2.1 (l3 + (4 : Int32)).toNatClampNeg), .int (E.2.1 (l3 + (5 : Int32)).toNatClampNeg)]) (rest := [.int r159.1]) (L0 := [(0, .ref 60), (1, .int (E.2.1 (l3 + (1 : Int32)).toNatClampNeg)), (2, .int (E.2.1 (l3 + (2 : Int32)).toNatClampNeg)), (3, .int (E.2.1 (l3 + (3 : Int32)).toNatClampNeg)), (4, .int (E.2.1 (l3 + (4 : Int32)).toNatClampNeg)), (5, .int (E.2.1 (l3 + (5 : Int32)).toNatClampNeg))]) dL_law_1453 rfl rfl rfl rfl rfl (vok_v (ob_60 hE) rfl) rfl (r_dep (by decide) (e_X12_shift hE r159.2 (E.2.1 (l3 + (1 : Int32)).toNatClampNeg) (E.2.1 (l3 + (2 : Int32)).toNatClampNeg) (E.2.1 (l3 + (3 : Int32)).toNatClampNeg) (E.2.1 (l3 + (4 : Int32)).toNatClampNeg) (E.2.1 (l3 + (5 : Int32)).toNatClampNeg))) (fun r160 => ?_)
      refine r_icmp_eq (t := 1517) dL_law_1456 rfl (fun h161 => ?_) (fun h161 => ?_)
      · exact r_sub (L' := [(0, .retAddr 0), (1, .ref 0), (2, .ref 60), (3, .int l3)]) (sub_c rfl (sub_c rfl (sub_c rfl (sub_c rfl sub_n)))) (rb_L_law_1517 hE hrec_18 r160.2 l3)
      · refine r_iconst (v := (0 : Int32)) dL_law_1459 rfl ?_
        exact r_ireturn dL_law_1460 rfl rfl
    refine r_sw1 (fun h162 => ?_) (fun h162 => ?_)
    · refine r_jmp (t := 1461) dL_law_33 rfl (by rw [h162]; rfl) ?_
      refine r_aload_n (x := 0) dL_law_1461 rfl ?_
      refine r_roload_n (x := 0) dL_law_1462 rfl ?_
      refine r_iload_n (x := l3) dL_law_1463 rfl ?_
      refine r_iconst (v := (1 : Int32)) dL_law_1464 rfl ?_
      refine r_iadd dL_law_1465 ?_
      refine r_scload dL_law_1466 ?_
      refine r_roload_n (x := 0) dL_law_1467 rfl ?_
      refine r_iload_n (x := l3) dL_law_1468 rfl ?_
      refine r_iconst (v := (2 : Int32)) dL_law_1469 rfl ?_
      refine r_iadd dL_law_1470 ?_
      refine r_scload dL_law_1471 ?_
      refine r_calli (k := 0) (idx := 183) (y := 186) (as := [.ref 0, .int (E.2.1 (l3 + (1 : Int32)).toNatClampNeg), .int (E.2.1 (l3 + (2 : Int32)).toNatClampNeg)]) (rest := []) (L0 := [(0, .ref 0), (1, .int (E.2.1 (l3 + (1 : Int32)).toNatClampNeg)), (2, .int (E.2.1 (l3 + (2 : Int32)).toNatClampNeg))]) dL_law_1472 rfl rfl rfl rfl rfl (vok_v (ob_0 hE) rfl) rfl (r_dep (by decide) (e_X11_taken hE q (E.2.1 (l3 + (1 : Int32)).toNatClampNeg) (E.2.1 (l3 + (2 : Int32)).toNatClampNeg))) (fun r163 => ?_)
      refine r_aload_n (x := 60) dL_law_1475 rfl ?_
      refine r_roload_n (x := 0) dL_law_1476 rfl ?_
      refine r_iload_n (x := l3) dL_law_1477 rfl ?_
      refine r_iconst (v := (1 : Int32)) dL_law_1478 rfl ?_
      refine r_iadd dL_law_1479 ?_
      refine r_scload dL_law_1480 ?_
      refine r_roload_n (x := 0) dL_law_1481 rfl ?_
      refine r_iload_n (x := l3) dL_law_1482 rfl ?_
      refine r_iconst (v := (2 : Int32)) dL_law_1483 rfl ?_
      refine r_iadd dL_law_1484 ?_
      refine r_scload dL_law_1485 ?_
      refine r_calli (k := 0) (idx := 186) (y := 295) (as := [.ref 60, .int (E.2.1 (l3 + (1 : Int32)).toNatClampNeg), .int (E.2.1 (l3 + (2 : Int32)).toNatClampNeg)]) (rest := [.int r163]) (L0 := [(0, .ref 60), (1, .int (E.2.1 (l3 + (1 : Int32)).toNatClampNeg)), (2, .int (E.2.1 (l3 + (2 : Int32)).toNatClampNeg))]) dL_law_1486 rfl rfl rfl rfl rfl (vok_v (ob_60 hE) rfl) rfl (r_dep (by decide) (e_X12_taken hE q (E.2.1 (l3 + (1 : Int32)).toNatClampNeg) (E.2.1 (l3 + (2 : Int32)).toNatClampNeg))) (fun r164 => ?_)
      refine r_icmp_eq (t := 1517) dL_law_1489 rfl (fun h165 => ?_) (fun h165 => ?_)
      · exact r_sub (L' := [(0, .retAddr 0), (1, .ref 0), (2, .ref 60), (3, .int l3)]) (sub_c rfl (sub_c rfl (sub_c rfl (sub_c rfl sub_n)))) (rb_L_law_1517 hE hrec_18 q l3)
      · refine r_iconst (v := (0 : Int32)) dL_law_1492 rfl ?_
        exact r_ireturn dL_law_1493 rfl rfl
    refine r_sw1 (fun h166 => ?_) (fun h166 => ?_)
    · refine r_jmp (t := 1494) dL_law_33 rfl (by rw [h166]; rfl) ?_
      refine r_aload_n (x := 0) dL_law_1494 rfl ?_
      refine r_roload_n (x := 0) dL_law_1495 rfl ?_
      refine r_iload_n (x := l3) dL_law_1496 rfl ?_
      refine r_iconst (v := (1 : Int32)) dL_law_1497 rfl ?_
      refine r_iadd dL_law_1498 ?_
      refine r_scload dL_law_1499 ?_
      refine r_calli (k := 0) (idx := 187) (y := 187) (as := [.ref 0, .int (E.2.1 (l3 + (1 : Int32)).toNatClampNeg)]) (rest := []) (L0 := [(0, .ref 0), (1, .int (E.2.1 (l3 + (1 : Int32)).toNatClampNeg))]) dL_law_1500 rfl rfl rfl rfl rfl (vok_v (ob_0 hE) rfl) rfl (r_dep (by decide) (e_X11_count hE q (E.2.1 (l3 + (1 : Int32)).toNatClampNeg))) (fun r167 => ?_)
      refine r_aload_n (x := 60) dL_law_1503 rfl ?_
      refine r_roload_n (x := 0) dL_law_1504 rfl ?_
      refine r_iload_n (x := l3) dL_law_1505 rfl ?_
      refine r_iconst (v := (1 : Int32)) dL_law_1506 rfl ?_
      refine r_iadd dL_law_1507 ?_
      refine r_scload dL_law_1508 ?_
      refine r_calli (k := 0) (idx := 190) (y := 287) (as := [.ref 60, .int (E.2.1 (l3 + (1 : Int32)).toNatClampNeg)]) (rest := [.int r167]) (L0 := [(0, .ref 60), (1, .int (E.2.1 (l3 + (1 : Int32)).toNatClampNeg))]) dL_law_1509 rfl rfl rfl rfl rfl (vok_v (ob_60 hE) rfl) rfl (r_dep (by decide) (e_X12_count hE q (E.2.1 (l3 + (1 : Int32)).toNatClampNeg))) (fun r168 => ?_)
      refine r_icmp_eq (t := 1517) dL_law_1512 rfl (fun h169 => ?_) (fun h169 => ?_)
      · exact r_sub (L' := [(0, .retAddr 0), (1, .ref 0), (2, .ref 60), (3, .int l3)]) (sub_c rfl (sub_c rfl (sub_c rfl (sub_c rfl sub_n)))) (rb_L_law_1517 hE hrec_18 q l3)
      · refine r_iconst (v := (0 : Int32)) dL_law_1515 rfl ?_
        exact r_ireturn dL_law_1516 rfl rfl
    refine r_jmp (t := 1517) dL_law_33 rfl ?_ ?_
    · have h170 := sw_lo (v := v1.toInt) 0
      have h170 := sw_st h170 h2
      have h170 := sw_st h170 h6
      have h170 := sw_st h170 h10
      have h170 := sw_st h170 h14
      have h170 := sw_st h170 h18
      have h170 := sw_st h170 h22
      have h170 := sw_st h170 h26
      have h170 := sw_st h170 h30
      have h170 := sw_st h170 h34
      have h170 := sw_st h170 h38
      have h170 := sw_st h170 h42
      have h170 := sw_st h170 h46
      have h170 := sw_st h170 h50
      have h170 := sw_st h170 h54
      have h170 := sw_st h170 h58
      have h170 := sw_st h170 h62
      have h170 := sw_st h170 h66
      have h170 := sw_st h170 h70
      have h170 := sw_st h170 h74
      have h170 := sw_st h170 h78
      have h170 := sw_st h170 h82
      have h170 := sw_st h170 h86
      have h170 := sw_st h170 h90
      have h170 := sw_st h170 h94
      have h170 := sw_st h170 h98
      have h170 := sw_st h170 h102
      have h170 := sw_st h170 h106
      have h170 := sw_st h170 h110
      have h170 := sw_st h170 h114
      have h170 := sw_st h170 h118
      have h170 := sw_st h170 h122
      have h170 := sw_st h170 h126
      have h170 := sw_st h170 h130
      have h170 := sw_st h170 h134
      have h170 := sw_st h170 h138
      have h170 := sw_st h170 h142
      have h170 := sw_st h170 h146
      have h170 := sw_st h170 h150
      have h170 := sw_st h170 h154
      have h170 := sw_st h170 h158
      have h170 := sw_st h170 h162
      have h170 := sw_st h170 h166
      exact sw_df h170 (by decide) rfl
    exact r_sub (L' := [(0, .retAddr 0), (1, .ref 0), (2, .ref 60), (3, .int l3)]) (sub_c rfl (sub_c rfl (sub_c rfl (sub_c rfl sub_n)))) (rb_L_law_1517 hE hrec_18 q l3)
def f_L_law (Ls : Nat) (xs : Nat → Int32) (q : SS) (a3 : Int32) : Option (Int32 × SS) :=
  b_L_law_18 Ls xs q a3
theorem e_L_law {E : EE} (hE : GE E) (q : SS) (a3 : Int32) : R E (κI E) 906 NM 18 [(0, .retAddr 0), (1, .ref 0), (2, .ref 60), (3, .int a3)] [] q (f_L_law E.1 E.2.1 q a3) := by
  unfold f_L_law
  exact r_sub (L' := [(0, .retAddr 0), (1, .ref 0), (2, .ref 60), (3, .int a3)]) (sub_c rfl (sub_c rfl (sub_c rfl (sub_c rfl sub_n)))) (rb_L_law_18 hE q a3)

def f_X12_mend (q : SS) (a1 : Int32) (a2 : Int32) (a3 : Int32) : Option (Int32 × SS) :=
  (f_X12_isPlace q a1 a2).bind fun r1 =>
  if r1 = 0 then
  (some ((-1 : Int32), q))
  else
  ((f_X12_mayHave q a2 a3).bind fun r2 =>
  if r2 = 0 then
  (some ((-1 : Int32), q))
  else
  ((f_X12_changes q a2 a1 a3).bind fun r3 =>
  some (r3.1, r3.2)))
theorem e_X12_mend {E : EE} (hE : GE E) (q : SS) (a1 : Int32) (a2 : Int32) (a3 : Int32) : R E (κI E) 3 205 0 [(0, .ref 60), (1, .int a1), (2, .int a2), (3, .int a3)] [] q (f_X12_mend q a1 a2 a3) := by
  unfold f_X12_mend
  refine r_aload_n (x := 60) dX12_mend_0 rfl ?_
  refine r_iload_n (x := a1) dX12_mend_1 rfl ?_
  refine r_iload_n (x := a2) dX12_mend_2 rfl ?_
  refine r_calli (k := 0) (idx := 159) (y := 203) (as := [.ref 60, .int a1, .int a2]) (rest := []) (L0 := [(0, .ref 60), (1, .int a1), (2, .int a2)]) dX12_mend_3 rfl rfl rfl rfl rfl (vok_v (ob_60 hE) rfl) rfl (r_dep (by decide) (e_X12_isPlace hE q a1 a2)) (fun r1 => ?_)
  refine r_if_eq (t := 28) dX12_mend_6 rfl (fun h5 => ?_) (fun h5 => ?_)
  · refine r_iconst (v := (-1 : Int32)) dX12_mend_28 rfl ?_
    exact r_ireturn dX12_mend_29 rfl rfl
  · refine r_aload_n (x := 60) dX12_mend_9 rfl ?_
    refine r_iload_n (x := a2) dX12_mend_10 rfl ?_
    refine r_iload_n (x := a3) dX12_mend_11 rfl ?_
    refine r_calli (k := 0) (idx := 162) (y := 204) (as := [.ref 60, .int a2, .int a3]) (rest := []) (L0 := [(0, .ref 60), (1, .int a2), (2, .int a3)]) dX12_mend_12 rfl rfl rfl rfl rfl (vok_v (ob_60 hE) rfl) rfl (r_dep (by decide) (e_X12_mayHave hE q a2 a3)) (fun r2 => ?_)
    refine r_if_eq (t := 28) dX12_mend_15 rfl (fun h4 => ?_) (fun h4 => ?_)
    · refine r_iconst (v := (-1 : Int32)) dX12_mend_28 rfl ?_
      exact r_ireturn dX12_mend_29 rfl rfl
    · refine r_aload_n (x := 60) dX12_mend_18 rfl ?_
      refine r_iload_n (x := a2) dX12_mend_19 rfl ?_
      refine r_iload_n (x := a1) dX12_mend_20 rfl ?_
      refine r_iload_n (x := a3) dX12_mend_21 rfl ?_
      refine r_callI (k := 0) (idx := 165) (y := 200) (as := [.ref 60, .int a2, .int a1, .int a3]) (rest := []) (L0 := [(0, .ref 60), (1, .int a2), (2, .int a1), (3, .int a3)]) dX12_mend_22 rfl rfl rfl rfl rfl (vok_v (ob_60 hE) rfl) rfl (r_dep (by decide) (e_X12_changes hE q a2 a1 a3)) (fun r3 => ?_)
      refine r_goto (t := 29) dX12_mend_25 rfl ?_
      exact r_ireturn dX12_mend_29 rfl rfl
def f_X10_addTicket (q : SS) (a1 : Int32) (a2 : Int32) (a3 : Int32) : Option (Int32 × SS) :=
  if (q.1 1 2) < (12 : Int32) then
  (nm (sI q 1 2 ((q.1 1 2) + (1 : Int32))) fun q1 =>
  (f_X10_set q1 (4 : Int32) ((q1.1 1 2) - (1 : Int32)) a1).bind fun r2 =>
  (f_X10_set r2 (5 : Int32) ((r2.1 1 2) - (1 : Int32)) a2).bind fun r3 =>
  (f_X10_set r3 (6 : Int32) ((r3.1 1 2) - (1 : Int32)) a3).bind fun r4 =>
  some (((r4.1 1 2) - (1 : Int32)), r4))
  else
  (some ((-3 : Int32), q))
theorem e_X10_addTicket {E : EE} (hE : GE E) (q : SS) (a1 : Int32) (a2 : Int32) (a3 : Int32) : R E (κI E) 2 137 0 [(0, .ref 1), (1, .int a1), (2, .int a2), (3, .int a3)] [] q (f_X10_addTicket q a1 a2 a3) := by
  unfold f_X10_addTicket
  refine r_aload_n (x := 1) dX10_addTicket_0 rfl ?_
  refine r_getI dX10_addTicket_1 (ff_10_20_1 hE) (by decide) ?_
  refine r_bipush (v := (12 : Int32)) dX10_addTicket_4 rfl ?_
  refine r_icmp_lt (t := 12) dX10_addTicket_6 rfl (fun h5 => ?_) (fun h5 => ?_)
  · refine r_aload_n (x := 1) dX10_addTicket_12 rfl ?_
    refine r_dup dX10_addTicket_13 rfl ?_
    refine r_getI dX10_addTicket_14 (ff_10_20_1 hE) (by decide) ?_
    refine r_iconst (v := (1 : Int32)) dX10_addTicket_17 rfl ?_
    refine r_iadd dX10_addTicket_18 ?_
    refine r_putI dX10_addTicket_19 (ff_10_20_1 hE) ?_
    refine r_nmS fun q1 _ => ?_
    refine r_aload_n (x := 1) dX10_addTicket_22 rfl ?_
    refine r_iconst (v := (4 : Int32)) dX10_addTicket_23 rfl ?_
    refine r_aload_n (x := 1) dX10_addTicket_24 rfl ?_
    refine r_getI dX10_addTicket_25 (ff_10_20_1 hE) (by decide) ?_
    refine r_iconst (v := (1 : Int32)) dX10_addTicket_28 rfl ?_
    refine r_isub dX10_addTicket_29 ?_
    refine r_iload_n (x := a1) dX10_addTicket_30 rfl ?_
    refine r_callV (k := 0) (idx := 42) (y := 135) (as := [.ref 1, .int (4 : Int32), .int ((q1.1 1 2) - (1 : Int32)), .int a1]) (rest := []) (L0 := [(0, .ref 1), (1, .int (4 : Int32)), (2, .int ((q1.1 1 2) - (1 : Int32))), (3, .int a1)]) dX10_addTicket_31 rfl rfl rfl rfl rfl (vok_v (ob_1 hE) rfl) rfl (r_dep (by decide) (e_X10_set hE q1 (4 : Int32) ((q1.1 1 2) - (1 : Int32)) a1)) (fun r2 => ?_)
    refine r_aload_n (x := 1) dX10_addTicket_34 rfl ?_
    refine r_iconst (v := (5 : Int32)) dX10_addTicket_35 rfl ?_
    refine r_aload_n (x := 1) dX10_addTicket_36 rfl ?_
    refine r_getI dX10_addTicket_37 (ff_10_20_1 hE) (by decide) ?_
    refine r_iconst (v := (1 : Int32)) dX10_addTicket_40 rfl ?_
    refine r_isub dX10_addTicket_41 ?_
    refine r_iload_n (x := a2) dX10_addTicket_42 rfl ?_
    refine r_callV (k := 0) (idx := 42) (y := 135) (as := [.ref 1, .int (5 : Int32), .int ((r2.1 1 2) - (1 : Int32)), .int a2]) (rest := []) (L0 := [(0, .ref 1), (1, .int (5 : Int32)), (2, .int ((r2.1 1 2) - (1 : Int32))), (3, .int a2)]) dX10_addTicket_43 rfl rfl rfl rfl rfl (vok_v (ob_1 hE) rfl) rfl (r_dep (by decide) (e_X10_set hE r2 (5 : Int32) ((r2.1 1 2) - (1 : Int32)) a2)) (fun r3 => ?_)
    refine r_aload_n (x := 1) dX10_addTicket_46 rfl ?_
    refine r_bipush (v := (6 : Int32)) dX10_addTicket_47 rfl ?_
    refine r_aload_n (x := 1) dX10_addTicket_49 rfl ?_
    refine r_getI dX10_addTicket_50 (ff_10_20_1 hE) (by decide) ?_
    refine r_iconst (v := (1 : Int32)) dX10_addTicket_53 rfl ?_
    refine r_isub dX10_addTicket_54 ?_
    refine r_iload_n (x := a3) dX10_addTicket_55 rfl ?_
    refine r_callV (k := 0) (idx := 42) (y := 135) (as := [.ref 1, .int (6 : Int32), .int ((r3.1 1 2) - (1 : Int32)), .int a3]) (rest := []) (L0 := [(0, .ref 1), (1, .int (6 : Int32)), (2, .int ((r3.1 1 2) - (1 : Int32))), (3, .int a3)]) dX10_addTicket_56 rfl rfl rfl rfl rfl (vok_v (ob_1 hE) rfl) rfl (r_dep (by decide) (e_X10_set hE r3 (6 : Int32) ((r3.1 1 2) - (1 : Int32)) a3)) (fun r4 => ?_)
    refine r_aload_n (x := 1) dX10_addTicket_59 rfl ?_
    refine r_getI dX10_addTicket_60 (ff_10_20_1 hE) (by decide) ?_
    refine r_iconst (v := (1 : Int32)) dX10_addTicket_63 rfl ?_
    refine r_isub dX10_addTicket_64 ?_
    exact r_ireturn dX10_addTicket_65 rfl rfl
  · refine r_bipush (v := (-3 : Int32)) dX10_addTicket_9 rfl ?_
    exact r_ireturn dX10_addTicket_11 rfl rfl
def f_X11_addFromRow (q : SS) (a1 : Int32) (a2 : Int32) (a3 : Int32) : Option (Int32 × SS) :=
  nm ((a2.toInt64) + ((3 : Int64) * (a3.toInt64))) fun v1 =>
  (f_X7_sizeOf q a1).bind fun r2 =>
  if (lg_cmp (v1 + (3 : Int64)) (r2.toInt64)) ≤ 0 then
  ((f_X7_get q a1 (v1.toInt32)).bind fun r3 =>
  nm (r3.toInt32) fun v4 =>
  (f_X7_get q a1 ((v1.toInt32) + (1 : Int32))).bind fun r5 =>
  nm (r5.toInt32) fun v6 =>
  (f_X7_get q a1 ((v1.toInt32) + (2 : Int32))).bind fun r7 =>
  nm (r7.toInt32) fun v8 =>
  (f_X10_mayBe q (4 : Int32) v4).bind fun r9 =>
  if r9 = 0 then
  (some ((0 : Int32), q))
  else
  ((f_X10_mayBe q (5 : Int32) v6).bind fun r10 =>
  if r10 = 0 then
  (some ((0 : Int32), q))
  else
  ((f_X10_mayBe q (6 : Int32) v8).bind fun r11 =>
  if r11 = 0 then
  (some ((0 : Int32), q))
  else
  ((f_X10_addTicket q v4 v6 v8).bind fun r12 =>
  if r12.1 = (-3 : Int32) then
  (some ((0 : Int32), r12.2))
  else
  (some ((1 : Int32), r12.2))))))
  else
  (some ((0 : Int32), q))
theorem e_X11_addFromRow {E : EE} (hE : GE E) (q : SS) (a1 : Int32) (a2 : Int32) (a3 : Int32) : R E (κI E) 5 142 0 [(0, .ref 0), (1, .int a1), (2, .int a2), (3, .int a3)] [] q (f_X11_addFromRow q a1 a2 a3) := by
  unfold f_X11_addFromRow
  refine r_iload_n (x := a2) dX11_addFromRow_0 rfl ?_
  refine r_i2l dX11_addFromRow_1 ?_
  refine r_ldc2 (v := (3 : Int64)) dX11_addFromRow_2 rfl ?_
  refine r_iload_n (x := a3) dX11_addFromRow_5 rfl ?_
  refine r_i2l dX11_addFromRow_6 ?_
  refine r_lmul dX11_addFromRow_7 ?_
  refine r_ladd dX11_addFromRow_8 ?_
  refine r_nmL fun v1 _ => ?_
  refine r_lstore (L2 := [(0, .ref 0), (1, .int a1), (2, .int a2), (3, .int a3), (4, .long v1)]) dX11_addFromRow_9 rfl rfl ?_
  refine r_lload (x := v1) dX11_addFromRow_11 rfl ?_
  refine r_ldc2 (v := (3 : Int64)) dX11_addFromRow_13 rfl ?_
  refine r_ladd dX11_addFromRow_16 ?_
  refine r_aload_n (x := 0) dX11_addFromRow_17 rfl ?_
  refine r_getA dX11_addFromRow_18 (fa_11_42_0 hE) ?_
  refine r_iload_n (x := a1) dX11_addFromRow_21 rfl ?_
  refine r_calli (k := 0) (idx := 119) (y := 82) (as := [.ref 26, .int a1]) (rest := [.long (v1 + (3 : Int64))]) (L0 := [(0, .ref 26), (1, .int a1)]) dX11_addFromRow_22 rfl rfl rfl rfl rfl (vok_v (ob_26 hE) rfl) rfl (r_dep (by decide) (e_X7_sizeOf hE q a1)) (fun r2 => ?_)
  refine r_i2l dX11_addFromRow_25 ?_
  refine r_lcmp dX11_addFromRow_26 ?_
  refine r_if_le (t := 32) dX11_addFromRow_27 rfl (fun h17 => ?_) (fun h17 => ?_)
  · refine r_aload_n (x := 0) dX11_addFromRow_32 rfl ?_
    refine r_getA dX11_addFromRow_33 (fa_11_42_0 hE) ?_
    refine r_iload_n (x := a1) dX11_addFromRow_36 rfl ?_
    refine r_lload (x := v1) dX11_addFromRow_37 rfl ?_
    refine r_l2i dX11_addFromRow_39 ?_
    refine r_calll (k := 0) (idx := 122) (y := 92) (as := [.ref 26, .int a1, .int (v1.toInt32)]) (rest := []) (L0 := [(0, .ref 26), (1, .int a1), (2, .int (v1.toInt32))]) dX11_addFromRow_40 rfl rfl rfl rfl rfl (vok_v (ob_26 hE) rfl) rfl (r_dep (by decide) (e_X7_get hE q a1 (v1.toInt32))) (fun r3 => ?_)
    refine r_l2i dX11_addFromRow_43 ?_
    refine r_nmI fun v4 _ => ?_
    refine r_istore (L2 := [(0, .ref 0), (1, .int a1), (2, .int a2), (3, .int a3), (4, .long v1), (6, .int v4)]) dX11_addFromRow_44 rfl rfl ?_
    refine r_aload_n (x := 0) dX11_addFromRow_46 rfl ?_
    refine r_getA dX11_addFromRow_47 (fa_11_42_0 hE) ?_
    refine r_iload_n (x := a1) dX11_addFromRow_50 rfl ?_
    refine r_lload (x := v1) dX11_addFromRow_51 rfl ?_
    refine r_l2i dX11_addFromRow_53 ?_
    refine r_iconst (v := (1 : Int32)) dX11_addFromRow_54 rfl ?_
    refine r_iadd dX11_addFromRow_55 ?_
    refine r_calll (k := 0) (idx := 122) (y := 92) (as := [.ref 26, .int a1, .int ((v1.toInt32) + (1 : Int32))]) (rest := []) (L0 := [(0, .ref 26), (1, .int a1), (2, .int ((v1.toInt32) + (1 : Int32)))]) dX11_addFromRow_56 rfl rfl rfl rfl rfl (vok_v (ob_26 hE) rfl) rfl (r_dep (by decide) (e_X7_get hE q a1 ((v1.toInt32) + (1 : Int32)))) (fun r5 => ?_)
    refine r_l2i dX11_addFromRow_59 ?_
    refine r_nmI fun v6 _ => ?_
    refine r_istore (L2 := [(0, .ref 0), (1, .int a1), (2, .int a2), (3, .int a3), (4, .long v1), (6, .int v4), (7, .int v6)]) dX11_addFromRow_60 rfl rfl ?_
    refine r_aload_n (x := 0) dX11_addFromRow_62 rfl ?_
    refine r_getA dX11_addFromRow_63 (fa_11_42_0 hE) ?_
    refine r_iload_n (x := a1) dX11_addFromRow_66 rfl ?_
    refine r_lload (x := v1) dX11_addFromRow_67 rfl ?_
    refine r_l2i dX11_addFromRow_69 ?_
    refine r_iconst (v := (2 : Int32)) dX11_addFromRow_70 rfl ?_
    refine r_iadd dX11_addFromRow_71 ?_
    refine r_calll (k := 0) (idx := 122) (y := 92) (as := [.ref 26, .int a1, .int ((v1.toInt32) + (2 : Int32))]) (rest := []) (L0 := [(0, .ref 26), (1, .int a1), (2, .int ((v1.toInt32) + (2 : Int32)))]) dX11_addFromRow_72 rfl rfl rfl rfl rfl (vok_v (ob_26 hE) rfl) rfl (r_dep (by decide) (e_X7_get hE q a1 ((v1.toInt32) + (2 : Int32)))) (fun r7 => ?_)
    refine r_l2i dX11_addFromRow_75 ?_
    refine r_nmI fun v8 _ => ?_
    refine r_istore (L2 := [(0, .ref 0), (1, .int a1), (2, .int a2), (3, .int a3), (4, .long v1), (6, .int v4), (7, .int v6), (8, .int v8)]) dX11_addFromRow_76 rfl rfl ?_
    refine r_aload_n (x := 0) dX11_addFromRow_78 rfl ?_
    refine r_getA dX11_addFromRow_79 (fa_11_10_0 hE) ?_
    refine r_iconst (v := (4 : Int32)) dX11_addFromRow_82 rfl ?_
    refine r_iload (x := v4) dX11_addFromRow_83 rfl ?_
    refine r_calli (k := 0) (idx := 94) (y := 133) (as := [.ref 1, .int (4 : Int32), .int v4]) (rest := []) (L0 := [(0, .ref 1), (1, .int (4 : Int32)), (2, .int v4)]) dX11_addFromRow_85 rfl rfl rfl rfl rfl (vok_v (ob_1 hE) rfl) rfl (r_dep (by decide) (e_X10_mayBe hE q (4 : Int32) v4)) (fun r9 => ?_)
    refine r_if_eq (t := 118) dX11_addFromRow_88 rfl (fun h16 => ?_) (fun h16 => ?_)
    · refine r_iconst (v := (0 : Int32)) dX11_addFromRow_118 rfl ?_
      exact r_ireturn dX11_addFromRow_119 rfl rfl
    · refine r_aload_n (x := 0) dX11_addFromRow_91 rfl ?_
      refine r_getA dX11_addFromRow_92 (fa_11_10_0 hE) ?_
      refine r_iconst (v := (5 : Int32)) dX11_addFromRow_95 rfl ?_
      refine r_iload (x := v6) dX11_addFromRow_96 rfl ?_
      refine r_calli (k := 0) (idx := 94) (y := 133) (as := [.ref 1, .int (5 : Int32), .int v6]) (rest := []) (L0 := [(0, .ref 1), (1, .int (5 : Int32)), (2, .int v6)]) dX11_addFromRow_98 rfl rfl rfl rfl rfl (vok_v (ob_1 hE) rfl) rfl (r_dep (by decide) (e_X10_mayBe hE q (5 : Int32) v6)) (fun r10 => ?_)
      refine r_if_eq (t := 118) dX11_addFromRow_101 rfl (fun h15 => ?_) (fun h15 => ?_)
      · refine r_iconst (v := (0 : Int32)) dX11_addFromRow_118 rfl ?_
        exact r_ireturn dX11_addFromRow_119 rfl rfl
      · refine r_aload_n (x := 0) dX11_addFromRow_104 rfl ?_
        refine r_getA dX11_addFromRow_105 (fa_11_10_0 hE) ?_
        refine r_bipush (v := (6 : Int32)) dX11_addFromRow_108 rfl ?_
        refine r_iload (x := v8) dX11_addFromRow_110 rfl ?_
        refine r_calli (k := 0) (idx := 94) (y := 133) (as := [.ref 1, .int (6 : Int32), .int v8]) (rest := []) (L0 := [(0, .ref 1), (1, .int (6 : Int32)), (2, .int v8)]) dX11_addFromRow_112 rfl rfl rfl rfl rfl (vok_v (ob_1 hE) rfl) rfl (r_dep (by decide) (e_X10_mayBe hE q (6 : Int32) v8)) (fun r11 => ?_)
        refine r_if_ne (t := 120) dX11_addFromRow_115 rfl (fun h14 => ?_) (fun h14 => ?_)
        · refine r_iconst (v := (0 : Int32)) dX11_addFromRow_118 rfl ?_
          exact r_ireturn dX11_addFromRow_119 rfl rfl
        · refine r_aload_n (x := 0) dX11_addFromRow_120 rfl ?_
          refine r_getA dX11_addFromRow_121 (fa_11_10_0 hE) ?_
          refine r_iload (x := v4) dX11_addFromRow_124 rfl ?_
          refine r_iload (x := v6) dX11_addFromRow_126 rfl ?_
          refine r_iload (x := v8) dX11_addFromRow_128 rfl ?_
          refine r_callI (k := 0) (idx := 102) (y := 137) (as := [.ref 1, .int v4, .int v6, .int v8]) (rest := []) (L0 := [(0, .ref 1), (1, .int v4), (2, .int v6), (3, .int v8)]) dX11_addFromRow_130 rfl rfl rfl rfl rfl (vok_v (ob_1 hE) rfl) rfl (r_dep (by decide) (e_X10_addTicket hE q v4 v6 v8)) (fun r12 => ?_)
          refine r_bipush (v := (-3 : Int32)) dX11_addFromRow_133 rfl ?_
          refine r_icmp_eq (t := 142) dX11_addFromRow_135 rfl (fun h13 => ?_) (fun h13 => ?_)
          · refine r_iconst (v := (0 : Int32)) dX11_addFromRow_142 rfl ?_
            exact r_ireturn dX11_addFromRow_143 rfl rfl
          · refine r_iconst (v := (1 : Int32)) dX11_addFromRow_138 rfl ?_
            refine r_goto (t := 143) dX11_addFromRow_139 rfl ?_
            exact r_ireturn dX11_addFromRow_143 rfl rfl
  · refine r_iconst (v := (0 : Int32)) dX11_addFromRow_30 rfl ?_
    exact r_ireturn dX11_addFromRow_31 rfl rfl
def b_X11_tickets_63 : SS → Int32 → Int32 → Int32 → Int32 → Int32 → Option (Int32 × SS) :=
  fx6 (fun (rec_63 : SS → Int32 → Int32 → Int32 → Int32 → Int32 → Option (Int32 × SS)) (q : SS) (l1 : Int32) (l2 : Int32) (l3 : Int32) (l5 : Int32) (l6 : Int32) =>
  if l3 ≤ l6 then
  (some (l5, q))
  else
  ((f_X11_addFromRow q l1 l2 l6).bind fun r3 =>
  if r3.1 = 0 then
  (some (l5, r3.2))
  else
  (rec_63 r3.2 l1 l2 l3 (l5 + (1 : Int32)) (l6 + (1 : Int32))))) FU
theorem rb_X11_tickets_63 {E : EE} (hE : GE E) (q : SS) (l1 : Int32) (l2 : Int32) (l3 : Int32) (l5 : Int32) (l6 : Int32) : R E (κI E) 6 141 63 [(0, .ref 0), (1, .int l1), (2, .int l2), (3, .int l3), (5, .int l5), (6, .int l6)] [] q (b_X11_tickets_63 q l1 l2 l3 l5 l6) := by
  unfold b_X11_tickets_63
  refine fx6_ok (P := fun q l1 l2 l3 l5 l6 o => R E (κI E) 6 141 63 [(0, .ref 0), (1, .int l1), (2, .int l2), (3, .int l3), (5, .int l5), (6, .int l6)] [] q o) (fun _ _ _ _ _ _ => r_no) (fun rec_63 hrec_63 q l1 l2 l3 l5 l6 => ?_) _ _ _ _ _ _ _
  refine r_iload (x := l6) dX11_tickets_63 rfl ?_
  refine r_iload_n (x := l3) dX11_tickets_65 rfl ?_
  refine r_icmp_ge (t := 89) dX11_tickets_66 rfl (fun h5 => ?_) (fun h5 => ?_)
  · refine r_iload (x := l5) dX11_tickets_89 rfl ?_
    exact r_ireturn dX11_tickets_91 rfl rfl
  · refine r_aload_n (x := 0) dX11_tickets_69 rfl ?_
    refine r_iload_n (x := l1) dX11_tickets_70 rfl ?_
    refine r_iload_n (x := l2) dX11_tickets_71 rfl ?_
    refine r_iload (x := l6) dX11_tickets_72 rfl ?_
    refine r_callI (k := 0) (idx := 113) (y := 142) (as := [.ref 0, .int l1, .int l2, .int l6]) (rest := []) (L0 := [(0, .ref 0), (1, .int l1), (2, .int l2), (3, .int l6)]) dX11_tickets_74 rfl rfl rfl rfl rfl (vok_v (ob_0 hE) rfl) rfl (r_dep (by decide) (e_X11_addFromRow hE q l1 l2 l6)) (fun r3 => ?_)
    refine r_if_eq (t := 89) dX11_tickets_77 rfl (fun h4 => ?_) (fun h4 => ?_)
    · refine r_iload (x := l5) dX11_tickets_89 rfl ?_
      exact r_ireturn dX11_tickets_91 rfl rfl
    · refine r_iinc (x := l5) (v := (l5 + (1 : Int32))) (L2 := [(0, .ref 0), (1, .int l1), (2, .int l2), (3, .int l3), (5, .int (l5 + (1 : Int32))), (6, .int l6)]) dX11_tickets_80 rfl rfl rfl rfl ?_
      refine r_iinc (x := l6) (v := (l6 + (1 : Int32))) (L2 := [(0, .ref 0), (1, .int l1), (2, .int l2), (3, .int l3), (5, .int (l5 + (1 : Int32))), (6, .int (l6 + (1 : Int32)))]) dX11_tickets_83 rfl rfl rfl rfl ?_
      refine r_goto (t := 63) dX11_tickets_86 rfl ?_
      exact r_sub (L' := [(0, .ref 0), (1, .int l1), (2, .int l2), (3, .int l3), (5, .int (l5 + (1 : Int32))), (6, .int (l6 + (1 : Int32)))]) (sub_c rfl (sub_c rfl (sub_c rfl (sub_c rfl (sub_c rfl (sub_c rfl sub_n)))))) (hrec_63 r3.2 l1 l2 l3 (l5 + (1 : Int32)) (l6 + (1 : Int32)))
def f_X11_tickets (q : SS) (a1 : Int32) (a2 : Int32) (a3 : Int32) : Option (Int32 × SS) :=
  (f_X7_isShelf q a1).bind fun r1 =>
  if r1 = 0 then
  (some ((-1 : Int32), q))
  else
  (if a3 < (1 : Int32) then
  (some ((-1 : Int32), q))
  else
  (if a3 ≤ (12 : Int32) then
  ((f_X7_refusalOfBytes q a1).bind fun r2 =>
  if r2 = (-12 : Int32) then
  (some ((-12 : Int32), q))
  else
  (if r2 = (-11 : Int32) then
  (some ((0 : Int32), q))
  else
  (if 0 ≤ a2 then
  (b_X11_tickets_63 q a1 a2 a3 (0 : Int32) (0 : Int32))
  else
  (some ((0 : Int32), q)))))
  else
  (some ((-1 : Int32), q))))
theorem e_X11_tickets {E : EE} (hE : GE E) (q : SS) (a1 : Int32) (a2 : Int32) (a3 : Int32) : R E (κI E) 6 141 0 [(0, .ref 0), (1, .int a1), (2, .int a2), (3, .int a3)] [] q (f_X11_tickets q a1 a2 a3) := by
  unfold f_X11_tickets
  refine r_aload_n (x := 0) dX11_tickets_0 rfl ?_
  refine r_getA dX11_tickets_1 (fa_11_42_0 hE) ?_
  refine r_iload_n (x := a1) dX11_tickets_4 rfl ?_
  refine r_calli (k := 0) (idx := 106) (y := 79) (as := [.ref 26, .int a1]) (rest := []) (L0 := [(0, .ref 26), (1, .int a1)]) dX11_tickets_5 rfl rfl rfl rfl rfl (vok_v (ob_26 hE) rfl) rfl (r_dep (by decide) (e_X7_isShelf hE q a1)) (fun r1 => ?_)
  refine r_if_eq (t := 22) dX11_tickets_8 rfl (fun h11 => ?_) (fun h11 => ?_)
  · refine r_iconst (v := (-1 : Int32)) dX11_tickets_22 rfl ?_
    exact r_ireturn dX11_tickets_23 rfl rfl
  · refine r_iload_n (x := a3) dX11_tickets_11 rfl ?_
    refine r_iconst (v := (1 : Int32)) dX11_tickets_12 rfl ?_
    refine r_icmp_lt (t := 22) dX11_tickets_13 rfl (fun h10 => ?_) (fun h10 => ?_)
    · refine r_iconst (v := (-1 : Int32)) dX11_tickets_22 rfl ?_
      exact r_ireturn dX11_tickets_23 rfl rfl
    · refine r_iload_n (x := a3) dX11_tickets_16 rfl ?_
      refine r_bipush (v := (12 : Int32)) dX11_tickets_17 rfl ?_
      refine r_icmp_le (t := 24) dX11_tickets_19 rfl (fun h9 => ?_) (fun h9 => ?_)
      · refine r_aload_n (x := 0) dX11_tickets_24 rfl ?_
        refine r_getA dX11_tickets_25 (fa_11_42_0 hE) ?_
        refine r_iload_n (x := a1) dX11_tickets_28 rfl ?_
        refine r_calli (k := 0) (idx := 110) (y := 85) (as := [.ref 26, .int a1]) (rest := []) (L0 := [(0, .ref 26), (1, .int a1)]) dX11_tickets_29 rfl rfl rfl rfl rfl (vok_v (ob_26 hE) rfl) rfl (r_dep (by decide) (e_X7_refusalOfBytes hE q a1)) (fun r2 => ?_)
        refine r_istore (L2 := [(0, .ref 0), (1, .int a1), (2, .int a2), (3, .int a3), (4, .int r2)]) dX11_tickets_32 rfl rfl ?_
        refine r_iload (x := r2) dX11_tickets_34 rfl ?_
        refine r_bipush (v := (-12 : Int32)) dX11_tickets_36 rfl ?_
        refine r_icmp_ne (t := 44) dX11_tickets_38 rfl (fun h8 => ?_) (fun h8 => ?_)
        · refine r_bipush (v := (-12 : Int32)) dX11_tickets_41 rfl ?_
          exact r_ireturn dX11_tickets_43 rfl rfl
        · refine r_iload (x := r2) dX11_tickets_44 rfl ?_
          refine r_bipush (v := (-11 : Int32)) dX11_tickets_46 rfl ?_
          refine r_icmp_eq (t := 55) dX11_tickets_48 rfl (fun h7 => ?_) (fun h7 => ?_)
          · refine r_iconst (v := (0 : Int32)) dX11_tickets_55 rfl ?_
            exact r_ireturn dX11_tickets_56 rfl rfl
          · refine r_iload_n (x := a2) dX11_tickets_51 rfl ?_
            refine r_if_ge (t := 57) dX11_tickets_52 rfl (fun h6 => ?_) (fun h6 => ?_)
            · refine r_iconst (v := (0 : Int32)) dX11_tickets_57 rfl ?_
              refine r_istore (L2 := [(0, .ref 0), (1, .int a1), (2, .int a2), (3, .int a3), (4, .int r2), (5, .int (0 : Int32))]) dX11_tickets_58 rfl rfl ?_
              refine r_iconst (v := (0 : Int32)) dX11_tickets_60 rfl ?_
              refine r_istore (L2 := [(0, .ref 0), (1, .int a1), (2, .int a2), (3, .int a3), (4, .int r2), (5, .int (0 : Int32)), (6, .int (0 : Int32))]) dX11_tickets_61 rfl rfl ?_
              exact r_sub (L' := [(0, .ref 0), (1, .int a1), (2, .int a2), (3, .int a3), (5, .int (0 : Int32)), (6, .int (0 : Int32))]) (sub_c rfl (sub_c rfl (sub_c rfl (sub_c rfl (sub_c rfl (sub_c rfl sub_n)))))) (rb_X11_tickets_63 hE q a1 a2 a3 (0 : Int32) (0 : Int32))
            · refine r_iconst (v := (0 : Int32)) dX11_tickets_55 rfl ?_
              exact r_ireturn dX11_tickets_56 rfl rfl
      · refine r_iconst (v := (-1 : Int32)) dX11_tickets_22 rfl ?_
        exact r_ireturn dX11_tickets_23 rfl rfl
def f_X12_areTicket (q : SS) (a1 : Int32) (a2 : Int32) : Option Int32 :=
  (f_X12_isOne q a1).bind fun r1 =>
  if r1 = 0 then
  (some (0 : Int32))
  else
  ((f_X12_in q a2 (0 : Int32) (1 : Int32)).bind fun r2 =>
  if r2 = 0 then
  (some (0 : Int32))
  else
  (some (1 : Int32)))
theorem e_X12_areTicket {E : EE} (hE : GE E) (q : SS) (a1 : Int32) (a2 : Int32) : R E (κi E q) 2 194 0 [(0, .ref 60), (1, .int a1), (2, .int a2)] [] q (f_X12_areTicket q a1 a2) := by
  unfold f_X12_areTicket
  refine r_aload_n (x := 60) dX12_areTicket_0 rfl ?_
  refine r_iload_n (x := a1) dX12_areTicket_1 rfl ?_
  refine r_calli (k := 0) (idx := 125) (y := 191) (as := [.ref 60, .int a1]) (rest := []) (L0 := [(0, .ref 60), (1, .int a1)]) dX12_areTicket_2 rfl rfl rfl rfl rfl (vok_v (ob_60 hE) rfl) rfl (r_dep (by decide) (e_X12_isOne hE q a1)) (fun r1 => ?_)
  refine r_if_eq (t := 21) dX12_areTicket_5 rfl (fun h4 => ?_) (fun h4 => ?_)
  · refine r_iconst (v := (0 : Int32)) dX12_areTicket_21 rfl ?_
    exact r_ireturn dX12_areTicket_22 rfl rfl
  · refine r_iload_n (x := a2) dX12_areTicket_8 rfl ?_
    refine r_iconst (v := (0 : Int32)) dX12_areTicket_9 rfl ?_
    refine r_iconst (v := (1 : Int32)) dX12_areTicket_10 rfl ?_
    refine r_calli (k := 2) (idx := 118) (y := 189) (as := [.int a2, .int (0 : Int32), .int (1 : Int32)]) (rest := []) (L0 := [(0, .int a2), (1, .int (0 : Int32)), (2, .int (1 : Int32))]) dX12_areTicket_11 rfl rfl rfl rfl rfl vok_s rfl (r_dep (by decide) (e_X12_in hE q a2 (0 : Int32) (1 : Int32))) (fun r2 => ?_)
    refine r_if_eq (t := 21) dX12_areTicket_14 rfl (fun h3 => ?_) (fun h3 => ?_)
    · refine r_iconst (v := (0 : Int32)) dX12_areTicket_21 rfl ?_
      exact r_ireturn dX12_areTicket_22 rfl rfl
    · refine r_iconst (v := (1 : Int32)) dX12_areTicket_17 rfl ?_
      refine r_goto (t := 22) dX12_areTicket_18 rfl ?_
      exact r_ireturn dX12_areTicket_22 rfl rfl
def f_X12_addTicket (q : SS) (a1 : Int32) (a2 : Int32) (a3 : Int32) : Option (Int32 × SS) :=
  if vin (q.1 60 6) 12 then
  nm (sI q 65 (q.1 60 6).toNatClampNeg a1) fun q1 =>
  if vin (q1.1 60 6) 12 then
  nm (sI q1 66 (q1.1 60 6).toNatClampNeg a2) fun q2 =>
  if vin (q2.1 60 6) 12 then
  nm (sI q2 67 (q2.1 60 6).toNatClampNeg a3) fun q3 =>
  nm (sI q3 60 6 ((q3.1 60 6) + (1 : Int32))) fun q4 =>
  some (((q4.1 60 6) - (1 : Int32)), q4)
  else none
  else none
  else none
theorem e_X12_addTicket {E : EE} (hE : GE E) (q : SS) (a1 : Int32) (a2 : Int32) (a3 : Int32) : R E (κI E) 0 195 0 [(0, .ref 60), (1, .int a1), (2, .int a2), (3, .int a3)] [] q (f_X12_addTicket q a1 a2 a3) := by
  unfold f_X12_addTicket
  refine r_aload_n (x := 60) dX12_addTicket_0 rfl ?_
  refine r_getA dX12_addTicket_1 (fa_12_24_60 hE) ?_
  refine r_aload_n (x := 60) dX12_addTicket_4 rfl ?_
  refine r_getI dX12_addTicket_5 (ff_12_122_60 hE) (by decide) ?_
  refine r_iload_n (x := a1) dX12_addTicket_8 rfl ?_
  refine r_iastore dX12_addTicket_9 (ar_65 hE) ?_
  refine r_nmS fun q1 _ => ?_
  refine r_aload_n (x := 60) dX12_addTicket_10 rfl ?_
  refine r_getA dX12_addTicket_11 (fa_12_27_60 hE) ?_
  refine r_aload_n (x := 60) dX12_addTicket_14 rfl ?_
  refine r_getI dX12_addTicket_15 (ff_12_122_60 hE) (by decide) ?_
  refine r_iload_n (x := a2) dX12_addTicket_18 rfl ?_
  refine r_iastore dX12_addTicket_19 (ar_66 hE) ?_
  refine r_nmS fun q2 _ => ?_
  refine r_aload_n (x := 60) dX12_addTicket_20 rfl ?_
  refine r_getA dX12_addTicket_21 (fa_12_30_60 hE) ?_
  refine r_aload_n (x := 60) dX12_addTicket_24 rfl ?_
  refine r_getI dX12_addTicket_25 (ff_12_122_60 hE) (by decide) ?_
  refine r_iload_n (x := a3) dX12_addTicket_28 rfl ?_
  refine r_iastore dX12_addTicket_29 (ar_67 hE) ?_
  refine r_nmS fun q3 _ => ?_
  refine r_aload_n (x := 60) dX12_addTicket_30 rfl ?_
  refine r_dup dX12_addTicket_31 rfl ?_
  refine r_getI dX12_addTicket_32 (ff_12_122_60 hE) (by decide) ?_
  refine r_iconst (v := (1 : Int32)) dX12_addTicket_35 rfl ?_
  refine r_iadd dX12_addTicket_36 ?_
  refine r_putI dX12_addTicket_37 (ff_12_122_60 hE) ?_
  refine r_nmS fun q4 _ => ?_
  refine r_aload_n (x := 60) dX12_addTicket_40 rfl ?_
  refine r_getI dX12_addTicket_41 (ff_12_122_60 hE) (by decide) ?_
  refine r_iconst (v := (1 : Int32)) dX12_addTicket_44 rfl ?_
  refine r_isub dX12_addTicket_45 ?_
  exact r_ireturn dX12_addTicket_46 rfl rfl
def b_X12_tickets_58 : SS → Int32 → Int32 → Int32 → Int32 → Option (Int32 × SS) :=
  fx5 (fun (rec_58 : SS → Int32 → Int32 → Int32 → Int32 → Option (Int32 × SS)) (q : SS) (l1 : Int32) (l2 : Int32) (l3 : Int32) (l4 : Int32) =>
  if l3 ≤ l4 then
  (some (l3, q))
  else
  (nm ((l2.toInt64) + (((3 : Int32) * l4).toInt64)) fun v3 =>
  if (lg_cmp v3 (0 : Int64)) < 0 then
  (some (l4, q))
  else
  (if vin l1 6 then
  if 0 ≤ (lg_cmp (v3 + (2 : Int64)) ((q.1 90 l1.toNatClampNeg).toInt64)) then
  (some (l4, q))
  else
  (if (q.1 60 6) = (12 : Int32) then
  (some (l4, q))
  else
  (nm (((60 : Int32) * l1) + (v3.toInt32)) fun v4 =>
  if vin v4 360 then
  if vin (v4 + (1 : Int32)) 360 then
  (f_X12_areTicket q ((q.2 91 v4.toNatClampNeg).toInt32) ((q.2 91 (v4 + (1 : Int32)).toNatClampNeg).toInt32)).bind fun r5 =>
  if r5 = 0 then
  (some (l4, q))
  else
  (if vin (v4 + (2 : Int32)) 360 then
  (f_X12_in q ((q.2 91 (v4 + (2 : Int32)).toNatClampNeg).toInt32) (0 : Int32) (4 : Int32)).bind fun r6 =>
  if r6 = 0 then
  (some (l4, q))
  else
  (if vin v4 360 then
  if vin (v4 + (1 : Int32)) 360 then
  if vin (v4 + (2 : Int32)) 360 then
  (f_X12_addTicket q ((q.2 91 v4.toNatClampNeg).toInt32) ((q.2 91 (v4 + (1 : Int32)).toNatClampNeg).toInt32) ((q.2 91 (v4 + (2 : Int32)).toNatClampNeg).toInt32)).bind fun r7 =>
  rec_58 r7.2 l1 l2 l3 (l4 + (1 : Int32))
  else none
  else none
  else none)
  else none)
  else none
  else none))
  else none))) FU
theorem rb_X12_tickets_58 {E : EE} (hE : GE E) (q : SS) (l1 : Int32) (l2 : Int32) (l3 : Int32) (l4 : Int32) : R E (κI E) 3 197 58 [(0, .ref 60), (1, .int l1), (2, .int l2), (3, .int l3), (4, .int l4)] [] q (b_X12_tickets_58 q l1 l2 l3 l4) := by
  unfold b_X12_tickets_58
  refine fx5_ok (P := fun q l1 l2 l3 l4 o => R E (κI E) 3 197 58 [(0, .ref 60), (1, .int l1), (2, .int l2), (3, .int l3), (4, .int l4)] [] q o) (fun _ _ _ _ _ => r_no) (fun rec_58 hrec_58 q l1 l2 l3 l4 => ?_) _ _ _ _ _ _
  refine r_iload (x := l4) dX12_tickets_58 rfl ?_
  refine r_iload_n (x := l3) dX12_tickets_60 rfl ?_
  refine r_icmp_ge (t := 205) dX12_tickets_61 rfl (fun h13 => ?_) (fun h13 => ?_)
  · refine r_iload_n (x := l3) dX12_tickets_205 rfl ?_
    exact r_ireturn dX12_tickets_206 rfl rfl
  · refine r_iload_n (x := l2) dX12_tickets_64 rfl ?_
    refine r_i2l dX12_tickets_65 ?_
    refine r_iconst (v := (3 : Int32)) dX12_tickets_66 rfl ?_
    refine r_iload (x := l4) dX12_tickets_67 rfl ?_
    refine r_imul dX12_tickets_69 ?_
    refine r_i2l dX12_tickets_70 ?_
    refine r_ladd dX12_tickets_71 ?_
    refine r_nmL fun v3 _ => ?_
    refine r_lstore (L2 := [(0, .ref 60), (1, .int l1), (2, .int l2), (3, .int l3), (4, .int l4), (5, .long v3)]) dX12_tickets_72 rfl rfl ?_
    refine r_lload (x := v3) dX12_tickets_74 rfl ?_
    refine r_lconst (v := (0 : Int64)) dX12_tickets_76 rfl ?_
    refine r_lcmp dX12_tickets_77 ?_
    refine r_if_lt (t := 107) dX12_tickets_78 rfl (fun h12 => ?_) (fun h12 => ?_)
    · refine r_iload (x := l4) dX12_tickets_107 rfl ?_
      exact r_ireturn dX12_tickets_109 rfl rfl
    · refine r_lload (x := v3) dX12_tickets_81 rfl ?_
      refine r_ldc2 (v := (2 : Int64)) dX12_tickets_83 rfl ?_
      refine r_ladd dX12_tickets_86 ?_
      refine r_aload_n (x := 60) dX12_tickets_87 rfl ?_
      refine r_getA dX12_tickets_88 (fa_12_101_60 hE) ?_
      refine r_iload_n (x := l1) dX12_tickets_91 rfl ?_
      refine r_iaload dX12_tickets_92 (ar_90 hE) ?_
      refine r_i2l dX12_tickets_93 ?_
      refine r_lcmp dX12_tickets_94 ?_
      refine r_if_ge (t := 107) dX12_tickets_95 rfl (fun h11 => ?_) (fun h11 => ?_)
      · refine r_iload (x := l4) dX12_tickets_107 rfl ?_
        exact r_ireturn dX12_tickets_109 rfl rfl
      · refine r_aload_n (x := 60) dX12_tickets_98 rfl ?_
        refine r_getI dX12_tickets_99 (ff_12_122_60 hE) (by decide) ?_
        refine r_bipush (v := (12 : Int32)) dX12_tickets_102 rfl ?_
        refine r_icmp_ne (t := 110) dX12_tickets_104 rfl (fun h10 => ?_) (fun h10 => ?_)
        · refine r_iload (x := l4) dX12_tickets_107 rfl ?_
          exact r_ireturn dX12_tickets_109 rfl rfl
        · refine r_bipush (v := (60 : Int32)) dX12_tickets_110 rfl ?_
          refine r_iload_n (x := l1) dX12_tickets_112 rfl ?_
          refine r_imul dX12_tickets_113 ?_
          refine r_lload (x := v3) dX12_tickets_114 rfl ?_
          refine r_l2i dX12_tickets_116 ?_
          refine r_iadd dX12_tickets_117 ?_
          refine r_nmI fun v4 _ => ?_
          refine r_istore (L2 := [(0, .ref 60), (1, .int l1), (2, .int l2), (3, .int l3), (4, .int l4), (5, .long v3), (7, .int v4)]) dX12_tickets_118 rfl rfl ?_
          refine r_aload_n (x := 60) dX12_tickets_120 rfl ?_
          refine r_aload_n (x := 60) dX12_tickets_121 rfl ?_
          refine r_getA dX12_tickets_122 (fa_12_104_60 hE) ?_
          refine r_iload (x := v4) dX12_tickets_125 rfl ?_
          refine r_laload dX12_tickets_127 (ar_91 hE) ?_
          refine r_l2i dX12_tickets_128 ?_
          refine r_aload_n (x := 60) dX12_tickets_129 rfl ?_
          refine r_getA dX12_tickets_130 (fa_12_104_60 hE) ?_
          refine r_iload (x := v4) dX12_tickets_133 rfl ?_
          refine r_iconst (v := (1 : Int32)) dX12_tickets_135 rfl ?_
          refine r_iadd dX12_tickets_136 ?_
          refine r_laload dX12_tickets_137 (ar_91 hE) ?_
          refine r_l2i dX12_tickets_138 ?_
          refine r_calli (k := 0) (idx := 129) (y := 194) (as := [.ref 60, .int ((q.2 91 v4.toNatClampNeg).toInt32), .int ((q.2 91 (v4 + (1 : Int32)).toNatClampNeg).toInt32)]) (rest := []) (L0 := [(0, .ref 60), (1, .int ((q.2 91 v4.toNatClampNeg).toInt32)), (2, .int ((q.2 91 (v4 + (1 : Int32)).toNatClampNeg).toInt32))]) dX12_tickets_139 rfl rfl rfl rfl rfl (vok_v (ob_60 hE) rfl) rfl (r_dep (by decide) (e_X12_areTicket hE q ((q.2 91 v4.toNatClampNeg).toInt32) ((q.2 91 (v4 + (1 : Int32)).toNatClampNeg).toInt32))) (fun r5 => ?_)
          refine r_if_eq (t := 163) dX12_tickets_142 rfl (fun h9 => ?_) (fun h9 => ?_)
          · refine r_iload (x := l4) dX12_tickets_163 rfl ?_
            exact r_ireturn dX12_tickets_165 rfl rfl
          · refine r_aload_n (x := 60) dX12_tickets_145 rfl ?_
            refine r_getA dX12_tickets_146 (fa_12_104_60 hE) ?_
            refine r_iload (x := v4) dX12_tickets_149 rfl ?_
            refine r_iconst (v := (2 : Int32)) dX12_tickets_151 rfl ?_
            refine r_iadd dX12_tickets_152 ?_
            refine r_laload dX12_tickets_153 (ar_91 hE) ?_
            refine r_l2i dX12_tickets_154 ?_
            refine r_iconst (v := (0 : Int32)) dX12_tickets_155 rfl ?_
            refine r_iconst (v := (4 : Int32)) dX12_tickets_156 rfl ?_
            refine r_calli (k := 2) (idx := 118) (y := 189) (as := [.int ((q.2 91 (v4 + (2 : Int32)).toNatClampNeg).toInt32), .int (0 : Int32), .int (4 : Int32)]) (rest := []) (L0 := [(0, .int ((q.2 91 (v4 + (2 : Int32)).toNatClampNeg).toInt32)), (1, .int (0 : Int32)), (2, .int (4 : Int32))]) dX12_tickets_157 rfl rfl rfl rfl rfl vok_s rfl (r_dep (by decide) (e_X12_in hE q ((q.2 91 (v4 + (2 : Int32)).toNatClampNeg).toInt32) (0 : Int32) (4 : Int32))) (fun r6 => ?_)
            refine r_if_ne (t := 166) dX12_tickets_160 rfl (fun h8 => ?_) (fun h8 => ?_)
            · refine r_iload (x := l4) dX12_tickets_163 rfl ?_
              exact r_ireturn dX12_tickets_165 rfl rfl
            · refine r_aload_n (x := 60) dX12_tickets_166 rfl ?_
              refine r_aload_n (x := 60) dX12_tickets_167 rfl ?_
              refine r_getA dX12_tickets_168 (fa_12_104_60 hE) ?_
              refine r_iload (x := v4) dX12_tickets_171 rfl ?_
              refine r_laload dX12_tickets_173 (ar_91 hE) ?_
              refine r_l2i dX12_tickets_174 ?_
              refine r_aload_n (x := 60) dX12_tickets_175 rfl ?_
              refine r_getA dX12_tickets_176 (fa_12_104_60 hE) ?_
              refine r_iload (x := v4) dX12_tickets_179 rfl ?_
              refine r_iconst (v := (1 : Int32)) dX12_tickets_181 rfl ?_
              refine r_iadd dX12_tickets_182 ?_
              refine r_laload dX12_tickets_183 (ar_91 hE) ?_
              refine r_l2i dX12_tickets_184 ?_
              refine r_aload_n (x := 60) dX12_tickets_185 rfl ?_
              refine r_getA dX12_tickets_186 (fa_12_104_60 hE) ?_
              refine r_iload (x := v4) dX12_tickets_189 rfl ?_
              refine r_iconst (v := (2 : Int32)) dX12_tickets_191 rfl ?_
              refine r_iadd dX12_tickets_192 ?_
              refine r_laload dX12_tickets_193 (ar_91 hE) ?_
              refine r_l2i dX12_tickets_194 ?_
              refine r_callI (k := 0) (idx := 133) (y := 195) (as := [.ref 60, .int ((q.2 91 v4.toNatClampNeg).toInt32), .int ((q.2 91 (v4 + (1 : Int32)).toNatClampNeg).toInt32), .int ((q.2 91 (v4 + (2 : Int32)).toNatClampNeg).toInt32)]) (rest := []) (L0 := [(0, .ref 60), (1, .int ((q.2 91 v4.toNatClampNeg).toInt32)), (2, .int ((q.2 91 (v4 + (1 : Int32)).toNatClampNeg).toInt32)), (3, .int ((q.2 91 (v4 + (2 : Int32)).toNatClampNeg).toInt32))]) dX12_tickets_195 rfl rfl rfl rfl rfl (vok_v (ob_60 hE) rfl) rfl (r_dep (by decide) (e_X12_addTicket hE q ((q.2 91 v4.toNatClampNeg).toInt32) ((q.2 91 (v4 + (1 : Int32)).toNatClampNeg).toInt32) ((q.2 91 (v4 + (2 : Int32)).toNatClampNeg).toInt32))) (fun r7 => ?_)
              refine r_pop dX12_tickets_198 rfl ?_
              refine r_iinc (x := l4) (v := (l4 + (1 : Int32))) (L2 := [(0, .ref 60), (1, .int l1), (2, .int l2), (3, .int l3), (4, .int (l4 + (1 : Int32))), (5, .long v3), (7, .int v4)]) dX12_tickets_199 rfl rfl rfl rfl ?_
              refine r_goto (t := 58) dX12_tickets_202 rfl ?_
              exact r_sub (L' := [(0, .ref 60), (1, .int l1), (2, .int l2), (3, .int l3), (4, .int (l4 + (1 : Int32)))]) (sub_c rfl (sub_c rfl (sub_c rfl (sub_c rfl (sub_c rfl sub_n))))) (hrec_58 r7.2 l1 l2 l3 (l4 + (1 : Int32)))
def b_X12_tickets_43 (q : SS) (l1 : Int32) (l2 : Int32) (l3 : Int32) : Option (Int32 × SS) :=
  if vin l1 6 then
  if (q.1 89 l1.toNatClampNeg) = (-1 : Int32) then
  (some ((0 : Int32), q))
  else
  (b_X12_tickets_58 q l1 l2 l3 (0 : Int32))
  else none
theorem rb_X12_tickets_43 {E : EE} (hE : GE E) (q : SS) (l1 : Int32) (l2 : Int32) (l3 : Int32) : R E (κI E) 3 197 43 [(0, .ref 60), (1, .int l1), (2, .int l2), (3, .int l3)] [] q (b_X12_tickets_43 q l1 l2 l3) := by
  unfold b_X12_tickets_43
  refine r_aload_n (x := 60) dX12_tickets_43 rfl ?_
  refine r_getA dX12_tickets_44 (fa_12_98_60 hE) ?_
  refine r_iload_n (x := l1) dX12_tickets_47 rfl ?_
  refine r_iaload dX12_tickets_48 (ar_89 hE) ?_
  refine r_iconst (v := (-1 : Int32)) dX12_tickets_49 rfl ?_
  refine r_icmp_ne (t := 55) dX12_tickets_50 rfl (fun h14 => ?_) (fun h14 => ?_)
  · refine r_iconst (v := (0 : Int32)) dX12_tickets_53 rfl ?_
    exact r_ireturn dX12_tickets_54 rfl rfl
  · refine r_iconst (v := (0 : Int32)) dX12_tickets_55 rfl ?_
    refine r_istore (L2 := [(0, .ref 60), (1, .int l1), (2, .int l2), (3, .int l3), (4, .int (0 : Int32))]) dX12_tickets_56 rfl rfl ?_
    exact r_sub (L' := [(0, .ref 60), (1, .int l1), (2, .int l2), (3, .int l3), (4, .int (0 : Int32))]) (sub_c rfl (sub_c rfl (sub_c rfl (sub_c rfl (sub_c rfl sub_n))))) (rb_X12_tickets_58 hE q l1 l2 l3 (0 : Int32))
def f_X12_tickets (q : SS) (a1 : Int32) (a2 : Int32) (a3 : Int32) : Option (Int32 × SS) :=
  (f_X12_isShelf q a1).bind fun r1 =>
  if r1 = 0 then
  (some ((-1 : Int32), q))
  else
  ((f_X12_in q a3 (1 : Int32) (12 : Int32)).bind fun r2 =>
  if r2 = 0 then
  (some ((-1 : Int32), q))
  else
  (if vin a1 6 then
  if (q.1 89 a1.toNatClampNeg) = (-1 : Int32) then
  (b_X12_tickets_43 q a1 a2 a3)
  else
  (if vin a1 6 then
  if (q.1 89 a1.toNatClampNeg) = (-2 : Int32) then
  (b_X12_tickets_43 q a1 a2 a3)
  else
  (some ((-12 : Int32), q))
  else none)
  else none))
theorem e_X12_tickets {E : EE} (hE : GE E) (q : SS) (a1 : Int32) (a2 : Int32) (a3 : Int32) : R E (κI E) 3 197 0 [(0, .ref 60), (1, .int a1), (2, .int a2), (3, .int a3)] [] q (f_X12_tickets q a1 a2 a3) := by
  unfold f_X12_tickets
  refine r_iload_n (x := a1) dX12_tickets_0 rfl ?_
  refine r_calli (k := 2) (idx := 137) (y := 288) (as := [.int a1]) (rest := []) (L0 := [(0, .int a1)]) dX12_tickets_1 rfl rfl rfl rfl rfl vok_s rfl (r_dep (by decide) (e_X12_isShelf hE q a1)) (fun r1 => ?_)
  refine r_if_eq (t := 17) dX12_tickets_4 rfl (fun h18 => ?_) (fun h18 => ?_)
  · refine r_iconst (v := (-1 : Int32)) dX12_tickets_17 rfl ?_
    exact r_ireturn dX12_tickets_18 rfl rfl
  · refine r_iload_n (x := a3) dX12_tickets_7 rfl ?_
    refine r_iconst (v := (1 : Int32)) dX12_tickets_8 rfl ?_
    refine r_bipush (v := (12 : Int32)) dX12_tickets_9 rfl ?_
    refine r_calli (k := 2) (idx := 118) (y := 189) (as := [.int a3, .int (1 : Int32), .int (12 : Int32)]) (rest := []) (L0 := [(0, .int a3), (1, .int (1 : Int32)), (2, .int (12 : Int32))]) dX12_tickets_11 rfl rfl rfl rfl rfl vok_s rfl (r_dep (by decide) (e_X12_in hE q a3 (1 : Int32) (12 : Int32))) (fun r2 => ?_)
    refine r_if_ne (t := 19) dX12_tickets_14 rfl (fun h17 => ?_) (fun h17 => ?_)
    · refine r_iconst (v := (-1 : Int32)) dX12_tickets_17 rfl ?_
      exact r_ireturn dX12_tickets_18 rfl rfl
    · refine r_aload_n (x := 60) dX12_tickets_19 rfl ?_
      refine r_getA dX12_tickets_20 (fa_12_98_60 hE) ?_
      refine r_iload_n (x := a1) dX12_tickets_23 rfl ?_
      refine r_iaload dX12_tickets_24 (ar_89 hE) ?_
      refine r_iconst (v := (-1 : Int32)) dX12_tickets_25 rfl ?_
      refine r_icmp_eq (t := 43) dX12_tickets_26 rfl (fun h16 => ?_) (fun h16 => ?_)
      · exact r_sub (L' := [(0, .ref 60), (1, .int a1), (2, .int a2), (3, .int a3)]) (sub_c rfl (sub_c rfl (sub_c rfl (sub_c rfl sub_n)))) (rb_X12_tickets_43 hE q a1 a2 a3)
      · refine r_aload_n (x := 60) dX12_tickets_29 rfl ?_
        refine r_getA dX12_tickets_30 (fa_12_98_60 hE) ?_
        refine r_iload_n (x := a1) dX12_tickets_33 rfl ?_
        refine r_iaload dX12_tickets_34 (ar_89 hE) ?_
        refine r_bipush (v := (-2 : Int32)) dX12_tickets_35 rfl ?_
        refine r_icmp_eq (t := 43) dX12_tickets_37 rfl (fun h15 => ?_) (fun h15 => ?_)
        · exact r_sub (L' := [(0, .ref 60), (1, .int a1), (2, .int a2), (3, .int a3)]) (sub_c rfl (sub_c rfl (sub_c rfl (sub_c rfl sub_n)))) (rb_X12_tickets_43 hE q a1 a2 a3)
        · refine r_bipush (v := (-12 : Int32)) dX12_tickets_40 rfl ?_
          exact r_ireturn dX12_tickets_42 rfl rfl
def f_X11_ticket (q : SS) (a1 : Int32) (a2 : Int32) : Option (Int32 × SS) :=
  (f_X10_mayBe q (4 : Int32) a1).bind fun r1 =>
  if r1 = 0 then
  (some ((-1 : Int32), q))
  else
  ((f_X10_mayBe q (5 : Int32) a2).bind fun r2 =>
  if r2 = 0 then
  (some ((-1 : Int32), q))
  else
  ((f_X10_addTicket q a1 a2 (0 : Int32)).bind fun r3 =>
  some (r3.1, r3.2)))
theorem e_X11_ticket {E : EE} (hE : GE E) (q : SS) (a1 : Int32) (a2 : Int32) : R E (κI E) 3 140 0 [(0, .ref 0), (1, .int a1), (2, .int a2)] [] q (f_X11_ticket q a1 a2) := by
  unfold f_X11_ticket
  refine r_aload_n (x := 0) dX11_ticket_0 rfl ?_
  refine r_getA dX11_ticket_1 (fa_11_10_0 hE) ?_
  refine r_iconst (v := (4 : Int32)) dX11_ticket_4 rfl ?_
  refine r_iload_n (x := a1) dX11_ticket_5 rfl ?_
  refine r_calli (k := 0) (idx := 94) (y := 133) (as := [.ref 1, .int (4 : Int32), .int a1]) (rest := []) (L0 := [(0, .ref 1), (1, .int (4 : Int32)), (2, .int a1)]) dX11_ticket_6 rfl rfl rfl rfl rfl (vok_v (ob_1 hE) rfl) rfl (r_dep (by decide) (e_X10_mayBe hE q (4 : Int32) a1)) (fun r1 => ?_)
  refine r_if_eq (t := 24) dX11_ticket_9 rfl (fun h5 => ?_) (fun h5 => ?_)
  · refine r_iconst (v := (-1 : Int32)) dX11_ticket_24 rfl ?_
    exact r_ireturn dX11_ticket_25 rfl rfl
  · refine r_aload_n (x := 0) dX11_ticket_12 rfl ?_
    refine r_getA dX11_ticket_13 (fa_11_10_0 hE) ?_
    refine r_iconst (v := (5 : Int32)) dX11_ticket_16 rfl ?_
    refine r_iload_n (x := a2) dX11_ticket_17 rfl ?_
    refine r_calli (k := 0) (idx := 94) (y := 133) (as := [.ref 1, .int (5 : Int32), .int a2]) (rest := []) (L0 := [(0, .ref 1), (1, .int (5 : Int32)), (2, .int a2)]) dX11_ticket_18 rfl rfl rfl rfl rfl (vok_v (ob_1 hE) rfl) rfl (r_dep (by decide) (e_X10_mayBe hE q (5 : Int32) a2)) (fun r2 => ?_)
    refine r_if_ne (t := 26) dX11_ticket_21 rfl (fun h4 => ?_) (fun h4 => ?_)
    · refine r_iconst (v := (-1 : Int32)) dX11_ticket_24 rfl ?_
      exact r_ireturn dX11_ticket_25 rfl rfl
    · refine r_aload_n (x := 0) dX11_ticket_26 rfl ?_
      refine r_getA dX11_ticket_27 (fa_11_10_0 hE) ?_
      refine r_iload_n (x := a1) dX11_ticket_30 rfl ?_
      refine r_iload_n (x := a2) dX11_ticket_31 rfl ?_
      refine r_iconst (v := (0 : Int32)) dX11_ticket_32 rfl ?_
      refine r_callI (k := 0) (idx := 102) (y := 137) (as := [.ref 1, .int a1, .int a2, .int (0 : Int32)]) (rest := []) (L0 := [(0, .ref 1), (1, .int a1), (2, .int a2), (3, .int (0 : Int32))]) dX11_ticket_33 rfl rfl rfl rfl rfl (vok_v (ob_1 hE) rfl) rfl (r_dep (by decide) (e_X10_addTicket hE q a1 a2 (0 : Int32))) (fun r3 => ?_)
      exact r_ireturn dX11_ticket_36 rfl rfl
def f_X12_ticket (q : SS) (a1 : Int32) (a2 : Int32) : Option (Int32 × SS) :=
  (f_X12_areTicket q a1 a2).bind fun r1 =>
  if r1 = 0 then
  (some ((-1 : Int32), q))
  else
  (if (q.1 60 6) = (12 : Int32) then
  (some ((-3 : Int32), q))
  else
  ((f_X12_addTicket q a1 a2 (0 : Int32)).bind fun r2 =>
  some (r2.1, r2.2)))
theorem e_X12_ticket {E : EE} (hE : GE E) (q : SS) (a1 : Int32) (a2 : Int32) : R E (κI E) 3 196 0 [(0, .ref 60), (1, .int a1), (2, .int a2)] [] q (f_X12_ticket q a1 a2) := by
  unfold f_X12_ticket
  refine r_aload_n (x := 60) dX12_ticket_0 rfl ?_
  refine r_iload_n (x := a1) dX12_ticket_1 rfl ?_
  refine r_iload_n (x := a2) dX12_ticket_2 rfl ?_
  refine r_calli (k := 0) (idx := 129) (y := 194) (as := [.ref 60, .int a1, .int a2]) (rest := []) (L0 := [(0, .ref 60), (1, .int a1), (2, .int a2)]) dX12_ticket_3 rfl rfl rfl rfl rfl (vok_v (ob_60 hE) rfl) rfl (r_dep (by decide) (e_X12_areTicket hE q a1 a2)) (fun r1 => ?_)
  refine r_if_ne (t := 11) dX12_ticket_6 rfl (fun h4 => ?_) (fun h4 => ?_)
  · refine r_iconst (v := (-1 : Int32)) dX12_ticket_9 rfl ?_
    exact r_ireturn dX12_ticket_10 rfl rfl
  · refine r_aload_n (x := 60) dX12_ticket_11 rfl ?_
    refine r_getI dX12_ticket_12 (ff_12_122_60 hE) (by decide) ?_
    refine r_bipush (v := (12 : Int32)) dX12_ticket_15 rfl ?_
    refine r_icmp_ne (t := 25) dX12_ticket_17 rfl (fun h3 => ?_) (fun h3 => ?_)
    · refine r_bipush (v := (-3 : Int32)) dX12_ticket_20 rfl ?_
      refine r_goto (t := 32) dX12_ticket_22 rfl ?_
      exact r_ireturn dX12_ticket_32 rfl rfl
    · refine r_aload_n (x := 60) dX12_ticket_25 rfl ?_
      refine r_iload_n (x := a1) dX12_ticket_26 rfl ?_
      refine r_iload_n (x := a2) dX12_ticket_27 rfl ?_
      refine r_iconst (v := (0 : Int32)) dX12_ticket_28 rfl ?_
      refine r_callI (k := 0) (idx := 133) (y := 195) (as := [.ref 60, .int a1, .int a2, .int (0 : Int32)]) (rest := []) (L0 := [(0, .ref 60), (1, .int a1), (2, .int a2), (3, .int (0 : Int32))]) dX12_ticket_29 rfl rfl rfl rfl rfl (vok_v (ob_60 hE) rfl) rfl (r_dep (by decide) (e_X12_addTicket hE q a1 a2 (0 : Int32))) (fun r2 => ?_)
      exact r_ireturn dX12_ticket_32 rfl rfl
def f_X10_addPerson (q : SS) (a1 : Int32) : Option (Int32 × SS) :=
  if (q.1 1 1) < (6 : Int32) then
  (nm (sI q 1 1 ((q.1 1 1) + (1 : Int32))) fun q1 =>
  (f_X10_set q1 (0 : Int32) ((q1.1 1 1) - (1 : Int32)) a1).bind fun r2 =>
  some (((r2.1 1 1) - (1 : Int32)), r2))
  else
  (some ((-3 : Int32), q))
theorem e_X10_addPerson {E : EE} (hE : GE E) (q : SS) (a1 : Int32) : R E (κI E) 2 136 0 [(0, .ref 1), (1, .int a1)] [] q (f_X10_addPerson q a1) := by
  unfold f_X10_addPerson
  refine r_aload_n (x := 1) dX10_addPerson_0 rfl ?_
  refine r_getI dX10_addPerson_1 (ff_10_16_1 hE) (by decide) ?_
  refine r_bipush (v := (6 : Int32)) dX10_addPerson_4 rfl ?_
  refine r_icmp_lt (t := 12) dX10_addPerson_6 rfl (fun h3 => ?_) (fun h3 => ?_)
  · refine r_aload_n (x := 1) dX10_addPerson_12 rfl ?_
    refine r_dup dX10_addPerson_13 rfl ?_
    refine r_getI dX10_addPerson_14 (ff_10_16_1 hE) (by decide) ?_
    refine r_iconst (v := (1 : Int32)) dX10_addPerson_17 rfl ?_
    refine r_iadd dX10_addPerson_18 ?_
    refine r_putI dX10_addPerson_19 (ff_10_16_1 hE) ?_
    refine r_nmS fun q1 _ => ?_
    refine r_aload_n (x := 1) dX10_addPerson_22 rfl ?_
    refine r_iconst (v := (0 : Int32)) dX10_addPerson_23 rfl ?_
    refine r_aload_n (x := 1) dX10_addPerson_24 rfl ?_
    refine r_getI dX10_addPerson_25 (ff_10_16_1 hE) (by decide) ?_
    refine r_iconst (v := (1 : Int32)) dX10_addPerson_28 rfl ?_
    refine r_isub dX10_addPerson_29 ?_
    refine r_iload_n (x := a1) dX10_addPerson_30 rfl ?_
    refine r_callV (k := 0) (idx := 42) (y := 135) (as := [.ref 1, .int (0 : Int32), .int ((q1.1 1 1) - (1 : Int32)), .int a1]) (rest := []) (L0 := [(0, .ref 1), (1, .int (0 : Int32)), (2, .int ((q1.1 1 1) - (1 : Int32))), (3, .int a1)]) dX10_addPerson_31 rfl rfl rfl rfl rfl (vok_v (ob_1 hE) rfl) rfl (r_dep (by decide) (e_X10_set hE q1 (0 : Int32) ((q1.1 1 1) - (1 : Int32)) a1)) (fun r2 => ?_)
    refine r_aload_n (x := 1) dX10_addPerson_34 rfl ?_
    refine r_getI dX10_addPerson_35 (ff_10_16_1 hE) (by decide) ?_
    refine r_iconst (v := (1 : Int32)) dX10_addPerson_38 rfl ?_
    refine r_isub dX10_addPerson_39 ?_
    exact r_ireturn dX10_addPerson_40 rfl rfl
  · refine r_bipush (v := (-3 : Int32)) dX10_addPerson_9 rfl ?_
    exact r_ireturn dX10_addPerson_11 rfl rfl
def f_X11_person (q : SS) (a1 : Int32) : Option (Int32 × SS) :=
  (f_X10_mayBe q (0 : Int32) a1).bind fun r1 =>
  if r1 = 0 then
  (some ((-1 : Int32), q))
  else
  ((f_X10_addPerson q a1).bind fun r2 =>
  some (r2.1, r2.2))
theorem e_X11_person {E : EE} (hE : GE E) (q : SS) (a1 : Int32) : R E (κI E) 3 139 0 [(0, .ref 0), (1, .int a1)] [] q (f_X11_person q a1) := by
  unfold f_X11_person
  refine r_aload_n (x := 0) dX11_person_0 rfl ?_
  refine r_getA dX11_person_1 (fa_11_10_0 hE) ?_
  refine r_iconst (v := (0 : Int32)) dX11_person_4 rfl ?_
  refine r_iload_n (x := a1) dX11_person_5 rfl ?_
  refine r_calli (k := 0) (idx := 94) (y := 133) (as := [.ref 1, .int (0 : Int32), .int a1]) (rest := []) (L0 := [(0, .ref 1), (1, .int (0 : Int32)), (2, .int a1)]) dX11_person_6 rfl rfl rfl rfl rfl (vok_v (ob_1 hE) rfl) rfl (r_dep (by decide) (e_X10_mayBe hE q (0 : Int32) a1)) (fun r1 => ?_)
  refine r_if_ne (t := 14) dX11_person_9 rfl (fun h3 => ?_) (fun h3 => ?_)
  · refine r_iconst (v := (-1 : Int32)) dX11_person_12 rfl ?_
    exact r_ireturn dX11_person_13 rfl rfl
  · refine r_aload_n (x := 0) dX11_person_14 rfl ?_
    refine r_getA dX11_person_15 (fa_11_10_0 hE) ?_
    refine r_iload_n (x := a1) dX11_person_18 rfl ?_
    refine r_callI (k := 0) (idx := 98) (y := 136) (as := [.ref 1, .int a1]) (rest := []) (L0 := [(0, .ref 1), (1, .int a1)]) dX11_person_19 rfl rfl rfl rfl rfl (vok_v (ob_1 hE) rfl) rfl (r_dep (by decide) (e_X10_addPerson hE q a1)) (fun r2 => ?_)
    exact r_ireturn dX11_person_22 rfl rfl
def f_X12_person (q : SS) (a1 : Int32) : Option (Int32 × SS) :=
  (f_X12_in q a1 (0 : Int32) (12 : Int32)).bind fun r1 =>
  if r1 = 0 then
  (some ((-1 : Int32), q))
  else
  (if (q.1 60 1) = (6 : Int32) then
  (some ((-3 : Int32), q))
  else
  (if vin (q.1 60 1) 6 then
  nm (sI q 61 (q.1 60 1).toNatClampNeg a1) fun q2 =>
  if vin (q2.1 60 1) 6 then
  nm (sI q2 62 (q2.1 60 1).toNatClampNeg (0 : Int32)) fun q3 =>
  if vin (q3.1 60 1) 6 then
  nm (sI q3 63 (q3.1 60 1).toNatClampNeg (10 : Int32)) fun q4 =>
  if vin (q4.1 60 1) 6 then
  nm (sI q4 64 (q4.1 60 1).toNatClampNeg (0 : Int32)) fun q5 =>
  nm (sI q5 60 1 ((q5.1 60 1) + (1 : Int32))) fun q6 =>
  some (((q6.1 60 1) - (1 : Int32)), q6)
  else none
  else none
  else none
  else none))
theorem e_X12_person {E : EE} (hE : GE E) (q : SS) (a1 : Int32) : R E (κI E) 1 193 0 [(0, .ref 60), (1, .int a1)] [] q (f_X12_person q a1) := by
  unfold f_X12_person
  refine r_iload_n (x := a1) dX12_person_0 rfl ?_
  refine r_iconst (v := (0 : Int32)) dX12_person_1 rfl ?_
  refine r_bipush (v := (12 : Int32)) dX12_person_2 rfl ?_
  refine r_calli (k := 2) (idx := 118) (y := 189) (as := [.int a1, .int (0 : Int32), .int (12 : Int32)]) (rest := []) (L0 := [(0, .int a1), (1, .int (0 : Int32)), (2, .int (12 : Int32))]) dX12_person_4 rfl rfl rfl rfl rfl vok_s rfl (r_dep (by decide) (e_X12_in hE q a1 (0 : Int32) (12 : Int32))) (fun r1 => ?_)
  refine r_if_ne (t := 12) dX12_person_7 rfl (fun h8 => ?_) (fun h8 => ?_)
  · refine r_iconst (v := (-1 : Int32)) dX12_person_10 rfl ?_
    exact r_ireturn dX12_person_11 rfl rfl
  · refine r_aload_n (x := 60) dX12_person_12 rfl ?_
    refine r_getI dX12_person_13 (ff_12_115_60 hE) (by decide) ?_
    refine r_bipush (v := (6 : Int32)) dX12_person_16 rfl ?_
    refine r_icmp_ne (t := 24) dX12_person_18 rfl (fun h7 => ?_) (fun h7 => ?_)
    · refine r_bipush (v := (-3 : Int32)) dX12_person_21 rfl ?_
      exact r_ireturn dX12_person_23 rfl rfl
    · refine r_aload_n (x := 60) dX12_person_24 rfl ?_
      refine r_getA dX12_person_25 (fa_12_9_60 hE) ?_
      refine r_aload_n (x := 60) dX12_person_28 rfl ?_
      refine r_getI dX12_person_29 (ff_12_115_60 hE) (by decide) ?_
      refine r_iload_n (x := a1) dX12_person_32 rfl ?_
      refine r_iastore dX12_person_33 (ar_61 hE) ?_
      refine r_nmS fun q2 _ => ?_
      refine r_aload_n (x := 60) dX12_person_34 rfl ?_
      refine r_getA dX12_person_35 (fa_12_15_60 hE) ?_
      refine r_aload_n (x := 60) dX12_person_38 rfl ?_
      refine r_getI dX12_person_39 (ff_12_115_60 hE) (by decide) ?_
      refine r_iconst (v := (0 : Int32)) dX12_person_42 rfl ?_
      refine r_iastore dX12_person_43 (ar_62 hE) ?_
      refine r_nmS fun q3 _ => ?_
      refine r_aload_n (x := 60) dX12_person_44 rfl ?_
      refine r_getA dX12_person_45 (fa_12_18_60 hE) ?_
      refine r_aload_n (x := 60) dX12_person_48 rfl ?_
      refine r_getI dX12_person_49 (ff_12_115_60 hE) (by decide) ?_
      refine r_bipush (v := (10 : Int32)) dX12_person_52 rfl ?_
      refine r_iastore dX12_person_54 (ar_63 hE) ?_
      refine r_nmS fun q4 _ => ?_
      refine r_aload_n (x := 60) dX12_person_55 rfl ?_
      refine r_getA dX12_person_56 (fa_12_21_60 hE) ?_
      refine r_aload_n (x := 60) dX12_person_59 rfl ?_
      refine r_getI dX12_person_60 (ff_12_115_60 hE) (by decide) ?_
      refine r_iconst (v := (0 : Int32)) dX12_person_63 rfl ?_
      refine r_iastore dX12_person_64 (ar_64 hE) ?_
      refine r_nmS fun q5 _ => ?_
      refine r_aload_n (x := 60) dX12_person_65 rfl ?_
      refine r_dup dX12_person_66 rfl ?_
      refine r_getI dX12_person_67 (ff_12_115_60 hE) (by decide) ?_
      refine r_iconst (v := (1 : Int32)) dX12_person_70 rfl ?_
      refine r_iadd dX12_person_71 ?_
      refine r_putI dX12_person_72 (ff_12_115_60 hE) ?_
      refine r_nmS fun q6 _ => ?_
      refine r_aload_n (x := 60) dX12_person_75 rfl ?_
      refine r_getI dX12_person_76 (ff_12_115_60 hE) (by decide) ?_
      refine r_iconst (v := (1 : Int32)) dX12_person_79 rfl ?_
      refine r_isub dX12_person_80 ?_
      exact r_ireturn dX12_person_81 rfl rfl
def b_L_law_1512 (Ls : Nat) (xs : Nat → Int32) (rec_18 : SS → Int32 → Option (Int32 × SS)) (q : SS) (l3 : Int32) : Option (Int32 × SS) :=
  rec_18 q (l3 + (6 : Int32))
theorem rb_L_law_1512 {E : EE} (hE : GE E) {rec_18 : SS → Int32 → Option (Int32 × SS)} (hrec_18 : ∀ (yq : SS) (yl3 : Int32), R E (κI E) 906 NM 18 [(0, .retAddr 0), (1, .ref 0), (2, .ref 60), (3, .int yl3)] [] yq (rec_18 yq yl3)) (q : SS) (l3 : Int32) : R E (κI E) 906 NM 1512 [(0, .retAddr 0), (1, .ref 0), (2, .ref 60), (3, .int l3)] [] q (b_L_law_1512 E.1 E.2.1 rec_18 q l3) := by
  unfold b_L_law_1512
  refine r_iinc (x := l3) (v := (l3 + (6 : Int32))) (L2 := [(0, .retAddr 0), (1, .ref 0), (2, .ref 60), (3, .int (l3 + (6 : Int32)))]) dL_law_1512 rfl rfl rfl rfl ?_
  refine r_goto (t := 18) dL_law_1515 rfl ?_
  exact r_sub (L' := [(0, .retAddr 0), (1, .ref 0), (2, .ref 60), (3, .int (l3 + (6 : Int32)))]) (sub_c rfl (sub_c rfl (sub_c rfl (sub_c rfl sub_n)))) (hrec_18 q (l3 + (6 : Int32)))
def b_L_law_18 (Ls : Nat) (xs : Nat → Int32) : SS → Int32 → Option (Int32 × SS) :=
  fx2 (fun (rec_18 : SS → Int32 → Option (Int32 × SS)) (q : SS) (l3 : Int32) =>
  if ((Int32.ofNat Ls) - (6 : Int32)) < l3 then
  (some ((1 : Int32), q))
  else
  (if vin l3 Ls then
  nm ((xs l3.toNatClampNeg) &&& (63 : Int32)) fun v1 =>
  sw v1 [(0, (if vin (l3 + (1 : Int32)) Ls then
  (f_X11_person q (xs (l3 + (1 : Int32)).toNatClampNeg)).bind fun r3 =>
  if vin (l3 + (1 : Int32)) Ls then
  (f_X12_person r3.2 (xs (l3 + (1 : Int32)).toNatClampNeg)).bind fun r4 =>
  b_L_law_1512 Ls xs rec_18 r4.2 l3
  else none
  else none)), (1, (if vin (l3 + (1 : Int32)) Ls then
  if vin (l3 + (2 : Int32)) Ls then
  (f_X11_ticket q (xs (l3 + (1 : Int32)).toNatClampNeg) (xs (l3 + (2 : Int32)).toNatClampNeg)).bind fun r6 =>
  if vin (l3 + (1 : Int32)) Ls then
  if vin (l3 + (2 : Int32)) Ls then
  (f_X12_ticket r6.2 (xs (l3 + (1 : Int32)).toNatClampNeg) (xs (l3 + (2 : Int32)).toNatClampNeg)).bind fun r7 =>
  b_L_law_1512 Ls xs rec_18 r7.2 l3
  else none
  else none
  else none
  else none)), (2, (if vin (l3 + (1 : Int32)) Ls then
  if vin (l3 + (2 : Int32)) Ls then
  if vin (l3 + (3 : Int32)) Ls then
  (f_X11_tickets q (xs (l3 + (1 : Int32)).toNatClampNeg) (xs (l3 + (2 : Int32)).toNatClampNeg) (xs (l3 + (3 : Int32)).toNatClampNeg)).bind fun r9 =>
  if vin (l3 + (1 : Int32)) Ls then
  if vin (l3 + (2 : Int32)) Ls then
  if vin (l3 + (3 : Int32)) Ls then
  (f_X12_tickets r9.2 (xs (l3 + (1 : Int32)).toNatClampNeg) (xs (l3 + (2 : Int32)).toNatClampNeg) (xs (l3 + (3 : Int32)).toNatClampNeg)).bind fun r10 =>
  b_L_law_1512 Ls xs rec_18 r10.2 l3
  else none
  else none
  else none
  else none
  else none
  else none)), (3, (if vin (l3 + (1 : Int32)) Ls then
  if vin (l3 + (2 : Int32)) Ls then
  if vin (l3 + (3 : Int32)) Ls then
  (f_X11_mend q (xs (l3 + (1 : Int32)).toNatClampNeg) (xs (l3 + (2 : Int32)).toNatClampNeg) (xs (l3 + (3 : Int32)).toNatClampNeg)).bind fun r12 =>
  if vin (l3 + (1 : Int32)) Ls then
  if vin (l3 + (2 : Int32)) Ls then
  if vin (l3 + (3 : Int32)) Ls then
  (f_X12_mend r12.2 (xs (l3 + (1 : Int32)).toNatClampNeg) (xs (l3 + (2 : Int32)).toNatClampNeg) (xs (l3 + (3 : Int32)).toNatClampNeg)).bind fun r13 =>
  b_L_law_1512 Ls xs rec_18 r13.2 l3
  else none
  else none
  else none
  else none
  else none
  else none)), (4, (if vin (l3 + (1 : Int32)) Ls then
  if vin (l3 + (2 : Int32)) Ls then
  (f_X11_of q (xs (l3 + (1 : Int32)).toNatClampNeg) (xs (l3 + (2 : Int32)).toNatClampNeg)).bind fun r15 =>
  if vin (l3 + (1 : Int32)) Ls then
  if vin (l3 + (2 : Int32)) Ls then
  (f_X12_of r15.2 (xs (l3 + (1 : Int32)).toNatClampNeg) (xs (l3 + (2 : Int32)).toNatClampNeg)).bind fun r16 =>
  b_L_law_1512 Ls xs rec_18 r16.2 l3
  else none
  else none
  else none
  else none)), (5, (if vin (l3 + (1 : Int32)) Ls then
  (f_X11_feed q (xs (l3 + (1 : Int32)).toNatClampNeg)).bind fun r18 =>
  if vin (l3 + (1 : Int32)) Ls then
  (f_X12_feed r18.2 (xs (l3 + (1 : Int32)).toNatClampNeg)).bind fun r19 =>
  b_L_law_1512 Ls xs rec_18 r19.2 l3
  else none
  else none)), (6, ((f_X11_law q).bind fun r21 =>
  (f_X12_law r21.2).bind fun r22 =>
  b_L_law_1512 Ls xs rec_18 r22.2 l3)), (7, (if vin (l3 + (1 : Int32)) Ls then
  (f_X11_odds q (xs (l3 + (1 : Int32)).toNatClampNeg)).bind fun r24 =>
  if vin (l3 + (1 : Int32)) Ls then
  (f_X12_odds r24.2 (xs (l3 + (1 : Int32)).toNatClampNeg)).bind fun r25 =>
  b_L_law_1512 Ls xs rec_18 r25.2 l3
  else none
  else none)), (8, (if vin (l3 + (1 : Int32)) Ls then
  if vin (l3 + (2 : Int32)) Ls then
  if vin (l3 + (3 : Int32)) Ls then
  (f_X11_later q (xs (l3 + (1 : Int32)).toNatClampNeg) (xs (l3 + (2 : Int32)).toNatClampNeg) (xs (l3 + (3 : Int32)).toNatClampNeg)).bind fun r27 =>
  if vin (l3 + (1 : Int32)) Ls then
  if vin (l3 + (2 : Int32)) Ls then
  if vin (l3 + (3 : Int32)) Ls then
  (f_X12_later r27.2 (xs (l3 + (1 : Int32)).toNatClampNeg) (xs (l3 + (2 : Int32)).toNatClampNeg) (xs (l3 + (3 : Int32)).toNatClampNeg)).bind fun r28 =>
  b_L_law_1512 Ls xs rec_18 r28.2 l3
  else none
  else none
  else none
  else none
  else none
  else none)), (9, (if vin (l3 + (1 : Int32)) Ls then
  if vin (l3 + (2 : Int32)) Ls then
  if vin (l3 + (3 : Int32)) Ls then
  (f_X11_eve q (xs (l3 + (1 : Int32)).toNatClampNeg) (xs (l3 + (2 : Int32)).toNatClampNeg) (xs (l3 + (3 : Int32)).toNatClampNeg)).bind fun r30 =>
  if vin (l3 + (1 : Int32)) Ls then
  if vin (l3 + (2 : Int32)) Ls then
  if vin (l3 + (3 : Int32)) Ls then
  (f_X12_eve r30.2 (xs (l3 + (1 : Int32)).toNatClampNeg) (xs (l3 + (2 : Int32)).toNatClampNeg) (xs (l3 + (3 : Int32)).toNatClampNeg)).bind fun r31 =>
  b_L_law_1512 Ls xs rec_18 r31.2 l3
  else none
  else none
  else none
  else none
  else none
  else none)), (10, (if vin (l3 + (1 : Int32)) Ls then
  if vin (l3 + (2 : Int32)) Ls then
  if vin (l3 + (3 : Int32)) Ls then
  (f_X11_likely q (xs (l3 + (1 : Int32)).toNatClampNeg) (xs (l3 + (2 : Int32)).toNatClampNeg) (xs (l3 + (3 : Int32)).toNatClampNeg)).bind fun r33 =>
  if vin (l3 + (1 : Int32)) Ls then
  if vin (l3 + (2 : Int32)) Ls then
  if vin (l3 + (3 : Int32)) Ls then
  (f_X12_likely r33.2 (xs (l3 + (1 : Int32)).toNatClampNeg) (xs (l3 + (2 : Int32)).toNatClampNeg) (xs (l3 + (3 : Int32)).toNatClampNeg)).bind fun r34 =>
  b_L_law_1512 Ls xs rec_18 r34.2 l3
  else none
  else none
  else none
  else none
  else none
  else none)), (11, (if vin (l3 + (1 : Int32)) Ls then
  if vin (l3 + (2 : Int32)) Ls then
  (f_X11_all q (xs (l3 + (1 : Int32)).toNatClampNeg) (xs (l3 + (2 : Int32)).toNatClampNeg)).bind fun r36 =>
  if vin (l3 + (1 : Int32)) Ls then
  if vin (l3 + (2 : Int32)) Ls then
  (f_X12_all r36.2 (xs (l3 + (1 : Int32)).toNatClampNeg) (xs (l3 + (2 : Int32)).toNatClampNeg)).bind fun r37 =>
  b_L_law_1512 Ls xs rec_18 r37.2 l3
  else none
  else none
  else none
  else none)), (12, (if vin (l3 + (1 : Int32)) Ls then
  if vin (l3 + (2 : Int32)) Ls then
  (f_X11_king q (xs (l3 + (1 : Int32)).toNatClampNeg) (xs (l3 + (2 : Int32)).toNatClampNeg)).bind fun r39 =>
  if vin (l3 + (1 : Int32)) Ls then
  if vin (l3 + (2 : Int32)) Ls then
  (f_X12_king r39.2 (xs (l3 + (1 : Int32)).toNatClampNeg) (xs (l3 + (2 : Int32)).toNatClampNeg)).bind fun r40 =>
  b_L_law_1512 Ls xs rec_18 r40.2 l3
  else none
  else none
  else none
  else none)), (13, ((f_X11_safe q).bind fun r42 =>
  (f_X12_safe r42.2).bind fun r43 =>
  b_L_law_1512 Ls xs rec_18 r43.2 l3)), (14, ((f_X11_likeliest q).bind fun r45 =>
  (f_X12_likeliest r45.2).bind fun r46 =>
  b_L_law_1512 Ls xs rec_18 r46.2 l3)), (15, (if vin (l3 + (1 : Int32)) Ls then
  (f_X11_watch q (xs (l3 + (1 : Int32)).toNatClampNeg)).bind fun r48 =>
  if vin (l3 + (1 : Int32)) Ls then
  (f_X12_watch r48.2 (xs (l3 + (1 : Int32)).toNatClampNeg)).bind fun r49 =>
  b_L_law_1512 Ls xs rec_18 r49.2 l3
  else none
  else none)), (16, (if vin (l3 + (1 : Int32)) Ls then
  if vin (l3 + (2 : Int32)) Ls then
  if vin (l3 + (3 : Int32)) Ls then
  (f_X11_rid q (xs (l3 + (1 : Int32)).toNatClampNeg) (xs (l3 + (2 : Int32)).toNatClampNeg) (xs (l3 + (3 : Int32)).toNatClampNeg)).bind fun r51 =>
  if vin (l3 + (1 : Int32)) Ls then
  if vin (l3 + (2 : Int32)) Ls then
  if vin (l3 + (3 : Int32)) Ls then
  (f_X12_rid r51.2 (xs (l3 + (1 : Int32)).toNatClampNeg) (xs (l3 + (2 : Int32)).toNatClampNeg) (xs (l3 + (3 : Int32)).toNatClampNeg)).bind fun r52 =>
  b_L_law_1512 Ls xs rec_18 r52.2 l3
  else none
  else none
  else none
  else none
  else none
  else none)), (17, (if vin (l3 + (1 : Int32)) Ls then
  if vin (l3 + (2 : Int32)) Ls then
  (f_X11_first q (xs (l3 + (1 : Int32)).toNatClampNeg) (xs (l3 + (2 : Int32)).toNatClampNeg)).bind fun r54 =>
  if vin (l3 + (1 : Int32)) Ls then
  if vin (l3 + (2 : Int32)) Ls then
  (f_X12_first r54.2 (xs (l3 + (1 : Int32)).toNatClampNeg) (xs (l3 + (2 : Int32)).toNatClampNeg)).bind fun r55 =>
  b_L_law_1512 Ls xs rec_18 r55.2 l3
  else none
  else none
  else none
  else none)), (18, (if vin (l3 + (1 : Int32)) Ls then
  if vin (l3 + (2 : Int32)) Ls then
  if vin (l3 + (3 : Int32)) Ls then
  (f_X11_hire q (xs (l3 + (1 : Int32)).toNatClampNeg) (xs (l3 + (2 : Int32)).toNatClampNeg) (xs (l3 + (3 : Int32)).toNatClampNeg)).bind fun r57 =>
  if vin (l3 + (1 : Int32)) Ls then
  if vin (l3 + (2 : Int32)) Ls then
  if vin (l3 + (3 : Int32)) Ls then
  (f_X12_hire r57.2 (xs (l3 + (1 : Int32)).toNatClampNeg) (xs (l3 + (2 : Int32)).toNatClampNeg) (xs (l3 + (3 : Int32)).toNatClampNeg)).bind fun r58 =>
  b_L_law_1512 Ls xs rec_18 r58.2 l3
  else none
  else none
  else none
  else none
  else none
  else none)), (19, (if vin (l3 + (1 : Int32)) Ls then
  if vin (l3 + (2 : Int32)) Ls then
  (f_X11_friend q (xs (l3 + (1 : Int32)).toNatClampNeg) (xs (l3 + (2 : Int32)).toNatClampNeg)).bind fun r60 =>
  if vin (l3 + (1 : Int32)) Ls then
  if vin (l3 + (2 : Int32)) Ls then
  (f_X12_friend r60.2 (xs (l3 + (1 : Int32)).toNatClampNeg) (xs (l3 + (2 : Int32)).toNatClampNeg)).bind fun r61 =>
  b_L_law_1512 Ls xs rec_18 r61.2 l3
  else none
  else none
  else none
  else none)), (20, (if vin (l3 + (1 : Int32)) Ls then
  if vin (l3 + (2 : Int32)) Ls then
  (f_X11_share q (xs (l3 + (1 : Int32)).toNatClampNeg) (xs (l3 + (2 : Int32)).toNatClampNeg)).bind fun r63 =>
  if vin (l3 + (1 : Int32)) Ls then
  if vin (l3 + (2 : Int32)) Ls then
  (f_X12_share r63.2 (xs (l3 + (1 : Int32)).toNatClampNeg) (xs (l3 + (2 : Int32)).toNatClampNeg)).bind fun r64 =>
  b_L_law_1512 Ls xs rec_18 r64.2 l3
  else none
  else none
  else none
  else none)), (21, ((f_X11_half q).bind fun r66 =>
  (f_X12_half r66.2).bind fun r67 =>
  b_L_law_1512 Ls xs rec_18 r67.2 l3)), (22, (if vin (l3 + (1 : Int32)) Ls then
  if vin (l3 + (2 : Int32)) Ls then
  if vin (l3 + (3 : Int32)) Ls then
  (f_X11_behind q (xs (l3 + (1 : Int32)).toNatClampNeg) (xs (l3 + (2 : Int32)).toNatClampNeg) (xs (l3 + (3 : Int32)).toNatClampNeg)).bind fun r69 =>
  if vin (l3 + (1 : Int32)) Ls then
  if vin (l3 + (2 : Int32)) Ls then
  if vin (l3 + (3 : Int32)) Ls then
  (f_X12_behind r69.2 (xs (l3 + (1 : Int32)).toNatClampNeg) (xs (l3 + (2 : Int32)).toNatClampNeg) (xs (l3 + (3 : Int32)).toNatClampNeg)).bind fun r70 =>
  b_L_law_1512 Ls xs rec_18 r70.2 l3
  else none
  else none
  else none
  else none
  else none
  else none)), (23, (if vin (l3 + (1 : Int32)) Ls then
  if vin (l3 + (2 : Int32)) Ls then
  if vin (l3 + (3 : Int32)) Ls then
  (f_X11_drawn q (xs (l3 + (1 : Int32)).toNatClampNeg) (xs (l3 + (2 : Int32)).toNatClampNeg) (xs (l3 + (3 : Int32)).toNatClampNeg)).bind fun r72 =>
  if vin (l3 + (1 : Int32)) Ls then
  if vin (l3 + (2 : Int32)) Ls then
  if vin (l3 + (3 : Int32)) Ls then
  (f_X12_drawn r72.2 (xs (l3 + (1 : Int32)).toNatClampNeg) (xs (l3 + (2 : Int32)).toNatClampNeg) (xs (l3 + (3 : Int32)).toNatClampNeg)).bind fun r73 =>
  b_L_law_1512 Ls xs rec_18 r73.2 l3
  else none
  else none
  else none
  else none
  else none
  else none)), (24, (if vin (l3 + (1 : Int32)) Ls then
  if vin (l3 + (2 : Int32)) Ls then
  (f_X11_slip q (xs (l3 + (1 : Int32)).toNatClampNeg) (xs (l3 + (2 : Int32)).toNatClampNeg)).bind fun r75 =>
  if vin (l3 + (1 : Int32)) Ls then
  if vin (l3 + (2 : Int32)) Ls then
  (f_X12_slip r75.2 (xs (l3 + (1 : Int32)).toNatClampNeg) (xs (l3 + (2 : Int32)).toNatClampNeg)).bind fun r76 =>
  b_L_law_1512 Ls xs rec_18 r76.2 l3
  else none
  else none
  else none
  else none)), (25, (if vin (l3 + (1 : Int32)) Ls then
  (f_X11_fold q (xs (l3 + (1 : Int32)).toNatClampNeg)).bind fun r78 =>
  if vin (l3 + (1 : Int32)) Ls then
  (f_X12_fold r78.2 (xs (l3 + (1 : Int32)).toNatClampNeg)).bind fun r79 =>
  b_L_law_1512 Ls xs rec_18 r79.2 l3
  else none
  else none)), (26, ((f_X11_hour q).bind fun r81 =>
  (f_X12_hour r81.2).bind fun r82 =>
  b_L_law_1512 Ls xs rec_18 r82.2 l3)), (27, (if vin (l3 + (1 : Int32)) Ls then
  (f_X11_led q (xs (l3 + (1 : Int32)).toNatClampNeg)).bind fun r84 =>
  if vin (l3 + (1 : Int32)) Ls then
  (f_X12_led q (xs (l3 + (1 : Int32)).toNatClampNeg)).bind fun r85 =>
  b_L_law_1512 Ls xs rec_18 q l3
  else none
  else none)), (28, ((f_X11_image q).bind fun r87 =>
  (f_X12_image r87.2).bind fun r88 =>
  b_L_law_1512 Ls xs rec_18 r88.2 l3)), (29, ((f_X11_back q).bind fun r90 =>
  (f_X12_back r90.2).bind fun r91 =>
  b_L_law_1512 Ls xs rec_18 r91.2 l3)), (30, ((f_X11_undo q).bind fun r93 =>
  (f_X12_undo r93.2).bind fun r94 =>
  b_L_law_1512 Ls xs rec_18 r94.2 l3)), (31, ((f_X11_redo q).bind fun r96 =>
  (f_X12_redo r96.2).bind fun r97 =>
  b_L_law_1512 Ls xs rec_18 r97.2 l3)), (32, (if vin (l3 + (1 : Int32)) Ls then
  (f_X11_body q (xs (l3 + (1 : Int32)).toNatClampNeg)).bind fun r99 =>
  if vin (l3 + (1 : Int32)) Ls then
  (f_X12_body r99.2 (xs (l3 + (1 : Int32)).toNatClampNeg)).bind fun r100 =>
  b_L_law_1512 Ls xs rec_18 r100.2 l3
  else none
  else none)), (33, (if vin (l3 + (1 : Int32)) Ls then
  if vin (l3 + (2 : Int32)) Ls then
  if vin (l3 + (3 : Int32)) Ls then
  (f_X11_act q (xs (l3 + (1 : Int32)).toNatClampNeg) (xs (l3 + (2 : Int32)).toNatClampNeg) (xs (l3 + (3 : Int32)).toNatClampNeg)).bind fun r102 =>
  if vin (l3 + (1 : Int32)) Ls then
  if vin (l3 + (2 : Int32)) Ls then
  if vin (l3 + (3 : Int32)) Ls then
  (f_X12_act r102.2 (xs (l3 + (1 : Int32)).toNatClampNeg) (xs (l3 + (2 : Int32)).toNatClampNeg) (xs (l3 + (3 : Int32)).toNatClampNeg)).bind fun r103 =>
  b_L_law_1512 Ls xs rec_18 r103.2 l3
  else none
  else none
  else none
  else none
  else none
  else none)), (34, (if vin (l3 + (1 : Int32)) Ls then
  (f_X11_trace q (xs (l3 + (1 : Int32)).toNatClampNeg)).bind fun r105 =>
  if vin (l3 + (1 : Int32)) Ls then
  (f_X12_trace q (xs (l3 + (1 : Int32)).toNatClampNeg)).bind fun r106 =>
  b_L_law_1512 Ls xs rec_18 q l3
  else none
  else none)), (35, (if vin (l3 + (1 : Int32)) Ls then
  if vin (l3 + (2 : Int32)) Ls then
  (f_X11_keep q (xs (l3 + (1 : Int32)).toNatClampNeg) (xs (l3 + (2 : Int32)).toNatClampNeg)).bind fun r108 =>
  if vin (l3 + (1 : Int32)) Ls then
  if vin (l3 + (2 : Int32)) Ls then
  (f_X12_keep r108.2 (xs (l3 + (1 : Int32)).toNatClampNeg) (xs (l3 + (2 : Int32)).toNatClampNeg)).bind fun r109 =>
  b_L_law_1512 Ls xs rec_18 r109.2 l3
  else none
  else none
  else none
  else none)), (36, (if vin (l3 + (1 : Int32)) Ls then
  if vin (l3 + (2 : Int32)) Ls then
  if vin (l3 + (3 : Int32)) Ls then
  (f_X11_row q (xs (l3 + (1 : Int32)).toNatClampNeg) (xs (l3 + (2 : Int32)).toNatClampNeg) (xs (l3 + (3 : Int32)).toNatClampNeg)).bind fun r111 =>
  if vin (l3 + (1 : Int32)) Ls then
  if vin (l3 + (2 : Int32)) Ls then
  if vin (l3 + (3 : Int32)) Ls then
  (f_X12_row r111.2 (xs (l3 + (1 : Int32)).toNatClampNeg) (xs (l3 + (2 : Int32)).toNatClampNeg) (xs (l3 + (3 : Int32)).toNatClampNeg)).bind fun r112 =>
  b_L_law_1512 Ls xs rec_18 r112.2 l3
  else none
  else none
  else none
  else none
  else none
  else none)), (37, (if vin (l3 + (1 : Int32)) Ls then
  if vin (l3 + (2 : Int32)) Ls then
  if vin (l3 + (3 : Int32)) Ls then
  if vin (l3 + (4 : Int32)) Ls then
  (f_X11_put q (xs (l3 + (1 : Int32)).toNatClampNeg) (xs (l3 + (2 : Int32)).toNatClampNeg) ((jlshl ((xs (l3 + (3 : Int32)).toNatClampNeg).toInt64) (32 : Int32)) ||| (((xs (l3 + (4 : Int32)).toNatClampNeg).toInt64) &&& (4294967295 : Int64)))).bind fun r114 =>
  if vin (l3 + (1 : Int32)) Ls then
  if vin (l3 + (2 : Int32)) Ls then
  if vin (l3 + (3 : Int32)) Ls then
  if vin (l3 + (4 : Int32)) Ls then
  (f_X12_put r114.2 (xs (l3 + (1 : Int32)).toNatClampNeg) (xs (l3 + (2 : Int32)).toNatClampNeg) ((jlshl ((xs (l3 + (3 : Int32)).toNatClampNeg).toInt64) (32 : Int32)) ||| (((xs (l3 + (4 : Int32)).toNatClampNeg).toInt64) &&& (4294967295 : Int64)))).bind fun r115 =>
  b_L_law_1512 Ls xs rec_18 r115.2 l3
  else none
  else none
  else none
  else none
  else none
  else none
  else none
  else none)), (38, (if vin (l3 + (1 : Int32)) Ls then
  if vin (l3 + (2 : Int32)) Ls then
  (f_X11_element q (xs (l3 + (1 : Int32)).toNatClampNeg) (xs (l3 + (2 : Int32)).toNatClampNeg)).bind fun r117 =>
  if vin (l3 + (1 : Int32)) Ls then
  if vin (l3 + (2 : Int32)) Ls then
  (f_X12_element q (xs (l3 + (1 : Int32)).toNatClampNeg) (xs (l3 + (2 : Int32)).toNatClampNeg)).bind fun r118 =>
  b_L_law_1512 Ls xs rec_18 q l3
  else none
  else none
  else none
  else none)), (39, (if vin (l3 + (1 : Int32)) Ls then
  if vin (l3 + (2 : Int32)) Ls then
  if vin (l3 + (3 : Int32)) Ls then
  if vin (l3 + (4 : Int32)) Ls then
  if vin (l3 + (5 : Int32)) Ls then
  (f_X11_shift q (xs (l3 + (1 : Int32)).toNatClampNeg) (xs (l3 + (2 : Int32)).toNatClampNeg) (xs (l3 + (3 : Int32)).toNatClampNeg) (xs (l3 + (4 : Int32)).toNatClampNeg) (xs (l3 + (5 : Int32)).toNatClampNeg)).bind fun r120 =>
  if vin (l3 + (1 : Int32)) Ls then
  if vin (l3 + (2 : Int32)) Ls then
  if vin (l3 + (3 : Int32)) Ls then
  if vin (l3 + (4 : Int32)) Ls then
  if vin (l3 + (5 : Int32)) Ls then
  (f_X12_shift r120.2 (xs (l3 + (1 : Int32)).toNatClampNeg) (xs (l3 + (2 : Int32)).toNatClampNeg) (xs (l3 + (3 : Int32)).toNatClampNeg) (xs (l3 + (4 : Int32)).toNatClampNeg) (xs (l3 + (5 : Int32)).toNatClampNeg)).bind fun r121 =>
  b_L_law_1512 Ls xs rec_18 r121.2 l3
  else none
  else none
  else none
  else none
  else none
  else none
  else none
  else none
  else none
  else none)), (40, (if vin (l3 + (1 : Int32)) Ls then
  if vin (l3 + (2 : Int32)) Ls then
  (f_X11_taken q (xs (l3 + (1 : Int32)).toNatClampNeg) (xs (l3 + (2 : Int32)).toNatClampNeg)).bind fun r123 =>
  if vin (l3 + (1 : Int32)) Ls then
  if vin (l3 + (2 : Int32)) Ls then
  (f_X12_taken q (xs (l3 + (1 : Int32)).toNatClampNeg) (xs (l3 + (2 : Int32)).toNatClampNeg)).bind fun r124 =>
  if r123 = r124 then
  (b_L_law_1512 Ls xs rec_18 q l3)
  else
  (some ((0 : Int32), q))
  else none
  else none
  else none
  else none)), (41, (if vin (l3 + (1 : Int32)) Ls then
  (f_X11_count q (xs (l3 + (1 : Int32)).toNatClampNeg)).bind fun r127 =>
  if vin (l3 + (1 : Int32)) Ls then
  (f_X12_count q (xs (l3 + (1 : Int32)).toNatClampNeg)).bind fun r128 =>
  b_L_law_1512 Ls xs rec_18 q l3
  else none
  else none))]
  (b_L_law_1512 Ls xs rec_18 q l3)
  else none)) FU
theorem rb_L_law_18 {E : EE} (hE : GE E) (q : SS) (l3 : Int32) : R E (κI E) 906 NM 18 [(0, .retAddr 0), (1, .ref 0), (2, .ref 60), (3, .int l3)] [] q (b_L_law_18 E.1 E.2.1 q l3) := by
  unfold b_L_law_18
  refine fx2_ok (P := fun q l3 o => R E (κI E) 906 NM 18 [(0, .retAddr 0), (1, .ref 0), (2, .ref 60), (3, .int l3)] [] q o) (fun _ _ => r_no) (fun rec_18 hrec_18 q l3 => ?_) _ _ _
  refine r_iload_n (x := l3) dL_law_18 rfl ?_
  refine r_roload_n (x := 0) dL_law_19 rfl ?_
  refine r_sclen dL_law_20 ?_
  refine r_bipush (v := (6 : Int32)) dL_law_21 rfl ?_
  refine r_isub dL_law_23 ?_
  refine r_icmp_gt (t := 1518) dL_law_24 rfl (fun h130 => ?_) (fun h130 => ?_)
  · refine r_iconst (v := (1 : Int32)) dL_law_1518 rfl ?_
    exact r_ireturn dL_law_1519 rfl rfl
  · refine r_roload_n (x := 0) dL_law_27 rfl ?_
    refine r_iload_n (x := l3) dL_law_28 rfl ?_
    refine r_scload dL_law_29 ?_
    refine r_bipush (v := (63 : Int32)) dL_law_30 rfl ?_
    refine r_iand dL_law_32 ?_
    refine r_nmI fun v1 _ => ?_
    refine r_sw1 (fun h2 => ?_) (fun h2 => ?_)
    · refine r_jmp (t := 216) dL_law_33 rfl (by rw [h2]; rfl) ?_
      refine r_aload_n (x := 0) dL_law_216 rfl ?_
      refine r_roload_n (x := 0) dL_law_217 rfl ?_
      refine r_iload_n (x := l3) dL_law_218 rfl ?_
      refine r_iconst (v := (1 : Int32)) dL_law_219 rfl ?_
      refine r_iadd dL_law_220 ?_
      refine r_scload dL_law_221 ?_
      refine r_callI (k := 0) (idx := 13) (y := 139) (as := [.ref 0, .int (E.2.1 (l3 + (1 : Int32)).toNatClampNeg)]) (rest := []) (L0 := [(0, .ref 0), (1, .int (E.2.1 (l3 + (1 : Int32)).toNatClampNeg))]) dL_law_222 rfl rfl rfl rfl rfl (vok_v (ob_0 hE) rfl) rfl (r_dep (by decide) (e_X11_person hE q (E.2.1 (l3 + (1 : Int32)).toNatClampNeg))) (fun r3 => ?_)
      refine r_pop dL_law_225 rfl ?_
      refine r_aload_n (x := 60) dL_law_226 rfl ?_
      refine r_roload_n (x := 0) dL_law_227 rfl ?_
      refine r_iload_n (x := l3) dL_law_228 rfl ?_
      refine r_iconst (v := (1 : Int32)) dL_law_229 rfl ?_
      refine r_iadd dL_law_230 ?_
      refine r_scload dL_law_231 ?_
      refine r_callI (k := 0) (idx := 17) (y := 193) (as := [.ref 60, .int (E.2.1 (l3 + (1 : Int32)).toNatClampNeg)]) (rest := []) (L0 := [(0, .ref 60), (1, .int (E.2.1 (l3 + (1 : Int32)).toNatClampNeg))]) dL_law_232 rfl rfl rfl rfl rfl (vok_v (ob_60 hE) rfl) rfl (r_dep (by decide) (e_X12_person hE r3.2 (E.2.1 (l3 + (1 : Int32)).toNatClampNeg))) (fun r4 => ?_)
      refine r_pop dL_law_235 rfl ?_
      refine r_goto (t := 1512) dL_law_236 rfl ?_
      exact r_sub (L' := [(0, .retAddr 0), (1, .ref 0), (2, .ref 60), (3, .int l3)]) (sub_c rfl (sub_c rfl (sub_c rfl (sub_c rfl sub_n)))) (rb_L_law_1512 hE hrec_18 r4.2 l3)
    refine r_sw1 (fun h5 => ?_) (fun h5 => ?_)
    · refine r_jmp (t := 239) dL_law_33 rfl (by rw [h5]; rfl) ?_
      refine r_aload_n (x := 0) dL_law_239 rfl ?_
      refine r_roload_n (x := 0) dL_law_240 rfl ?_
      refine r_iload_n (x := l3) dL_law_241 rfl ?_
      refine r_iconst (v := (1 : Int32)) dL_law_242 rfl ?_
      refine r_iadd dL_law_243 ?_
      refine r_scload dL_law_244 ?_
      refine r_roload_n (x := 0) dL_law_245 rfl ?_
      refine r_iload_n (x := l3) dL_law_246 rfl ?_
      refine r_iconst (v := (2 : Int32)) dL_law_247 rfl ?_
      refine r_iadd dL_law_248 ?_
      refine r_scload dL_law_249 ?_
      refine r_callI (k := 0) (idx := 18) (y := 140) (as := [.ref 0, .int (E.2.1 (l3 + (1 : Int32)).toNatClampNeg), .int (E.2.1 (l3 + (2 : Int32)).toNatClampNeg)]) (rest := []) (L0 := [(0, .ref 0), (1, .int (E.2.1 (l3 + (1 : Int32)).toNatClampNeg)), (2, .int (E.2.1 (l3 + (2 : Int32)).toNatClampNeg))]) dL_law_250 rfl rfl rfl rfl rfl (vok_v (ob_0 hE) rfl) rfl (r_dep (by decide) (e_X11_ticket hE q (E.2.1 (l3 + (1 : Int32)).toNatClampNeg) (E.2.1 (l3 + (2 : Int32)).toNatClampNeg))) (fun r6 => ?_)
      refine r_pop dL_law_253 rfl ?_
      refine r_aload_n (x := 60) dL_law_254 rfl ?_
      refine r_roload_n (x := 0) dL_law_255 rfl ?_
      refine r_iload_n (x := l3) dL_law_256 rfl ?_
      refine r_iconst (v := (1 : Int32)) dL_law_257 rfl ?_
      refine r_iadd dL_law_258 ?_
      refine r_scload dL_law_259 ?_
      refine r_roload_n (x := 0) dL_law_260 rfl ?_
      refine r_iload_n (x := l3) dL_law_261 rfl ?_
      refine r_iconst (v := (2 : Int32)) dL_law_262 rfl ?_
      refine r_iadd dL_law_263 ?_
      refine r_scload dL_law_264 ?_
      refine r_callI (k := 0) (idx := 22) (y := 196) (as := [.ref 60, .int (E.2.1 (l3 + (1 : Int32)).toNatClampNeg), .int (E.2.1 (l3 + (2 : Int32)).toNatClampNeg)]) (rest := []) (L0 := [(0, .ref 60), (1, .int (E.2.1 (l3 + (1 : Int32)).toNatClampNeg)), (2, .int (E.2.1 (l3 + (2 : Int32)).toNatClampNeg))]) dL_law_265 rfl rfl rfl rfl rfl (vok_v (ob_60 hE) rfl) rfl (r_dep (by decide) (e_X12_ticket hE r6.2 (E.2.1 (l3 + (1 : Int32)).toNatClampNeg) (E.2.1 (l3 + (2 : Int32)).toNatClampNeg))) (fun r7 => ?_)
      refine r_pop dL_law_268 rfl ?_
      refine r_goto (t := 1512) dL_law_269 rfl ?_
      exact r_sub (L' := [(0, .retAddr 0), (1, .ref 0), (2, .ref 60), (3, .int l3)]) (sub_c rfl (sub_c rfl (sub_c rfl (sub_c rfl sub_n)))) (rb_L_law_1512 hE hrec_18 r7.2 l3)
    refine r_sw1 (fun h8 => ?_) (fun h8 => ?_)
    · refine r_jmp (t := 272) dL_law_33 rfl (by rw [h8]; rfl) ?_
      refine r_aload_n (x := 0) dL_law_272 rfl ?_
      refine r_roload_n (x := 0) dL_law_273 rfl ?_
      refine r_iload_n (x := l3) dL_law_274 rfl ?_
      refine r_iconst (v := (1 : Int32)) dL_law_275 rfl ?_
      refine r_iadd dL_law_276 ?_
      refine r_scload dL_law_277 ?_
      refine r_roload_n (x := 0) dL_law_278 rfl ?_
      refine r_iload_n (x := l3) dL_law_279 rfl ?_
      refine r_iconst (v := (2 : Int32)) dL_law_280 rfl ?_
      refine r_iadd dL_law_281 ?_
      refine r_scload dL_law_282 ?_
      refine r_roload_n (x := 0) dL_law_283 rfl ?_
      refine r_iload_n (x := l3) dL_law_284 rfl ?_
      refine r_iconst (v := (3 : Int32)) dL_law_285 rfl ?_
      refine r_iadd dL_law_286 ?_
      refine r_scload dL_law_287 ?_
      refine r_callI (k := 0) (idx := 23) (y := 141) (as := [.ref 0, .int (E.2.1 (l3 + (1 : Int32)).toNatClampNeg), .int (E.2.1 (l3 + (2 : Int32)).toNatClampNeg), .int (E.2.1 (l3 + (3 : Int32)).toNatClampNeg)]) (rest := []) (L0 := [(0, .ref 0), (1, .int (E.2.1 (l3 + (1 : Int32)).toNatClampNeg)), (2, .int (E.2.1 (l3 + (2 : Int32)).toNatClampNeg)), (3, .int (E.2.1 (l3 + (3 : Int32)).toNatClampNeg))]) dL_law_288 rfl rfl rfl rfl rfl (vok_v (ob_0 hE) rfl) rfl (r_dep (by decide) (e_X11_tickets hE q (E.2.1 (l3 + (1 : Int32)).toNatClampNeg) (E.2.1 (l3 + (2 : Int32)).toNatClampNeg) (E.2.1 (l3 + (3 : Int32)).toNatClampNeg))) (fun r9 => ?_)
      refine r_pop dL_law_291 rfl ?_
      refine r_aload_n (x := 60) dL_law_292 rfl ?_
      refine r_roload_n (x := 0) dL_law_293 rfl ?_
      refine r_iload_n (x := l3) dL_law_294 rfl ?_
      refine r_iconst (v := (1 : Int32)) dL_law_295 rfl ?_
      refine r_iadd dL_law_296 ?_
      refine r_scload dL_law_297 ?_
      refine r_roload_n (x := 0) dL_law_298 rfl ?_
      refine r_iload_n (x := l3) dL_law_299 rfl ?_
      refine r_iconst (v := (2 : Int32)) dL_law_300 rfl ?_
      refine r_iadd dL_law_301 ?_
      refine r_scload dL_law_302 ?_
      refine r_roload_n (x := 0) dL_law_303 rfl ?_
      refine r_iload_n (x := l3) dL_law_304 rfl ?_
      refine r_iconst (v := (3 : Int32)) dL_law_305 rfl ?_
      refine r_iadd dL_law_306 ?_
      refine r_scload dL_law_307 ?_
      refine r_callI (k := 0) (idx := 27) (y := 197) (as := [.ref 60, .int (E.2.1 (l3 + (1 : Int32)).toNatClampNeg), .int (E.2.1 (l3 + (2 : Int32)).toNatClampNeg), .int (E.2.1 (l3 + (3 : Int32)).toNatClampNeg)]) (rest := []) (L0 := [(0, .ref 60), (1, .int (E.2.1 (l3 + (1 : Int32)).toNatClampNeg)), (2, .int (E.2.1 (l3 + (2 : Int32)).toNatClampNeg)), (3, .int (E.2.1 (l3 + (3 : Int32)).toNatClampNeg))]) dL_law_308 rfl rfl rfl rfl rfl (vok_v (ob_60 hE) rfl) rfl (r_dep (by decide) (e_X12_tickets hE r9.2 (E.2.1 (l3 + (1 : Int32)).toNatClampNeg) (E.2.1 (l3 + (2 : Int32)).toNatClampNeg) (E.2.1 (l3 + (3 : Int32)).toNatClampNeg))) (fun r10 => ?_)
      refine r_pop dL_law_311 rfl ?_
      refine r_goto (t := 1512) dL_law_312 rfl ?_
      exact r_sub (L' := [(0, .retAddr 0), (1, .ref 0), (2, .ref 60), (3, .int l3)]) (sub_c rfl (sub_c rfl (sub_c rfl (sub_c rfl sub_n)))) (rb_L_law_1512 hE hrec_18 r10.2 l3)
    refine r_sw1 (fun h11 => ?_) (fun h11 => ?_)
    · refine r_jmp (t := 315) dL_law_33 rfl (by rw [h11]; rfl) ?_
      refine r_aload_n (x := 0) dL_law_315 rfl ?_
      refine r_roload_n (x := 0) dL_law_316 rfl ?_
      refine r_iload_n (x := l3) dL_law_317 rfl ?_
      refine r_iconst (v := (1 : Int32)) dL_law_318 rfl ?_
      refine r_iadd dL_law_319 ?_
      refine r_scload dL_law_320 ?_
      refine r_roload_n (x := 0) dL_law_321 rfl ?_
      refine r_iload_n (x := l3) dL_law_322 rfl ?_
      refine r_iconst (v := (2 : Int32)) dL_law_323 rfl ?_
      refine r_iadd dL_law_324 ?_
      refine r_scload dL_law_325 ?_
      refine r_roload_n (x := 0) dL_law_326 rfl ?_
      refine r_iload_n (x := l3) dL_law_327 rfl ?_
      refine r_iconst (v := (3 : Int32)) dL_law_328 rfl ?_
      refine r_iadd dL_law_329 ?_
      refine r_scload dL_law_330 ?_
      refine r_callI (k := 0) (idx := 28) (y := 143) (as := [.ref 0, .int (E.2.1 (l3 + (1 : Int32)).toNatClampNeg), .int (E.2.1 (l3 + (2 : Int32)).toNatClampNeg), .int (E.2.1 (l3 + (3 : Int32)).toNatClampNeg)]) (rest := []) (L0 := [(0, .ref 0), (1, .int (E.2.1 (l3 + (1 : Int32)).toNatClampNeg)), (2, .int (E.2.1 (l3 + (2 : Int32)).toNatClampNeg)), (3, .int (E.2.1 (l3 + (3 : Int32)).toNatClampNeg))]) dL_law_331 rfl rfl rfl rfl rfl (vok_v (ob_0 hE) rfl) rfl (r_dep (by decide) (e_X11_mend hE q (E.2.1 (l3 + (1 : Int32)).toNatClampNeg) (E.2.1 (l3 + (2 : Int32)).toNatClampNeg) (E.2.1 (l3 + (3 : Int32)).toNatClampNeg))) (fun r12 => ?_)
      refine r_pop dL_law_334 rfl ?_
      refine r_aload_n (x := 60) dL_law_335 rfl ?_
      refine r_roload_n (x := 0) dL_law_336 rfl ?_
      refine r_iload_n (x := l3) dL_law_337 rfl ?_
      refine r_iconst (v := (1 : Int32)) dL_law_338 rfl ?_
      refine r_iadd dL_law_339 ?_
      refine r_scload dL_law_340 ?_
      refine r_roload_n (x := 0) dL_law_341 rfl ?_
      refine r_iload_n (x := l3) dL_law_342 rfl ?_
      refine r_iconst (v := (2 : Int32)) dL_law_343 rfl ?_
      refine r_iadd dL_law_344 ?_
      refine r_scload dL_law_345 ?_
      refine r_roload_n (x := 0) dL_law_346 rfl ?_
      refine r_iload_n (x := l3) dL_law_347 rfl ?_
      refine r_iconst (v := (3 : Int32)) dL_law_348 rfl ?_
      refine r_iadd dL_law_349 ?_
      refine r_scload dL_law_350 ?_
      refine r_callI (k := 0) (idx := 31) (y := 205) (as := [.ref 60, .int (E.2.1 (l3 + (1 : Int32)).toNatClampNeg), .int (E.2.1 (l3 + (2 : Int32)).toNatClampNeg), .int (E.2.1 (l3 + (3 : Int32)).toNatClampNeg)]) (rest := []) (L0 := [(0, .ref 60), (1, .int (E.2.1 (l3 + (1 : Int32)).toNatClampNeg)), (2, .int (E.2.1 (l3 + (2 : Int32)).toNatClampNeg)), (3, .int (E.2.1 (l3 + (3 : Int32)).toNatClampNeg))]) dL_law_351 rfl rfl rfl rfl rfl (vok_v (ob_60 hE) rfl) rfl (r_dep (by decide) (e_X12_mend hE r12.2 (E.2.1 (l3 + (1 : Int32)).toNatClampNeg) (E.2.1 (l3 + (2 : Int32)).toNatClampNeg) (E.2.1 (l3 + (3 : Int32)).toNatClampNeg))) (fun r13 => ?_)
      refine r_pop dL_law_354 rfl ?_
      refine r_goto (t := 1512) dL_law_355 rfl ?_
      exact r_sub (L' := [(0, .retAddr 0), (1, .ref 0), (2, .ref 60), (3, .int l3)]) (sub_c rfl (sub_c rfl (sub_c rfl (sub_c rfl sub_n)))) (rb_L_law_1512 hE hrec_18 r13.2 l3)
    refine r_sw1 (fun h14 => ?_) (fun h14 => ?_)
    · refine r_jmp (t := 358) dL_law_33 rfl (by rw [h14]; rfl) ?_
      refine r_aload_n (x := 0) dL_law_358 rfl ?_
      refine r_roload_n (x := 0) dL_law_359 rfl ?_
      refine r_iload_n (x := l3) dL_law_360 rfl ?_
      refine r_iconst (v := (1 : Int32)) dL_law_361 rfl ?_
      refine r_iadd dL_law_362 ?_
      refine r_scload dL_law_363 ?_
      refine r_roload_n (x := 0) dL_law_364 rfl ?_
      refine r_iload_n (x := l3) dL_law_365 rfl ?_
      refine r_iconst (v := (2 : Int32)) dL_law_366 rfl ?_
      refine r_iadd dL_law_367 ?_
      refine r_scload dL_law_368 ?_
      refine r_callI (k := 0) (idx := 32) (y := 144) (as := [.ref 0, .int (E.2.1 (l3 + (1 : Int32)).toNatClampNeg), .int (E.2.1 (l3 + (2 : Int32)).toNatClampNeg)]) (rest := []) (L0 := [(0, .ref 0), (1, .int (E.2.1 (l3 + (1 : Int32)).toNatClampNeg)), (2, .int (E.2.1 (l3 + (2 : Int32)).toNatClampNeg))]) dL_law_369 rfl rfl rfl rfl rfl (vok_v (ob_0 hE) rfl) rfl (r_dep (by decide) (e_X11_of hE q (E.2.1 (l3 + (1 : Int32)).toNatClampNeg) (E.2.1 (l3 + (2 : Int32)).toNatClampNeg))) (fun r15 => ?_)
      refine r_pop dL_law_372 rfl ?_
      refine r_aload_n (x := 60) dL_law_373 rfl ?_
      refine r_roload_n (x := 0) dL_law_374 rfl ?_
      refine r_iload_n (x := l3) dL_law_375 rfl ?_
      refine r_iconst (v := (1 : Int32)) dL_law_376 rfl ?_
      refine r_iadd dL_law_377 ?_
      refine r_scload dL_law_378 ?_
      refine r_roload_n (x := 0) dL_law_379 rfl ?_
      refine r_iload_n (x := l3) dL_law_380 rfl ?_
      refine r_iconst (v := (2 : Int32)) dL_law_381 rfl ?_
      refine r_iadd dL_law_382 ?_
      refine r_scload dL_law_383 ?_
      refine r_callI (k := 0) (idx := 35) (y := 206) (as := [.ref 60, .int (E.2.1 (l3 + (1 : Int32)).toNatClampNeg), .int (E.2.1 (l3 + (2 : Int32)).toNatClampNeg)]) (rest := []) (L0 := [(0, .ref 60), (1, .int (E.2.1 (l3 + (1 : Int32)).toNatClampNeg)), (2, .int (E.2.1 (l3 + (2 : Int32)).toNatClampNeg))]) dL_law_384 rfl rfl rfl rfl rfl (vok_v (ob_60 hE) rfl) rfl (r_dep (by decide) (e_X12_of hE r15.2 (E.2.1 (l3 + (1 : Int32)).toNatClampNeg) (E.2.1 (l3 + (2 : Int32)).toNatClampNeg))) (fun r16 => ?_)
      refine r_pop dL_law_387 rfl ?_
      refine r_goto (t := 1512) dL_law_388 rfl ?_
      exact r_sub (L' := [(0, .retAddr 0), (1, .ref 0), (2, .ref 60), (3, .int l3)]) (sub_c rfl (sub_c rfl (sub_c rfl (sub_c rfl sub_n)))) (rb_L_law_1512 hE hrec_18 r16.2 l3)
    refine r_sw1 (fun h17 => ?_) (fun h17 => ?_)
    · refine r_jmp (t := 391) dL_law_33 rfl (by rw [h17]; rfl) ?_
      refine r_aload_n (x := 0) dL_law_391 rfl ?_
      refine r_roload_n (x := 0) dL_law_392 rfl ?_
      refine r_iload_n (x := l3) dL_law_393 rfl ?_
      refine r_iconst (v := (1 : Int32)) dL_law_394 rfl ?_
      refine r_iadd dL_law_395 ?_
      refine r_scload dL_law_396 ?_
      refine r_callI (k := 0) (idx := 36) (y := 145) (as := [.ref 0, .int (E.2.1 (l3 + (1 : Int32)).toNatClampNeg)]) (rest := []) (L0 := [(0, .ref 0), (1, .int (E.2.1 (l3 + (1 : Int32)).toNatClampNeg))]) dL_law_397 rfl rfl rfl rfl rfl (vok_v (ob_0 hE) rfl) rfl (r_dep (by decide) (e_X11_feed hE q (E.2.1 (l3 + (1 : Int32)).toNatClampNeg))) (fun r18 => ?_)
      refine r_pop dL_law_400 rfl ?_
      refine r_aload_n (x := 60) dL_law_401 rfl ?_
      refine r_roload_n (x := 0) dL_law_402 rfl ?_
      refine r_iload_n (x := l3) dL_law_403 rfl ?_
      refine r_iconst (v := (1 : Int32)) dL_law_404 rfl ?_
      refine r_iadd dL_law_405 ?_
      refine r_scload dL_law_406 ?_
      refine r_callI (k := 0) (idx := 39) (y := 207) (as := [.ref 60, .int (E.2.1 (l3 + (1 : Int32)).toNatClampNeg)]) (rest := []) (L0 := [(0, .ref 60), (1, .int (E.2.1 (l3 + (1 : Int32)).toNatClampNeg))]) dL_law_407 rfl rfl rfl rfl rfl (vok_v (ob_60 hE) rfl) rfl (r_dep (by decide) (e_X12_feed hE r18.2 (E.2.1 (l3 + (1 : Int32)).toNatClampNeg))) (fun r19 => ?_)
      refine r_pop dL_law_410 rfl ?_
      refine r_goto (t := 1512) dL_law_411 rfl ?_
      exact r_sub (L' := [(0, .retAddr 0), (1, .ref 0), (2, .ref 60), (3, .int l3)]) (sub_c rfl (sub_c rfl (sub_c rfl (sub_c rfl sub_n)))) (rb_L_law_1512 hE hrec_18 r19.2 l3)
    refine r_sw1 (fun h20 => ?_) (fun h20 => ?_)
    · refine r_jmp (t := 414) dL_law_33 rfl (by rw [h20]; rfl) ?_
      refine r_aload_n (x := 0) dL_law_414 rfl ?_
      refine r_callI (k := 0) (idx := 40) (y := 146) (as := [.ref 0]) (rest := []) (L0 := [(0, .ref 0)]) dL_law_415 rfl rfl rfl rfl rfl (vok_v (ob_0 hE) rfl) rfl (r_dep (by decide) (e_X11_law hE q)) (fun r21 => ?_)
      refine r_pop dL_law_418 rfl ?_
      refine r_aload_n (x := 60) dL_law_419 rfl ?_
      refine r_callI (k := 0) (idx := 44) (y := 225) (as := [.ref 60]) (rest := []) (L0 := [(0, .ref 60)]) dL_law_420 rfl rfl rfl rfl rfl (vok_v (ob_60 hE) rfl) rfl (r_dep (by decide) (e_X12_law hE r21.2)) (fun r22 => ?_)
      refine r_pop dL_law_423 rfl ?_
      refine r_goto (t := 1512) dL_law_424 rfl ?_
      exact r_sub (L' := [(0, .retAddr 0), (1, .ref 0), (2, .ref 60), (3, .int l3)]) (sub_c rfl (sub_c rfl (sub_c rfl (sub_c rfl sub_n)))) (rb_L_law_1512 hE hrec_18 r22.2 l3)
    refine r_sw1 (fun h23 => ?_) (fun h23 => ?_)
    · refine r_jmp (t := 427) dL_law_33 rfl (by rw [h23]; rfl) ?_
      refine r_aload_n (x := 0) dL_law_427 rfl ?_
      refine r_roload_n (x := 0) dL_law_428 rfl ?_
      refine r_iload_n (x := l3) dL_law_429 rfl ?_
      refine r_iconst (v := (1 : Int32)) dL_law_430 rfl ?_
      refine r_iadd dL_law_431 ?_
      refine r_scload dL_law_432 ?_
      refine r_callI (k := 0) (idx := 45) (y := 147) (as := [.ref 0, .int (E.2.1 (l3 + (1 : Int32)).toNatClampNeg)]) (rest := []) (L0 := [(0, .ref 0), (1, .int (E.2.1 (l3 + (1 : Int32)).toNatClampNeg))]) dL_law_433 rfl rfl rfl rfl rfl (vok_v (ob_0 hE) rfl) rfl (r_dep (by decide) (e_X11_odds hE q (E.2.1 (l3 + (1 : Int32)).toNatClampNeg))) (fun r24 => ?_)
      refine r_pop dL_law_436 rfl ?_
      refine r_aload_n (x := 60) dL_law_437 rfl ?_
      refine r_roload_n (x := 0) dL_law_438 rfl ?_
      refine r_iload_n (x := l3) dL_law_439 rfl ?_
      refine r_iconst (v := (1 : Int32)) dL_law_440 rfl ?_
      refine r_iadd dL_law_441 ?_
      refine r_scload dL_law_442 ?_
      refine r_callI (k := 0) (idx := 48) (y := 233) (as := [.ref 60, .int (E.2.1 (l3 + (1 : Int32)).toNatClampNeg)]) (rest := []) (L0 := [(0, .ref 60), (1, .int (E.2.1 (l3 + (1 : Int32)).toNatClampNeg))]) dL_law_443 rfl rfl rfl rfl rfl (vok_v (ob_60 hE) rfl) rfl (r_dep (by decide) (e_X12_odds hE r24.2 (E.2.1 (l3 + (1 : Int32)).toNatClampNeg))) (fun r25 => ?_)
      refine r_pop dL_law_446 rfl ?_
      refine r_goto (t := 1512) dL_law_447 rfl ?_
      exact r_sub (L' := [(0, .retAddr 0), (1, .ref 0), (2, .ref 60), (3, .int l3)]) (sub_c rfl (sub_c rfl (sub_c rfl (sub_c rfl sub_n)))) (rb_L_law_1512 hE hrec_18 r25.2 l3)
    refine r_sw1 (fun h26 => ?_) (fun h26 => ?_)
    · refine r_jmp (t := 450) dL_law_33 rfl (by rw [h26]; rfl) ?_
      refine r_aload_n (x := 0) dL_law_450 rfl ?_
      refine r_roload_n (x := 0) dL_law_451 rfl ?_
      refine r_iload_n (x := l3) dL_law_452 rfl ?_
      refine r_iconst (v := (1 : Int32)) dL_law_453 rfl ?_
      refine r_iadd dL_law_454 ?_
      refine r_scload dL_law_455 ?_
      refine r_roload_n (x := 0) dL_law_456 rfl ?_
      refine r_iload_n (x := l3) dL_law_457 rfl ?_
      refine r_iconst (v := (2 : Int32)) dL_law_458 rfl ?_
      refine r_iadd dL_law_459 ?_
      refine r_scload dL_law_460 ?_
      refine r_roload_n (x := 0) dL_law_461 rfl ?_
      refine r_iload_n (x := l3) dL_law_462 rfl ?_
      refine r_iconst (v := (3 : Int32)) dL_law_463 rfl ?_
      refine r_iadd dL_law_464 ?_
      refine r_scload dL_law_465 ?_
      refine r_callI (k := 0) (idx := 49) (y := 149) (as := [.ref 0, .int (E.2.1 (l3 + (1 : Int32)).toNatClampNeg), .int (E.2.1 (l3 + (2 : Int32)).toNatClampNeg), .int (E.2.1 (l3 + (3 : Int32)).toNatClampNeg)]) (rest := []) (L0 := [(0, .ref 0), (1, .int (E.2.1 (l3 + (1 : Int32)).toNatClampNeg)), (2, .int (E.2.1 (l3 + (2 : Int32)).toNatClampNeg)), (3, .int (E.2.1 (l3 + (3 : Int32)).toNatClampNeg))]) dL_law_466 rfl rfl rfl rfl rfl (vok_v (ob_0 hE) rfl) rfl (r_dep (by decide) (e_X11_later hE q (E.2.1 (l3 + (1 : Int32)).toNatClampNeg) (E.2.1 (l3 + (2 : Int32)).toNatClampNeg) (E.2.1 (l3 + (3 : Int32)).toNatClampNeg))) (fun r27 => ?_)
      refine r_pop dL_law_469 rfl ?_
      refine r_aload_n (x := 60) dL_law_470 rfl ?_
      refine r_roload_n (x := 0) dL_law_471 rfl ?_
      refine r_iload_n (x := l3) dL_law_472 rfl ?_
      refine r_iconst (v := (1 : Int32)) dL_law_473 rfl ?_
      refine r_iadd dL_law_474 ?_
      refine r_scload dL_law_475 ?_
      refine r_roload_n (x := 0) dL_law_476 rfl ?_
      refine r_iload_n (x := l3) dL_law_477 rfl ?_
      refine r_iconst (v := (2 : Int32)) dL_law_478 rfl ?_
      refine r_iadd dL_law_479 ?_
      refine r_scload dL_law_480 ?_
      refine r_roload_n (x := 0) dL_law_481 rfl ?_
      refine r_iload_n (x := l3) dL_law_482 rfl ?_
      refine r_iconst (v := (3 : Int32)) dL_law_483 rfl ?_
      refine r_iadd dL_law_484 ?_
      refine r_scload dL_law_485 ?_
      refine r_callI (k := 0) (idx := 52) (y := 239) (as := [.ref 60, .int (E.2.1 (l3 + (1 : Int32)).toNatClampNeg), .int (E.2.1 (l3 + (2 : Int32)).toNatClampNeg), .int (E.2.1 (l3 + (3 : Int32)).toNatClampNeg)]) (rest := []) (L0 := [(0, .ref 60), (1, .int (E.2.1 (l3 + (1 : Int32)).toNatClampNeg)), (2, .int (E.2.1 (l3 + (2 : Int32)).toNatClampNeg)), (3, .int (E.2.1 (l3 + (3 : Int32)).toNatClampNeg))]) dL_law_486 rfl rfl rfl rfl rfl (vok_v (ob_60 hE) rfl) rfl (r_dep (by decide) (e_X12_later hE r27.2 (E.2.1 (l3 + (1 : Int32)).toNatClampNeg) (E.2.1 (l3 + (2 : Int32)).toNatClampNeg) (E.2.1 (l3 + (3 : Int32)).toNatClampNeg))) (fun r28 => ?_)
      refine r_pop dL_law_489 rfl ?_
      refine r_goto (t := 1512) dL_law_490 rfl ?_
      exact r_sub (L' := [(0, .retAddr 0), (1, .ref 0), (2, .ref 60), (3, .int l3)]) (sub_c rfl (sub_c rfl (sub_c rfl (sub_c rfl sub_n)))) (rb_L_law_1512 hE hrec_18 r28.2 l3)
    refine r_sw1 (fun h29 => ?_) (fun h29 => ?_)
    · refine r_jmp (t := 493) dL_law_33 rfl (by rw [h29]; rfl) ?_
      refine r_aload_n (x := 0) dL_law_493 rfl ?_
      refine r_roload_n (x := 0) dL_law_494 rfl ?_
      refine r_iload_n (x := l3) dL_law_495 rfl ?_
      refine r_iconst (v := (1 : Int32)) dL_law_496 rfl ?_
      refine r_iadd dL_law_497 ?_
      refine r_scload dL_law_498 ?_
      refine r_roload_n (x := 0) dL_law_499 rfl ?_
      refine r_iload_n (x := l3) dL_law_500 rfl ?_
      refine r_iconst (v := (2 : Int32)) dL_law_501 rfl ?_
      refine r_iadd dL_law_502 ?_
      refine r_scload dL_law_503 ?_
      refine r_roload_n (x := 0) dL_law_504 rfl ?_
      refine r_iload_n (x := l3) dL_law_505 rfl ?_
      refine r_iconst (v := (3 : Int32)) dL_law_506 rfl ?_
      refine r_iadd dL_law_507 ?_
      refine r_scload dL_law_508 ?_
      refine r_callI (k := 0) (idx := 53) (y := 150) (as := [.ref 0, .int (E.2.1 (l3 + (1 : Int32)).toNatClampNeg), .int (E.2.1 (l3 + (2 : Int32)).toNatClampNeg), .int (E.2.1 (l3 + (3 : Int32)).toNatClampNeg)]) (rest := []) (L0 := [(0, .ref 0), (1, .int (E.2.1 (l3 + (1 : Int32)).toNatClampNeg)), (2, .int (E.2.1 (l3 + (2 : Int32)).toNatClampNeg)), (3, .int (E.2.1 (l3 + (3 : Int32)).toNatClampNeg))]) dL_law_509 rfl rfl rfl rfl rfl (vok_v (ob_0 hE) rfl) rfl (r_dep (by decide) (e_X11_eve hE q (E.2.1 (l3 + (1 : Int32)).toNatClampNeg) (E.2.1 (l3 + (2 : Int32)).toNatClampNeg) (E.2.1 (l3 + (3 : Int32)).toNatClampNeg))) (fun r30 => ?_)
      refine r_pop dL_law_512 rfl ?_
      refine r_aload_n (x := 60) dL_law_513 rfl ?_
      refine r_roload_n (x := 0) dL_law_514 rfl ?_
      refine r_iload_n (x := l3) dL_law_515 rfl ?_
      refine r_iconst (v := (1 : Int32)) dL_law_516 rfl ?_
      refine r_iadd dL_law_517 ?_
      refine r_scload dL_law_518 ?_
      refine r_roload_n (x := 0) dL_law_519 rfl ?_
      refine r_iload_n (x := l3) dL_law_520 rfl ?_
      refine r_iconst (v := (2 : Int32)) dL_law_521 rfl ?_
      refine r_iadd dL_law_522 ?_
      refine r_scload dL_law_523 ?_
      refine r_roload_n (x := 0) dL_law_524 rfl ?_
      refine r_iload_n (x := l3) dL_law_525 rfl ?_
      refine r_iconst (v := (3 : Int32)) dL_law_526 rfl ?_
      refine r_iadd dL_law_527 ?_
      refine r_scload dL_law_528 ?_
      refine r_callI (k := 0) (idx := 56) (y := 240) (as := [.ref 60, .int (E.2.1 (l3 + (1 : Int32)).toNatClampNeg), .int (E.2.1 (l3 + (2 : Int32)).toNatClampNeg), .int (E.2.1 (l3 + (3 : Int32)).toNatClampNeg)]) (rest := []) (L0 := [(0, .ref 60), (1, .int (E.2.1 (l3 + (1 : Int32)).toNatClampNeg)), (2, .int (E.2.1 (l3 + (2 : Int32)).toNatClampNeg)), (3, .int (E.2.1 (l3 + (3 : Int32)).toNatClampNeg))]) dL_law_529 rfl rfl rfl rfl rfl (vok_v (ob_60 hE) rfl) rfl (r_dep (by decide) (e_X12_eve hE r30.2 (E.2.1 (l3 + (1 : Int32)).toNatClampNeg) (E.2.1 (l3 + (2 : Int32)).toNatClampNeg) (E.2.1 (l3 + (3 : Int32)).toNatClampNeg))) (fun r31 => ?_)
      refine r_pop dL_law_532 rfl ?_
      refine r_goto (t := 1512) dL_law_533 rfl ?_
      exact r_sub (L' := [(0, .retAddr 0), (1, .ref 0), (2, .ref 60), (3, .int l3)]) (sub_c rfl (sub_c rfl (sub_c rfl (sub_c rfl sub_n)))) (rb_L_law_1512 hE hrec_18 r31.2 l3)
    refine r_sw1 (fun h32 => ?_) (fun h32 => ?_)
    · refine r_jmp (t := 536) dL_law_33 rfl (by rw [h32]; rfl) ?_
      refine r_aload_n (x := 0) dL_law_536 rfl ?_
      refine r_roload_n (x := 0) dL_law_537 rfl ?_
      refine r_iload_n (x := l3) dL_law_538 rfl ?_
      refine r_iconst (v := (1 : Int32)) dL_law_539 rfl ?_
      refine r_iadd dL_law_540 ?_
      refine r_scload dL_law_541 ?_
      refine r_roload_n (x := 0) dL_law_542 rfl ?_
      refine r_iload_n (x := l3) dL_law_543 rfl ?_
      refine r_iconst (v := (2 : Int32)) dL_law_544 rfl ?_
      refine r_iadd dL_law_545 ?_
      refine r_scload dL_law_546 ?_
      refine r_roload_n (x := 0) dL_law_547 rfl ?_
      refine r_iload_n (x := l3) dL_law_548 rfl ?_
      refine r_iconst (v := (3 : Int32)) dL_law_549 rfl ?_
      refine r_iadd dL_law_550 ?_
      refine r_scload dL_law_551 ?_
      refine r_callL (k := 0) (idx := 57) (y := 151) (as := [.ref 0, .int (E.2.1 (l3 + (1 : Int32)).toNatClampNeg), .int (E.2.1 (l3 + (2 : Int32)).toNatClampNeg), .int (E.2.1 (l3 + (3 : Int32)).toNatClampNeg)]) (rest := []) (L0 := [(0, .ref 0), (1, .int (E.2.1 (l3 + (1 : Int32)).toNatClampNeg)), (2, .int (E.2.1 (l3 + (2 : Int32)).toNatClampNeg)), (3, .int (E.2.1 (l3 + (3 : Int32)).toNatClampNeg))]) dL_law_552 rfl rfl rfl rfl rfl (vok_v (ob_0 hE) rfl) rfl (r_dep (by decide) (e_X11_likely hE q (E.2.1 (l3 + (1 : Int32)).toNatClampNeg) (E.2.1 (l3 + (2 : Int32)).toNatClampNeg) (E.2.1 (l3 + (3 : Int32)).toNatClampNeg))) (fun r33 => ?_)
      refine r_pop2 dL_law_555 ?_
      refine r_aload_n (x := 60) dL_law_556 rfl ?_
      refine r_roload_n (x := 0) dL_law_557 rfl ?_
      refine r_iload_n (x := l3) dL_law_558 rfl ?_
      refine r_iconst (v := (1 : Int32)) dL_law_559 rfl ?_
      refine r_iadd dL_law_560 ?_
      refine r_scload dL_law_561 ?_
      refine r_roload_n (x := 0) dL_law_562 rfl ?_
      refine r_iload_n (x := l3) dL_law_563 rfl ?_
      refine r_iconst (v := (2 : Int32)) dL_law_564 rfl ?_
      refine r_iadd dL_law_565 ?_
      refine r_scload dL_law_566 ?_
      refine r_roload_n (x := 0) dL_law_567 rfl ?_
      refine r_iload_n (x := l3) dL_law_568 rfl ?_
      refine r_iconst (v := (3 : Int32)) dL_law_569 rfl ?_
      refine r_iadd dL_law_570 ?_
      refine r_scload dL_law_571 ?_
      refine r_callL (k := 0) (idx := 61) (y := 242) (as := [.ref 60, .int (E.2.1 (l3 + (1 : Int32)).toNatClampNeg), .int (E.2.1 (l3 + (2 : Int32)).toNatClampNeg), .int (E.2.1 (l3 + (3 : Int32)).toNatClampNeg)]) (rest := []) (L0 := [(0, .ref 60), (1, .int (E.2.1 (l3 + (1 : Int32)).toNatClampNeg)), (2, .int (E.2.1 (l3 + (2 : Int32)).toNatClampNeg)), (3, .int (E.2.1 (l3 + (3 : Int32)).toNatClampNeg))]) dL_law_572 rfl rfl rfl rfl rfl (vok_v (ob_60 hE) rfl) rfl (r_dep (by decide) (e_X12_likely hE r33.2 (E.2.1 (l3 + (1 : Int32)).toNatClampNeg) (E.2.1 (l3 + (2 : Int32)).toNatClampNeg) (E.2.1 (l3 + (3 : Int32)).toNatClampNeg))) (fun r34 => ?_)
      refine r_pop2 dL_law_575 ?_
      refine r_goto (t := 1512) dL_law_576 rfl ?_
      exact r_sub (L' := [(0, .retAddr 0), (1, .ref 0), (2, .ref 60), (3, .int l3)]) (sub_c rfl (sub_c rfl (sub_c rfl (sub_c rfl sub_n)))) (rb_L_law_1512 hE hrec_18 r34.2 l3)
    refine r_sw1 (fun h35 => ?_) (fun h35 => ?_)
    · refine r_jmp (t := 579) dL_law_33 rfl (by rw [h35]; rfl) ?_
      refine r_aload_n (x := 0) dL_law_579 rfl ?_
      refine r_roload_n (x := 0) dL_law_580 rfl ?_
      refine r_iload_n (x := l3) dL_law_581 rfl ?_
      refine r_iconst (v := (1 : Int32)) dL_law_582 rfl ?_
      refine r_iadd dL_law_583 ?_
      refine r_scload dL_law_584 ?_
      refine r_roload_n (x := 0) dL_law_585 rfl ?_
      refine r_iload_n (x := l3) dL_law_586 rfl ?_
      refine r_iconst (v := (2 : Int32)) dL_law_587 rfl ?_
      refine r_iadd dL_law_588 ?_
      refine r_scload dL_law_589 ?_
      refine r_callL (k := 0) (idx := 62) (y := 152) (as := [.ref 0, .int (E.2.1 (l3 + (1 : Int32)).toNatClampNeg), .int (E.2.1 (l3 + (2 : Int32)).toNatClampNeg)]) (rest := []) (L0 := [(0, .ref 0), (1, .int (E.2.1 (l3 + (1 : Int32)).toNatClampNeg)), (2, .int (E.2.1 (l3 + (2 : Int32)).toNatClampNeg))]) dL_law_590 rfl rfl rfl rfl rfl (vok_v (ob_0 hE) rfl) rfl (r_dep (by decide) (e_X11_all hE q (E.2.1 (l3 + (1 : Int32)).toNatClampNeg) (E.2.1 (l3 + (2 : Int32)).toNatClampNeg))) (fun r36 => ?_)
      refine r_pop2 dL_law_593 ?_
      refine r_aload_n (x := 60) dL_law_594 rfl ?_
      refine r_roload_n (x := 0) dL_law_595 rfl ?_
      refine r_iload_n (x := l3) dL_law_596 rfl ?_
      refine r_iconst (v := (1 : Int32)) dL_law_597 rfl ?_
      refine r_iadd dL_law_598 ?_
      refine r_scload dL_law_599 ?_
      refine r_roload_n (x := 0) dL_law_600 rfl ?_
      refine r_iload_n (x := l3) dL_law_601 rfl ?_
      refine r_iconst (v := (2 : Int32)) dL_law_602 rfl ?_
      refine r_iadd dL_law_603 ?_
      refine r_scload dL_law_604 ?_
      refine r_callL (k := 0) (idx := 66) (y := 243) (as := [.ref 60, .int (E.2.1 (l3 + (1 : Int32)).toNatClampNeg), .int (E.2.1 (l3 + (2 : Int32)).toNatClampNeg)]) (rest := []) (L0 := [(0, .ref 60), (1, .int (E.2.1 (l3 + (1 : Int32)).toNatClampNeg)), (2, .int (E.2.1 (l3 + (2 : Int32)).toNatClampNeg))]) dL_law_605 rfl rfl rfl rfl rfl (vok_v (ob_60 hE) rfl) rfl (r_dep (by decide) (e_X12_all hE r36.2 (E.2.1 (l3 + (1 : Int32)).toNatClampNeg) (E.2.1 (l3 + (2 : Int32)).toNatClampNeg))) (fun r37 => ?_)
      refine r_pop2 dL_law_608 ?_
      refine r_goto (t := 1512) dL_law_609 rfl ?_
      exact r_sub (L' := [(0, .retAddr 0), (1, .ref 0), (2, .ref 60), (3, .int l3)]) (sub_c rfl (sub_c rfl (sub_c rfl (sub_c rfl sub_n)))) (rb_L_law_1512 hE hrec_18 r37.2 l3)
    refine r_sw1 (fun h38 => ?_) (fun h38 => ?_)
    · refine r_jmp (t := 612) dL_law_33 rfl (by rw [h38]; rfl) ?_
      refine r_aload_n (x := 0) dL_law_612 rfl ?_
      refine r_roload_n (x := 0) dL_law_613 rfl ?_
      refine r_iload_n (x := l3) dL_law_614 rfl ?_
      refine r_iconst (v := (1 : Int32)) dL_law_615 rfl ?_
      refine r_iadd dL_law_616 ?_
      refine r_scload dL_law_617 ?_
      refine r_roload_n (x := 0) dL_law_618 rfl ?_
      refine r_iload_n (x := l3) dL_law_619 rfl ?_
      refine r_iconst (v := (2 : Int32)) dL_law_620 rfl ?_
      refine r_iadd dL_law_621 ?_
      refine r_scload dL_law_622 ?_
      refine r_callL (k := 0) (idx := 67) (y := 155) (as := [.ref 0, .int (E.2.1 (l3 + (1 : Int32)).toNatClampNeg), .int (E.2.1 (l3 + (2 : Int32)).toNatClampNeg)]) (rest := []) (L0 := [(0, .ref 0), (1, .int (E.2.1 (l3 + (1 : Int32)).toNatClampNeg)), (2, .int (E.2.1 (l3 + (2 : Int32)).toNatClampNeg))]) dL_law_623 rfl rfl rfl rfl rfl (vok_v (ob_0 hE) rfl) rfl (r_dep (by decide) (e_X11_king hE q (E.2.1 (l3 + (1 : Int32)).toNatClampNeg) (E.2.1 (l3 + (2 : Int32)).toNatClampNeg))) (fun r39 => ?_)
      refine r_pop2 dL_law_626 ?_
      refine r_aload_n (x := 60) dL_law_627 rfl ?_
      refine r_roload_n (x := 0) dL_law_628 rfl ?_
      refine r_iload_n (x := l3) dL_law_629 rfl ?_
      refine r_iconst (v := (1 : Int32)) dL_law_630 rfl ?_
      refine r_iadd dL_law_631 ?_
      refine r_scload dL_law_632 ?_
      refine r_roload_n (x := 0) dL_law_633 rfl ?_
      refine r_iload_n (x := l3) dL_law_634 rfl ?_
      refine r_iconst (v := (2 : Int32)) dL_law_635 rfl ?_
      refine r_iadd dL_law_636 ?_
      refine r_scload dL_law_637 ?_
      refine r_callL (k := 0) (idx := 70) (y := 244) (as := [.ref 60, .int (E.2.1 (l3 + (1 : Int32)).toNatClampNeg), .int (E.2.1 (l3 + (2 : Int32)).toNatClampNeg)]) (rest := []) (L0 := [(0, .ref 60), (1, .int (E.2.1 (l3 + (1 : Int32)).toNatClampNeg)), (2, .int (E.2.1 (l3 + (2 : Int32)).toNatClampNeg))]) dL_law_638 rfl rfl rfl rfl rfl (vok_v (ob_60 hE) rfl) rfl (r_dep (by decide) (e_X12_king hE r39.2 (E.2.1 (l3 + (1 : Int32)).toNatClampNeg) (E.2.1 (l3 + (2 : Int32)).toNatClampNeg))) (fun r40 => ?_)
      refine r_pop2 dL_law_641 ?_
      refine r_goto (t := 1512) dL_law_642 rfl ?_
      exact r_sub (L' := [(0, .retAddr 0), (1, .ref 0), (2, .ref 60), (3, .int l3)]) (sub_c rfl (sub_c rfl (sub_c rfl (sub_c rfl sub_n)))) (rb_L_law_1512 hE hrec_18 r40.2 l3)
    refine r_sw1 (fun h41 => ?_) (fun h41 => ?_)
    · refine r_jmp (t := 645) dL_law_33 rfl (by rw [h41]; rfl) ?_
      refine r_aload_n (x := 0) dL_law_645 rfl ?_
      refine r_callI (k := 0) (idx := 71) (y := 156) (as := [.ref 0]) (rest := []) (L0 := [(0, .ref 0)]) dL_law_646 rfl rfl rfl rfl rfl (vok_v (ob_0 hE) rfl) rfl (r_dep (by decide) (e_X11_safe hE q)) (fun r42 => ?_)
      refine r_pop dL_law_649 rfl ?_
      refine r_aload_n (x := 60) dL_law_650 rfl ?_
      refine r_callI (k := 0) (idx := 74) (y := 245) (as := [.ref 60]) (rest := []) (L0 := [(0, .ref 60)]) dL_law_651 rfl rfl rfl rfl rfl (vok_v (ob_60 hE) rfl) rfl (r_dep (by decide) (e_X12_safe hE r42.2)) (fun r43 => ?_)
      refine r_pop dL_law_654 rfl ?_
      refine r_goto (t := 1512) dL_law_655 rfl ?_
      exact r_sub (L' := [(0, .retAddr 0), (1, .ref 0), (2, .ref 60), (3, .int l3)]) (sub_c rfl (sub_c rfl (sub_c rfl (sub_c rfl sub_n)))) (rb_L_law_1512 hE hrec_18 r43.2 l3)
    refine r_sw1 (fun h44 => ?_) (fun h44 => ?_)
    · refine r_jmp (t := 658) dL_law_33 rfl (by rw [h44]; rfl) ?_
      refine r_aload_n (x := 0) dL_law_658 rfl ?_
      refine r_callI (k := 0) (idx := 75) (y := 157) (as := [.ref 0]) (rest := []) (L0 := [(0, .ref 0)]) dL_law_659 rfl rfl rfl rfl rfl (vok_v (ob_0 hE) rfl) rfl (r_dep (by decide) (e_X11_likeliest hE q)) (fun r45 => ?_)
      refine r_pop dL_law_662 rfl ?_
      refine r_aload_n (x := 60) dL_law_663 rfl ?_
      refine r_callI (k := 0) (idx := 78) (y := 246) (as := [.ref 60]) (rest := []) (L0 := [(0, .ref 60)]) dL_law_664 rfl rfl rfl rfl rfl (vok_v (ob_60 hE) rfl) rfl (r_dep (by decide) (e_X12_likeliest hE r45.2)) (fun r46 => ?_)
      refine r_pop dL_law_667 rfl ?_
      refine r_goto (t := 1512) dL_law_668 rfl ?_
      exact r_sub (L' := [(0, .retAddr 0), (1, .ref 0), (2, .ref 60), (3, .int l3)]) (sub_c rfl (sub_c rfl (sub_c rfl (sub_c rfl sub_n)))) (rb_L_law_1512 hE hrec_18 r46.2 l3)
    refine r_sw1 (fun h47 => ?_) (fun h47 => ?_)
    · refine r_jmp (t := 671) dL_law_33 rfl (by rw [h47]; rfl) ?_
      refine r_aload_n (x := 0) dL_law_671 rfl ?_
      refine r_roload_n (x := 0) dL_law_672 rfl ?_
      refine r_iload_n (x := l3) dL_law_673 rfl ?_
      refine r_iconst (v := (1 : Int32)) dL_law_674 rfl ?_
      refine r_iadd dL_law_675 ?_
      refine r_scload dL_law_676 ?_
      refine r_callI (k := 0) (idx := 79) (y := 158) (as := [.ref 0, .int (E.2.1 (l3 + (1 : Int32)).toNatClampNeg)]) (rest := []) (L0 := [(0, .ref 0), (1, .int (E.2.1 (l3 + (1 : Int32)).toNatClampNeg))]) dL_law_677 rfl rfl rfl rfl rfl (vok_v (ob_0 hE) rfl) rfl (r_dep (by decide) (e_X11_watch hE q (E.2.1 (l3 + (1 : Int32)).toNatClampNeg))) (fun r48 => ?_)
      refine r_pop dL_law_680 rfl ?_
      refine r_aload_n (x := 60) dL_law_681 rfl ?_
      refine r_roload_n (x := 0) dL_law_682 rfl ?_
      refine r_iload_n (x := l3) dL_law_683 rfl ?_
      refine r_iconst (v := (1 : Int32)) dL_law_684 rfl ?_
      refine r_iadd dL_law_685 ?_
      refine r_scload dL_law_686 ?_
      refine r_callI (k := 0) (idx := 82) (y := 247) (as := [.ref 60, .int (E.2.1 (l3 + (1 : Int32)).toNatClampNeg)]) (rest := []) (L0 := [(0, .ref 60), (1, .int (E.2.1 (l3 + (1 : Int32)).toNatClampNeg))]) dL_law_687 rfl rfl rfl rfl rfl (vok_v (ob_60 hE) rfl) rfl (r_dep (by decide) (e_X12_watch hE r48.2 (E.2.1 (l3 + (1 : Int32)).toNatClampNeg))) (fun r49 => ?_)
      refine r_pop dL_law_690 rfl ?_
      refine r_goto (t := 1512) dL_law_691 rfl ?_
      exact r_sub (L' := [(0, .retAddr 0), (1, .ref 0), (2, .ref 60), (3, .int l3)]) (sub_c rfl (sub_c rfl (sub_c rfl (sub_c rfl sub_n)))) (rb_L_law_1512 hE hrec_18 r49.2 l3)
    refine r_sw1 (fun h50 => ?_) (fun h50 => ?_)
    · refine r_jmp (t := 694) dL_law_33 rfl (by rw [h50]; rfl) ?_
      refine r_aload_n (x := 0) dL_law_694 rfl ?_
      refine r_roload_n (x := 0) dL_law_695 rfl ?_
      refine r_iload_n (x := l3) dL_law_696 rfl ?_
      refine r_iconst (v := (1 : Int32)) dL_law_697 rfl ?_
      refine r_iadd dL_law_698 ?_
      refine r_scload dL_law_699 ?_
      refine r_roload_n (x := 0) dL_law_700 rfl ?_
      refine r_iload_n (x := l3) dL_law_701 rfl ?_
      refine r_iconst (v := (2 : Int32)) dL_law_702 rfl ?_
      refine r_iadd dL_law_703 ?_
      refine r_scload dL_law_704 ?_
      refine r_roload_n (x := 0) dL_law_705 rfl ?_
      refine r_iload_n (x := l3) dL_law_706 rfl ?_
      refine r_iconst (v := (3 : Int32)) dL_law_707 rfl ?_
      refine r_iadd dL_law_708 ?_
      refine r_scload dL_law_709 ?_
      refine r_callL (k := 0) (idx := 83) (y := 159) (as := [.ref 0, .int (E.2.1 (l3 + (1 : Int32)).toNatClampNeg), .int (E.2.1 (l3 + (2 : Int32)).toNatClampNeg), .int (E.2.1 (l3 + (3 : Int32)).toNatClampNeg)]) (rest := []) (L0 := [(0, .ref 0), (1, .int (E.2.1 (l3 + (1 : Int32)).toNatClampNeg)), (2, .int (E.2.1 (l3 + (2 : Int32)).toNatClampNeg)), (3, .int (E.2.1 (l3 + (3 : Int32)).toNatClampNeg))]) dL_law_710 rfl rfl rfl rfl rfl (vok_v (ob_0 hE) rfl) rfl (r_dep (by decide) (e_X11_rid hE q (E.2.1 (l3 + (1 : Int32)).toNatClampNeg) (E.2.1 (l3 + (2 : Int32)).toNatClampNeg) (E.2.1 (l3 + (3 : Int32)).toNatClampNeg))) (fun r51 => ?_)
      refine r_pop2 dL_law_713 ?_
      refine r_aload_n (x := 60) dL_law_714 rfl ?_
      refine r_roload_n (x := 0) dL_law_715 rfl ?_
      refine r_iload_n (x := l3) dL_law_716 rfl ?_
      refine r_iconst (v := (1 : Int32)) dL_law_717 rfl ?_
      refine r_iadd dL_law_718 ?_
      refine r_scload dL_law_719 ?_
      refine r_roload_n (x := 0) dL_law_720 rfl ?_
      refine r_iload_n (x := l3) dL_law_721 rfl ?_
      refine r_iconst (v := (2 : Int32)) dL_law_722 rfl ?_
      refine r_iadd dL_law_723 ?_
      refine r_scload dL_law_724 ?_
      refine r_roload_n (x := 0) dL_law_725 rfl ?_
      refine r_iload_n (x := l3) dL_law_726 rfl ?_
      refine r_iconst (v := (3 : Int32)) dL_law_727 rfl ?_
      refine r_iadd dL_law_728 ?_
      refine r_scload dL_law_729 ?_
      refine r_callL (k := 0) (idx := 86) (y := 252) (as := [.ref 60, .int (E.2.1 (l3 + (1 : Int32)).toNatClampNeg), .int (E.2.1 (l3 + (2 : Int32)).toNatClampNeg), .int (E.2.1 (l3 + (3 : Int32)).toNatClampNeg)]) (rest := []) (L0 := [(0, .ref 60), (1, .int (E.2.1 (l3 + (1 : Int32)).toNatClampNeg)), (2, .int (E.2.1 (l3 + (2 : Int32)).toNatClampNeg)), (3, .int (E.2.1 (l3 + (3 : Int32)).toNatClampNeg))]) dL_law_730 rfl rfl rfl rfl rfl (vok_v (ob_60 hE) rfl) rfl (r_dep (by decide) (e_X12_rid hE r51.2 (E.2.1 (l3 + (1 : Int32)).toNatClampNeg) (E.2.1 (l3 + (2 : Int32)).toNatClampNeg) (E.2.1 (l3 + (3 : Int32)).toNatClampNeg))) (fun r52 => ?_)
      refine r_pop2 dL_law_733 ?_
      refine r_goto (t := 1512) dL_law_734 rfl ?_
      exact r_sub (L' := [(0, .retAddr 0), (1, .ref 0), (2, .ref 60), (3, .int l3)]) (sub_c rfl (sub_c rfl (sub_c rfl (sub_c rfl sub_n)))) (rb_L_law_1512 hE hrec_18 r52.2 l3)
    refine r_sw1 (fun h53 => ?_) (fun h53 => ?_)
    · refine r_jmp (t := 737) dL_law_33 rfl (by rw [h53]; rfl) ?_
      refine r_aload_n (x := 0) dL_law_737 rfl ?_
      refine r_roload_n (x := 0) dL_law_738 rfl ?_
      refine r_iload_n (x := l3) dL_law_739 rfl ?_
      refine r_iconst (v := (1 : Int32)) dL_law_740 rfl ?_
      refine r_iadd dL_law_741 ?_
      refine r_scload dL_law_742 ?_
      refine r_roload_n (x := 0) dL_law_743 rfl ?_
      refine r_iload_n (x := l3) dL_law_744 rfl ?_
      refine r_iconst (v := (2 : Int32)) dL_law_745 rfl ?_
      refine r_iadd dL_law_746 ?_
      refine r_scload dL_law_747 ?_
      refine r_callI (k := 0) (idx := 87) (y := 160) (as := [.ref 0, .int (E.2.1 (l3 + (1 : Int32)).toNatClampNeg), .int (E.2.1 (l3 + (2 : Int32)).toNatClampNeg)]) (rest := []) (L0 := [(0, .ref 0), (1, .int (E.2.1 (l3 + (1 : Int32)).toNatClampNeg)), (2, .int (E.2.1 (l3 + (2 : Int32)).toNatClampNeg))]) dL_law_748 rfl rfl rfl rfl rfl (vok_v (ob_0 hE) rfl) rfl (r_dep (by decide) (e_X11_first hE q (E.2.1 (l3 + (1 : Int32)).toNatClampNeg) (E.2.1 (l3 + (2 : Int32)).toNatClampNeg))) (fun r54 => ?_)
      refine r_pop dL_law_751 rfl ?_
      refine r_aload_n (x := 60) dL_law_752 rfl ?_
      refine r_roload_n (x := 0) dL_law_753 rfl ?_
      refine r_iload_n (x := l3) dL_law_754 rfl ?_
      refine r_iconst (v := (1 : Int32)) dL_law_755 rfl ?_
      refine r_iadd dL_law_756 ?_
      refine r_scload dL_law_757 ?_
      refine r_roload_n (x := 0) dL_law_758 rfl ?_
      refine r_iload_n (x := l3) dL_law_759 rfl ?_
      refine r_iconst (v := (2 : Int32)) dL_law_760 rfl ?_
      refine r_iadd dL_law_761 ?_
      refine r_scload dL_law_762 ?_
      refine r_callI (k := 0) (idx := 90) (y := 253) (as := [.ref 60, .int (E.2.1 (l3 + (1 : Int32)).toNatClampNeg), .int (E.2.1 (l3 + (2 : Int32)).toNatClampNeg)]) (rest := []) (L0 := [(0, .ref 60), (1, .int (E.2.1 (l3 + (1 : Int32)).toNatClampNeg)), (2, .int (E.2.1 (l3 + (2 : Int32)).toNatClampNeg))]) dL_law_763 rfl rfl rfl rfl rfl (vok_v (ob_60 hE) rfl) rfl (r_dep (by decide) (e_X12_first hE r54.2 (E.2.1 (l3 + (1 : Int32)).toNatClampNeg) (E.2.1 (l3 + (2 : Int32)).toNatClampNeg))) (fun r55 => ?_)
      refine r_pop dL_law_766 rfl ?_
      refine r_goto (t := 1512) dL_law_767 rfl ?_
      exact r_sub (L' := [(0, .retAddr 0), (1, .ref 0), (2, .ref 60), (3, .int l3)]) (sub_c rfl (sub_c rfl (sub_c rfl (sub_c rfl sub_n)))) (rb_L_law_1512 hE hrec_18 r55.2 l3)
    refine r_sw1 (fun h56 => ?_) (fun h56 => ?_)
    · refine r_jmp (t := 770) dL_law_33 rfl (by rw [h56]; rfl) ?_
      refine r_aload_n (x := 0) dL_law_770 rfl ?_
      refine r_roload_n (x := 0) dL_law_771 rfl ?_
      refine r_iload_n (x := l3) dL_law_772 rfl ?_
      refine r_iconst (v := (1 : Int32)) dL_law_773 rfl ?_
      refine r_iadd dL_law_774 ?_
      refine r_scload dL_law_775 ?_
      refine r_roload_n (x := 0) dL_law_776 rfl ?_
      refine r_iload_n (x := l3) dL_law_777 rfl ?_
      refine r_iconst (v := (2 : Int32)) dL_law_778 rfl ?_
      refine r_iadd dL_law_779 ?_
      refine r_scload dL_law_780 ?_
      refine r_roload_n (x := 0) dL_law_781 rfl ?_
      refine r_iload_n (x := l3) dL_law_782 rfl ?_
      refine r_iconst (v := (3 : Int32)) dL_law_783 rfl ?_
      refine r_iadd dL_law_784 ?_
      refine r_scload dL_law_785 ?_
      refine r_callI (k := 0) (idx := 91) (y := 161) (as := [.ref 0, .int (E.2.1 (l3 + (1 : Int32)).toNatClampNeg), .int (E.2.1 (l3 + (2 : Int32)).toNatClampNeg), .int (E.2.1 (l3 + (3 : Int32)).toNatClampNeg)]) (rest := []) (L0 := [(0, .ref 0), (1, .int (E.2.1 (l3 + (1 : Int32)).toNatClampNeg)), (2, .int (E.2.1 (l3 + (2 : Int32)).toNatClampNeg)), (3, .int (E.2.1 (l3 + (3 : Int32)).toNatClampNeg))]) dL_law_786 rfl rfl rfl rfl rfl (vok_v (ob_0 hE) rfl) rfl (r_dep (by decide) (e_X11_hire hE q (E.2.1 (l3 + (1 : Int32)).toNatClampNeg) (E.2.1 (l3 + (2 : Int32)).toNatClampNeg) (E.2.1 (l3 + (3 : Int32)).toNatClampNeg))) (fun r57 => ?_)
      refine r_pop dL_law_789 rfl ?_
      refine r_aload_n (x := 60) dL_law_790 rfl ?_
      refine r_roload_n (x := 0) dL_law_791 rfl ?_
      refine r_iload_n (x := l3) dL_law_792 rfl ?_
      refine r_iconst (v := (1 : Int32)) dL_law_793 rfl ?_
      refine r_iadd dL_law_794 ?_
      refine r_scload dL_law_795 ?_
      refine r_roload_n (x := 0) dL_law_796 rfl ?_
      refine r_iload_n (x := l3) dL_law_797 rfl ?_
      refine r_iconst (v := (2 : Int32)) dL_law_798 rfl ?_
      refine r_iadd dL_law_799 ?_
      refine r_scload dL_law_800 ?_
      refine r_roload_n (x := 0) dL_law_801 rfl ?_
      refine r_iload_n (x := l3) dL_law_802 rfl ?_
      refine r_iconst (v := (3 : Int32)) dL_law_803 rfl ?_
      refine r_iadd dL_law_804 ?_
      refine r_scload dL_law_805 ?_
      refine r_callI (k := 0) (idx := 94) (y := 254) (as := [.ref 60, .int (E.2.1 (l3 + (1 : Int32)).toNatClampNeg), .int (E.2.1 (l3 + (2 : Int32)).toNatClampNeg), .int (E.2.1 (l3 + (3 : Int32)).toNatClampNeg)]) (rest := []) (L0 := [(0, .ref 60), (1, .int (E.2.1 (l3 + (1 : Int32)).toNatClampNeg)), (2, .int (E.2.1 (l3 + (2 : Int32)).toNatClampNeg)), (3, .int (E.2.1 (l3 + (3 : Int32)).toNatClampNeg))]) dL_law_806 rfl rfl rfl rfl rfl (vok_v (ob_60 hE) rfl) rfl (r_dep (by decide) (e_X12_hire hE r57.2 (E.2.1 (l3 + (1 : Int32)).toNatClampNeg) (E.2.1 (l3 + (2 : Int32)).toNatClampNeg) (E.2.1 (l3 + (3 : Int32)).toNatClampNeg))) (fun r58 => ?_)
      refine r_pop dL_law_809 rfl ?_
      refine r_goto (t := 1512) dL_law_810 rfl ?_
      exact r_sub (L' := [(0, .retAddr 0), (1, .ref 0), (2, .ref 60), (3, .int l3)]) (sub_c rfl (sub_c rfl (sub_c rfl (sub_c rfl sub_n)))) (rb_L_law_1512 hE hrec_18 r58.2 l3)
    refine r_sw1 (fun h59 => ?_) (fun h59 => ?_)
    · refine r_jmp (t := 813) dL_law_33 rfl (by rw [h59]; rfl) ?_
      refine r_aload_n (x := 0) dL_law_813 rfl ?_
      refine r_roload_n (x := 0) dL_law_814 rfl ?_
      refine r_iload_n (x := l3) dL_law_815 rfl ?_
      refine r_iconst (v := (1 : Int32)) dL_law_816 rfl ?_
      refine r_iadd dL_law_817 ?_
      refine r_scload dL_law_818 ?_
      refine r_roload_n (x := 0) dL_law_819 rfl ?_
      refine r_iload_n (x := l3) dL_law_820 rfl ?_
      refine r_iconst (v := (2 : Int32)) dL_law_821 rfl ?_
      refine r_iadd dL_law_822 ?_
      refine r_scload dL_law_823 ?_
      refine r_callI (k := 0) (idx := 95) (y := 163) (as := [.ref 0, .int (E.2.1 (l3 + (1 : Int32)).toNatClampNeg), .int (E.2.1 (l3 + (2 : Int32)).toNatClampNeg)]) (rest := []) (L0 := [(0, .ref 0), (1, .int (E.2.1 (l3 + (1 : Int32)).toNatClampNeg)), (2, .int (E.2.1 (l3 + (2 : Int32)).toNatClampNeg))]) dL_law_824 rfl rfl rfl rfl rfl (vok_v (ob_0 hE) rfl) rfl (r_dep (by decide) (e_X11_friend hE q (E.2.1 (l3 + (1 : Int32)).toNatClampNeg) (E.2.1 (l3 + (2 : Int32)).toNatClampNeg))) (fun r60 => ?_)
      refine r_pop dL_law_827 rfl ?_
      refine r_aload_n (x := 60) dL_law_828 rfl ?_
      refine r_roload_n (x := 0) dL_law_829 rfl ?_
      refine r_iload_n (x := l3) dL_law_830 rfl ?_
      refine r_iconst (v := (1 : Int32)) dL_law_831 rfl ?_
      refine r_iadd dL_law_832 ?_
      refine r_scload dL_law_833 ?_
      refine r_roload_n (x := 0) dL_law_834 rfl ?_
      refine r_iload_n (x := l3) dL_law_835 rfl ?_
      refine r_iconst (v := (2 : Int32)) dL_law_836 rfl ?_
      refine r_iadd dL_law_837 ?_
      refine r_scload dL_law_838 ?_
      refine r_callI (k := 0) (idx := 98) (y := 255) (as := [.ref 60, .int (E.2.1 (l3 + (1 : Int32)).toNatClampNeg), .int (E.2.1 (l3 + (2 : Int32)).toNatClampNeg)]) (rest := []) (L0 := [(0, .ref 60), (1, .int (E.2.1 (l3 + (1 : Int32)).toNatClampNeg)), (2, .int (E.2.1 (l3 + (2 : Int32)).toNatClampNeg))]) dL_law_839 rfl rfl rfl rfl rfl (vok_v (ob_60 hE) rfl) rfl (r_dep (by decide) (e_X12_friend hE r60.2 (E.2.1 (l3 + (1 : Int32)).toNatClampNeg) (E.2.1 (l3 + (2 : Int32)).toNatClampNeg))) (fun r61 => ?_)
      refine r_pop dL_law_842 rfl ?_
      refine r_goto (t := 1512) dL_law_843 rfl ?_
      exact r_sub (L' := [(0, .retAddr 0), (1, .ref 0), (2, .ref 60), (3, .int l3)]) (sub_c rfl (sub_c rfl (sub_c rfl (sub_c rfl sub_n)))) (rb_L_law_1512 hE hrec_18 r61.2 l3)
    refine r_sw1 (fun h62 => ?_) (fun h62 => ?_)
    · refine r_jmp (t := 846) dL_law_33 rfl (by rw [h62]; rfl) ?_
      refine r_aload_n (x := 0) dL_law_846 rfl ?_
      refine r_roload_n (x := 0) dL_law_847 rfl ?_
      refine r_iload_n (x := l3) dL_law_848 rfl ?_
      refine r_iconst (v := (1 : Int32)) dL_law_849 rfl ?_
      refine r_iadd dL_law_850 ?_
      refine r_scload dL_law_851 ?_
      refine r_roload_n (x := 0) dL_law_852 rfl ?_
      refine r_iload_n (x := l3) dL_law_853 rfl ?_
      refine r_iconst (v := (2 : Int32)) dL_law_854 rfl ?_
      refine r_iadd dL_law_855 ?_
      refine r_scload dL_law_856 ?_
      refine r_callI (k := 0) (idx := 99) (y := 164) (as := [.ref 0, .int (E.2.1 (l3 + (1 : Int32)).toNatClampNeg), .int (E.2.1 (l3 + (2 : Int32)).toNatClampNeg)]) (rest := []) (L0 := [(0, .ref 0), (1, .int (E.2.1 (l3 + (1 : Int32)).toNatClampNeg)), (2, .int (E.2.1 (l3 + (2 : Int32)).toNatClampNeg))]) dL_law_857 rfl rfl rfl rfl rfl (vok_v (ob_0 hE) rfl) rfl (r_dep (by decide) (e_X11_share hE q (E.2.1 (l3 + (1 : Int32)).toNatClampNeg) (E.2.1 (l3 + (2 : Int32)).toNatClampNeg))) (fun r63 => ?_)
      refine r_pop dL_law_860 rfl ?_
      refine r_aload_n (x := 60) dL_law_861 rfl ?_
      refine r_roload_n (x := 0) dL_law_862 rfl ?_
      refine r_iload_n (x := l3) dL_law_863 rfl ?_
      refine r_iconst (v := (1 : Int32)) dL_law_864 rfl ?_
      refine r_iadd dL_law_865 ?_
      refine r_scload dL_law_866 ?_
      refine r_roload_n (x := 0) dL_law_867 rfl ?_
      refine r_iload_n (x := l3) dL_law_868 rfl ?_
      refine r_iconst (v := (2 : Int32)) dL_law_869 rfl ?_
      refine r_iadd dL_law_870 ?_
      refine r_scload dL_law_871 ?_
      refine r_callI (k := 0) (idx := 102) (y := 256) (as := [.ref 60, .int (E.2.1 (l3 + (1 : Int32)).toNatClampNeg), .int (E.2.1 (l3 + (2 : Int32)).toNatClampNeg)]) (rest := []) (L0 := [(0, .ref 60), (1, .int (E.2.1 (l3 + (1 : Int32)).toNatClampNeg)), (2, .int (E.2.1 (l3 + (2 : Int32)).toNatClampNeg))]) dL_law_872 rfl rfl rfl rfl rfl (vok_v (ob_60 hE) rfl) rfl (r_dep (by decide) (e_X12_share hE r63.2 (E.2.1 (l3 + (1 : Int32)).toNatClampNeg) (E.2.1 (l3 + (2 : Int32)).toNatClampNeg))) (fun r64 => ?_)
      refine r_pop dL_law_875 rfl ?_
      refine r_goto (t := 1512) dL_law_876 rfl ?_
      exact r_sub (L' := [(0, .retAddr 0), (1, .ref 0), (2, .ref 60), (3, .int l3)]) (sub_c rfl (sub_c rfl (sub_c rfl (sub_c rfl sub_n)))) (rb_L_law_1512 hE hrec_18 r64.2 l3)
    refine r_sw1 (fun h65 => ?_) (fun h65 => ?_)
    · refine r_jmp (t := 879) dL_law_33 rfl (by rw [h65]; rfl) ?_
      refine r_aload_n (x := 0) dL_law_879 rfl ?_
      refine r_callI (k := 0) (idx := 103) (y := 165) (as := [.ref 0]) (rest := []) (L0 := [(0, .ref 0)]) dL_law_880 rfl rfl rfl rfl rfl (vok_v (ob_0 hE) rfl) rfl (r_dep (by decide) (e_X11_half hE q)) (fun r66 => ?_)
      refine r_pop dL_law_883 rfl ?_
      refine r_aload_n (x := 60) dL_law_884 rfl ?_
      refine r_callI (k := 0) (idx := 106) (y := 257) (as := [.ref 60]) (rest := []) (L0 := [(0, .ref 60)]) dL_law_885 rfl rfl rfl rfl rfl (vok_v (ob_60 hE) rfl) rfl (r_dep (by decide) (e_X12_half hE r66.2)) (fun r67 => ?_)
      refine r_pop dL_law_888 rfl ?_
      refine r_goto (t := 1512) dL_law_889 rfl ?_
      exact r_sub (L' := [(0, .retAddr 0), (1, .ref 0), (2, .ref 60), (3, .int l3)]) (sub_c rfl (sub_c rfl (sub_c rfl (sub_c rfl sub_n)))) (rb_L_law_1512 hE hrec_18 r67.2 l3)
    refine r_sw1 (fun h68 => ?_) (fun h68 => ?_)
    · refine r_jmp (t := 892) dL_law_33 rfl (by rw [h68]; rfl) ?_
      refine r_aload_n (x := 0) dL_law_892 rfl ?_
      refine r_roload_n (x := 0) dL_law_893 rfl ?_
      refine r_iload_n (x := l3) dL_law_894 rfl ?_
      refine r_iconst (v := (1 : Int32)) dL_law_895 rfl ?_
      refine r_iadd dL_law_896 ?_
      refine r_scload dL_law_897 ?_
      refine r_roload_n (x := 0) dL_law_898 rfl ?_
      refine r_iload_n (x := l3) dL_law_899 rfl ?_
      refine r_iconst (v := (2 : Int32)) dL_law_900 rfl ?_
      refine r_iadd dL_law_901 ?_
      refine r_scload dL_law_902 ?_
      refine r_roload_n (x := 0) dL_law_903 rfl ?_
      refine r_iload_n (x := l3) dL_law_904 rfl ?_
      refine r_iconst (v := (3 : Int32)) dL_law_905 rfl ?_
      refine r_iadd dL_law_906 ?_
      refine r_scload dL_law_907 ?_
      refine r_callI (k := 0) (idx := 107) (y := 167) (as := [.ref 0, .int (E.2.1 (l3 + (1 : Int32)).toNatClampNeg), .int (E.2.1 (l3 + (2 : Int32)).toNatClampNeg), .int (E.2.1 (l3 + (3 : Int32)).toNatClampNeg)]) (rest := []) (L0 := [(0, .ref 0), (1, .int (E.2.1 (l3 + (1 : Int32)).toNatClampNeg)), (2, .int (E.2.1 (l3 + (2 : Int32)).toNatClampNeg)), (3, .int (E.2.1 (l3 + (3 : Int32)).toNatClampNeg))]) dL_law_908 rfl rfl rfl rfl rfl (vok_v (ob_0 hE) rfl) rfl (r_dep (by decide) (e_X11_behind hE q (E.2.1 (l3 + (1 : Int32)).toNatClampNeg) (E.2.1 (l3 + (2 : Int32)).toNatClampNeg) (E.2.1 (l3 + (3 : Int32)).toNatClampNeg))) (fun r69 => ?_)
      refine r_pop dL_law_911 rfl ?_
      refine r_aload_n (x := 60) dL_law_912 rfl ?_
      refine r_roload_n (x := 0) dL_law_913 rfl ?_
      refine r_iload_n (x := l3) dL_law_914 rfl ?_
      refine r_iconst (v := (1 : Int32)) dL_law_915 rfl ?_
      refine r_iadd dL_law_916 ?_
      refine r_scload dL_law_917 ?_
      refine r_roload_n (x := 0) dL_law_918 rfl ?_
      refine r_iload_n (x := l3) dL_law_919 rfl ?_
      refine r_iconst (v := (2 : Int32)) dL_law_920 rfl ?_
      refine r_iadd dL_law_921 ?_
      refine r_scload dL_law_922 ?_
      refine r_roload_n (x := 0) dL_law_923 rfl ?_
      refine r_iload_n (x := l3) dL_law_924 rfl ?_
      refine r_iconst (v := (3 : Int32)) dL_law_925 rfl ?_
      refine r_iadd dL_law_926 ?_
      refine r_scload dL_law_927 ?_
      refine r_callI (k := 0) (idx := 110) (y := 261) (as := [.ref 60, .int (E.2.1 (l3 + (1 : Int32)).toNatClampNeg), .int (E.2.1 (l3 + (2 : Int32)).toNatClampNeg), .int (E.2.1 (l3 + (3 : Int32)).toNatClampNeg)]) (rest := []) (L0 := [(0, .ref 60), (1, .int (E.2.1 (l3 + (1 : Int32)).toNatClampNeg)), (2, .int (E.2.1 (l3 + (2 : Int32)).toNatClampNeg)), (3, .int (E.2.1 (l3 + (3 : Int32)).toNatClampNeg))]) dL_law_928 rfl rfl rfl rfl rfl (vok_v (ob_60 hE) rfl) rfl (r_dep (by decide) (e_X12_behind hE r69.2 (E.2.1 (l3 + (1 : Int32)).toNatClampNeg) (E.2.1 (l3 + (2 : Int32)).toNatClampNeg) (E.2.1 (l3 + (3 : Int32)).toNatClampNeg))) (fun r70 => ?_)
      refine r_pop dL_law_931 rfl ?_
      refine r_goto (t := 1512) dL_law_932 rfl ?_
      exact r_sub (L' := [(0, .retAddr 0), (1, .ref 0), (2, .ref 60), (3, .int l3)]) (sub_c rfl (sub_c rfl (sub_c rfl (sub_c rfl sub_n)))) (rb_L_law_1512 hE hrec_18 r70.2 l3)
    refine r_sw1 (fun h71 => ?_) (fun h71 => ?_)
    · refine r_jmp (t := 935) dL_law_33 rfl (by rw [h71]; rfl) ?_
      refine r_aload_n (x := 0) dL_law_935 rfl ?_
      refine r_roload_n (x := 0) dL_law_936 rfl ?_
      refine r_iload_n (x := l3) dL_law_937 rfl ?_
      refine r_iconst (v := (1 : Int32)) dL_law_938 rfl ?_
      refine r_iadd dL_law_939 ?_
      refine r_scload dL_law_940 ?_
      refine r_roload_n (x := 0) dL_law_941 rfl ?_
      refine r_iload_n (x := l3) dL_law_942 rfl ?_
      refine r_iconst (v := (2 : Int32)) dL_law_943 rfl ?_
      refine r_iadd dL_law_944 ?_
      refine r_scload dL_law_945 ?_
      refine r_roload_n (x := 0) dL_law_946 rfl ?_
      refine r_iload_n (x := l3) dL_law_947 rfl ?_
      refine r_iconst (v := (3 : Int32)) dL_law_948 rfl ?_
      refine r_iadd dL_law_949 ?_
      refine r_scload dL_law_950 ?_
      refine r_callI (k := 0) (idx := 111) (y := 168) (as := [.ref 0, .int (E.2.1 (l3 + (1 : Int32)).toNatClampNeg), .int (E.2.1 (l3 + (2 : Int32)).toNatClampNeg), .int (E.2.1 (l3 + (3 : Int32)).toNatClampNeg)]) (rest := []) (L0 := [(0, .ref 0), (1, .int (E.2.1 (l3 + (1 : Int32)).toNatClampNeg)), (2, .int (E.2.1 (l3 + (2 : Int32)).toNatClampNeg)), (3, .int (E.2.1 (l3 + (3 : Int32)).toNatClampNeg))]) dL_law_951 rfl rfl rfl rfl rfl (vok_v (ob_0 hE) rfl) rfl (r_dep (by decide) (e_X11_drawn hE q (E.2.1 (l3 + (1 : Int32)).toNatClampNeg) (E.2.1 (l3 + (2 : Int32)).toNatClampNeg) (E.2.1 (l3 + (3 : Int32)).toNatClampNeg))) (fun r72 => ?_)
      refine r_pop dL_law_954 rfl ?_
      refine r_aload_n (x := 60) dL_law_955 rfl ?_
      refine r_roload_n (x := 0) dL_law_956 rfl ?_
      refine r_iload_n (x := l3) dL_law_957 rfl ?_
      refine r_iconst (v := (1 : Int32)) dL_law_958 rfl ?_
      refine r_iadd dL_law_959 ?_
      refine r_scload dL_law_960 ?_
      refine r_roload_n (x := 0) dL_law_961 rfl ?_
      refine r_iload_n (x := l3) dL_law_962 rfl ?_
      refine r_iconst (v := (2 : Int32)) dL_law_963 rfl ?_
      refine r_iadd dL_law_964 ?_
      refine r_scload dL_law_965 ?_
      refine r_roload_n (x := 0) dL_law_966 rfl ?_
      refine r_iload_n (x := l3) dL_law_967 rfl ?_
      refine r_iconst (v := (3 : Int32)) dL_law_968 rfl ?_
      refine r_iadd dL_law_969 ?_
      refine r_scload dL_law_970 ?_
      refine r_callI (k := 0) (idx := 114) (y := 263) (as := [.ref 60, .int (E.2.1 (l3 + (1 : Int32)).toNatClampNeg), .int (E.2.1 (l3 + (2 : Int32)).toNatClampNeg), .int (E.2.1 (l3 + (3 : Int32)).toNatClampNeg)]) (rest := []) (L0 := [(0, .ref 60), (1, .int (E.2.1 (l3 + (1 : Int32)).toNatClampNeg)), (2, .int (E.2.1 (l3 + (2 : Int32)).toNatClampNeg)), (3, .int (E.2.1 (l3 + (3 : Int32)).toNatClampNeg))]) dL_law_971 rfl rfl rfl rfl rfl (vok_v (ob_60 hE) rfl) rfl (r_dep (by decide) (e_X12_drawn hE r72.2 (E.2.1 (l3 + (1 : Int32)).toNatClampNeg) (E.2.1 (l3 + (2 : Int32)).toNatClampNeg) (E.2.1 (l3 + (3 : Int32)).toNatClampNeg))) (fun r73 => ?_)
      refine r_pop dL_law_974 rfl ?_
      refine r_goto (t := 1512) dL_law_975 rfl ?_
      exact r_sub (L' := [(0, .retAddr 0), (1, .ref 0), (2, .ref 60), (3, .int l3)]) (sub_c rfl (sub_c rfl (sub_c rfl (sub_c rfl sub_n)))) (rb_L_law_1512 hE hrec_18 r73.2 l3)
    refine r_sw1 (fun h74 => ?_) (fun h74 => ?_)
    · refine r_jmp (t := 978) dL_law_33 rfl (by rw [h74]; rfl) ?_
      refine r_aload_n (x := 0) dL_law_978 rfl ?_
      refine r_roload_n (x := 0) dL_law_979 rfl ?_
      refine r_iload_n (x := l3) dL_law_980 rfl ?_
      refine r_iconst (v := (1 : Int32)) dL_law_981 rfl ?_
      refine r_iadd dL_law_982 ?_
      refine r_scload dL_law_983 ?_
      refine r_roload_n (x := 0) dL_law_984 rfl ?_
      refine r_iload_n (x := l3) dL_law_985 rfl ?_
      refine r_iconst (v := (2 : Int32)) dL_law_986 rfl ?_
      refine r_iadd dL_law_987 ?_
      refine r_scload dL_law_988 ?_
      refine r_callI (k := 0) (idx := 115) (y := 170) (as := [.ref 0, .int (E.2.1 (l3 + (1 : Int32)).toNatClampNeg), .int (E.2.1 (l3 + (2 : Int32)).toNatClampNeg)]) (rest := []) (L0 := [(0, .ref 0), (1, .int (E.2.1 (l3 + (1 : Int32)).toNatClampNeg)), (2, .int (E.2.1 (l3 + (2 : Int32)).toNatClampNeg))]) dL_law_989 rfl rfl rfl rfl rfl (vok_v (ob_0 hE) rfl) rfl (r_dep (by decide) (e_X11_slip hE q (E.2.1 (l3 + (1 : Int32)).toNatClampNeg) (E.2.1 (l3 + (2 : Int32)).toNatClampNeg))) (fun r75 => ?_)
      refine r_pop dL_law_992 rfl ?_
      refine r_aload_n (x := 60) dL_law_993 rfl ?_
      refine r_roload_n (x := 0) dL_law_994 rfl ?_
      refine r_iload_n (x := l3) dL_law_995 rfl ?_
      refine r_iconst (v := (1 : Int32)) dL_law_996 rfl ?_
      refine r_iadd dL_law_997 ?_
      refine r_scload dL_law_998 ?_
      refine r_roload_n (x := 0) dL_law_999 rfl ?_
      refine r_iload_n (x := l3) dL_law_1000 rfl ?_
      refine r_iconst (v := (2 : Int32)) dL_law_1001 rfl ?_
      refine r_iadd dL_law_1002 ?_
      refine r_scload dL_law_1003 ?_
      refine r_callI (k := 0) (idx := 118) (y := 264) (as := [.ref 60, .int (E.2.1 (l3 + (1 : Int32)).toNatClampNeg), .int (E.2.1 (l3 + (2 : Int32)).toNatClampNeg)]) (rest := []) (L0 := [(0, .ref 60), (1, .int (E.2.1 (l3 + (1 : Int32)).toNatClampNeg)), (2, .int (E.2.1 (l3 + (2 : Int32)).toNatClampNeg))]) dL_law_1004 rfl rfl rfl rfl rfl (vok_v (ob_60 hE) rfl) rfl (r_dep (by decide) (e_X12_slip hE r75.2 (E.2.1 (l3 + (1 : Int32)).toNatClampNeg) (E.2.1 (l3 + (2 : Int32)).toNatClampNeg))) (fun r76 => ?_)
      refine r_pop dL_law_1007 rfl ?_
      refine r_goto (t := 1512) dL_law_1008 rfl ?_
      exact r_sub (L' := [(0, .retAddr 0), (1, .ref 0), (2, .ref 60), (3, .int l3)]) (sub_c rfl (sub_c rfl (sub_c rfl (sub_c rfl sub_n)))) (rb_L_law_1512 hE hrec_18 r76.2 l3)
    refine r_sw1 (fun h77 => ?_) (fun h77 => ?_)
    · refine r_jmp (t := 1011) dL_law_33 rfl (by rw [h77]; rfl) ?_
      refine r_aload_n (x := 0) dL_law_1011 rfl ?_
      refine r_roload_n (x := 0) dL_law_1012 rfl ?_
      refine r_iload_n (x := l3) dL_law_1013 rfl ?_
      refine r_iconst (v := (1 : Int32)) dL_law_1014 rfl ?_
      refine r_iadd dL_law_1015 ?_
      refine r_scload dL_law_1016 ?_
      refine r_callI (k := 0) (idx := 119) (y := 171) (as := [.ref 0, .int (E.2.1 (l3 + (1 : Int32)).toNatClampNeg)]) (rest := []) (L0 := [(0, .ref 0), (1, .int (E.2.1 (l3 + (1 : Int32)).toNatClampNeg))]) dL_law_1017 rfl rfl rfl rfl rfl (vok_v (ob_0 hE) rfl) rfl (r_dep (by decide) (e_X11_fold hE q (E.2.1 (l3 + (1 : Int32)).toNatClampNeg))) (fun r78 => ?_)
      refine r_pop dL_law_1020 rfl ?_
      refine r_aload_n (x := 60) dL_law_1021 rfl ?_
      refine r_roload_n (x := 0) dL_law_1022 rfl ?_
      refine r_iload_n (x := l3) dL_law_1023 rfl ?_
      refine r_iconst (v := (1 : Int32)) dL_law_1024 rfl ?_
      refine r_iadd dL_law_1025 ?_
      refine r_scload dL_law_1026 ?_
      refine r_callI (k := 0) (idx := 122) (y := 265) (as := [.ref 60, .int (E.2.1 (l3 + (1 : Int32)).toNatClampNeg)]) (rest := []) (L0 := [(0, .ref 60), (1, .int (E.2.1 (l3 + (1 : Int32)).toNatClampNeg))]) dL_law_1027 rfl rfl rfl rfl rfl (vok_v (ob_60 hE) rfl) rfl (r_dep (by decide) (e_X12_fold hE r78.2 (E.2.1 (l3 + (1 : Int32)).toNatClampNeg))) (fun r79 => ?_)
      refine r_pop dL_law_1030 rfl ?_
      refine r_goto (t := 1512) dL_law_1031 rfl ?_
      exact r_sub (L' := [(0, .retAddr 0), (1, .ref 0), (2, .ref 60), (3, .int l3)]) (sub_c rfl (sub_c rfl (sub_c rfl (sub_c rfl sub_n)))) (rb_L_law_1512 hE hrec_18 r79.2 l3)
    refine r_sw1 (fun h80 => ?_) (fun h80 => ?_)
    · refine r_jmp (t := 1034) dL_law_33 rfl (by rw [h80]; rfl) ?_
      refine r_aload_n (x := 0) dL_law_1034 rfl ?_
      refine r_callI (k := 0) (idx := 123) (y := 172) (as := [.ref 0]) (rest := []) (L0 := [(0, .ref 0)]) dL_law_1035 rfl rfl rfl rfl rfl (vok_v (ob_0 hE) rfl) rfl (r_dep (by decide) (e_X11_hour hE q)) (fun r81 => ?_)
      refine r_pop dL_law_1038 rfl ?_
      refine r_aload_n (x := 60) dL_law_1039 rfl ?_
      refine r_callI (k := 0) (idx := 126) (y := 266) (as := [.ref 60]) (rest := []) (L0 := [(0, .ref 60)]) dL_law_1040 rfl rfl rfl rfl rfl (vok_v (ob_60 hE) rfl) rfl (r_dep (by decide) (e_X12_hour hE r81.2)) (fun r82 => ?_)
      refine r_pop dL_law_1043 rfl ?_
      refine r_goto (t := 1512) dL_law_1044 rfl ?_
      exact r_sub (L' := [(0, .retAddr 0), (1, .ref 0), (2, .ref 60), (3, .int l3)]) (sub_c rfl (sub_c rfl (sub_c rfl (sub_c rfl sub_n)))) (rb_L_law_1512 hE hrec_18 r82.2 l3)
    refine r_sw1 (fun h83 => ?_) (fun h83 => ?_)
    · refine r_jmp (t := 1047) dL_law_33 rfl (by rw [h83]; rfl) ?_
      refine r_aload_n (x := 0) dL_law_1047 rfl ?_
      refine r_roload_n (x := 0) dL_law_1048 rfl ?_
      refine r_iload_n (x := l3) dL_law_1049 rfl ?_
      refine r_iconst (v := (1 : Int32)) dL_law_1050 rfl ?_
      refine r_iadd dL_law_1051 ?_
      refine r_scload dL_law_1052 ?_
      refine r_calli (k := 0) (idx := 127) (y := 173) (as := [.ref 0, .int (E.2.1 (l3 + (1 : Int32)).toNatClampNeg)]) (rest := []) (L0 := [(0, .ref 0), (1, .int (E.2.1 (l3 + (1 : Int32)).toNatClampNeg))]) dL_law_1053 rfl rfl rfl rfl rfl (vok_v (ob_0 hE) rfl) rfl (r_dep (by decide) (e_X11_led hE q (E.2.1 (l3 + (1 : Int32)).toNatClampNeg))) (fun r84 => ?_)
      refine r_pop dL_law_1056 rfl ?_
      refine r_aload_n (x := 60) dL_law_1057 rfl ?_
      refine r_roload_n (x := 0) dL_law_1058 rfl ?_
      refine r_iload_n (x := l3) dL_law_1059 rfl ?_
      refine r_iconst (v := (1 : Int32)) dL_law_1060 rfl ?_
      refine r_iadd dL_law_1061 ?_
      refine r_scload dL_law_1062 ?_
      refine r_calli (k := 0) (idx := 130) (y := 267) (as := [.ref 60, .int (E.2.1 (l3 + (1 : Int32)).toNatClampNeg)]) (rest := []) (L0 := [(0, .ref 60), (1, .int (E.2.1 (l3 + (1 : Int32)).toNatClampNeg))]) dL_law_1063 rfl rfl rfl rfl rfl (vok_v (ob_60 hE) rfl) rfl (r_dep (by decide) (e_X12_led hE q (E.2.1 (l3 + (1 : Int32)).toNatClampNeg))) (fun r85 => ?_)
      refine r_pop dL_law_1066 rfl ?_
      refine r_goto (t := 1512) dL_law_1067 rfl ?_
      exact r_sub (L' := [(0, .retAddr 0), (1, .ref 0), (2, .ref 60), (3, .int l3)]) (sub_c rfl (sub_c rfl (sub_c rfl (sub_c rfl sub_n)))) (rb_L_law_1512 hE hrec_18 q l3)
    refine r_sw1 (fun h86 => ?_) (fun h86 => ?_)
    · refine r_jmp (t := 1070) dL_law_33 rfl (by rw [h86]; rfl) ?_
      refine r_aload_n (x := 0) dL_law_1070 rfl ?_
      refine r_callI (k := 0) (idx := 131) (y := 174) (as := [.ref 0]) (rest := []) (L0 := [(0, .ref 0)]) dL_law_1071 rfl rfl rfl rfl rfl (vok_v (ob_0 hE) rfl) rfl (r_dep (by decide) (e_X11_image hE q)) (fun r87 => ?_)
      refine r_pop dL_law_1074 rfl ?_
      refine r_aload_n (x := 60) dL_law_1075 rfl ?_
      refine r_callI (k := 0) (idx := 134) (y := 268) (as := [.ref 60]) (rest := []) (L0 := [(0, .ref 60)]) dL_law_1076 rfl rfl rfl rfl rfl (vok_v (ob_60 hE) rfl) rfl (r_dep (by decide) (e_X12_image hE r87.2)) (fun r88 => ?_)
      refine r_pop dL_law_1079 rfl ?_
      refine r_goto (t := 1512) dL_law_1080 rfl ?_
      exact r_sub (L' := [(0, .retAddr 0), (1, .ref 0), (2, .ref 60), (3, .int l3)]) (sub_c rfl (sub_c rfl (sub_c rfl (sub_c rfl sub_n)))) (rb_L_law_1512 hE hrec_18 r88.2 l3)
    refine r_sw1 (fun h89 => ?_) (fun h89 => ?_)
    · refine r_jmp (t := 1083) dL_law_33 rfl (by rw [h89]; rfl) ?_
      refine r_aload_n (x := 0) dL_law_1083 rfl ?_
      refine r_callI (k := 0) (idx := 135) (y := 175) (as := [.ref 0]) (rest := []) (L0 := [(0, .ref 0)]) dL_law_1084 rfl rfl rfl rfl rfl (vok_v (ob_0 hE) rfl) rfl (r_dep (by decide) (e_X11_back hE q)) (fun r90 => ?_)
      refine r_pop dL_law_1087 rfl ?_
      refine r_aload_n (x := 60) dL_law_1088 rfl ?_
      refine r_callI (k := 0) (idx := 138) (y := 269) (as := [.ref 60]) (rest := []) (L0 := [(0, .ref 60)]) dL_law_1089 rfl rfl rfl rfl rfl (vok_v (ob_60 hE) rfl) rfl (r_dep (by decide) (e_X12_back hE r90.2)) (fun r91 => ?_)
      refine r_pop dL_law_1092 rfl ?_
      refine r_goto (t := 1512) dL_law_1093 rfl ?_
      exact r_sub (L' := [(0, .retAddr 0), (1, .ref 0), (2, .ref 60), (3, .int l3)]) (sub_c rfl (sub_c rfl (sub_c rfl (sub_c rfl sub_n)))) (rb_L_law_1512 hE hrec_18 r91.2 l3)
    refine r_sw1 (fun h92 => ?_) (fun h92 => ?_)
    · refine r_jmp (t := 1096) dL_law_33 rfl (by rw [h92]; rfl) ?_
      refine r_aload_n (x := 0) dL_law_1096 rfl ?_
      refine r_callI (k := 0) (idx := 139) (y := 176) (as := [.ref 0]) (rest := []) (L0 := [(0, .ref 0)]) dL_law_1097 rfl rfl rfl rfl rfl (vok_v (ob_0 hE) rfl) rfl (r_dep (by decide) (e_X11_undo hE q)) (fun r93 => ?_)
      refine r_pop dL_law_1100 rfl ?_
      refine r_aload_n (x := 60) dL_law_1101 rfl ?_
      refine r_callI (k := 0) (idx := 142) (y := 201) (as := [.ref 60]) (rest := []) (L0 := [(0, .ref 60)]) dL_law_1102 rfl rfl rfl rfl rfl (vok_v (ob_60 hE) rfl) rfl (r_dep (by decide) (e_X12_undo hE r93.2)) (fun r94 => ?_)
      refine r_pop dL_law_1105 rfl ?_
      refine r_goto (t := 1512) dL_law_1106 rfl ?_
      exact r_sub (L' := [(0, .retAddr 0), (1, .ref 0), (2, .ref 60), (3, .int l3)]) (sub_c rfl (sub_c rfl (sub_c rfl (sub_c rfl sub_n)))) (rb_L_law_1512 hE hrec_18 r94.2 l3)
    refine r_sw1 (fun h95 => ?_) (fun h95 => ?_)
    · refine r_jmp (t := 1109) dL_law_33 rfl (by rw [h95]; rfl) ?_
      refine r_aload_n (x := 0) dL_law_1109 rfl ?_
      refine r_callI (k := 0) (idx := 143) (y := 177) (as := [.ref 0]) (rest := []) (L0 := [(0, .ref 0)]) dL_law_1110 rfl rfl rfl rfl rfl (vok_v (ob_0 hE) rfl) rfl (r_dep (by decide) (e_X11_redo hE q)) (fun r96 => ?_)
      refine r_pop dL_law_1113 rfl ?_
      refine r_aload_n (x := 60) dL_law_1114 rfl ?_
      refine r_callI (k := 0) (idx := 146) (y := 202) (as := [.ref 60]) (rest := []) (L0 := [(0, .ref 60)]) dL_law_1115 rfl rfl rfl rfl rfl (vok_v (ob_60 hE) rfl) rfl (r_dep (by decide) (e_X12_redo hE r96.2)) (fun r97 => ?_)
      refine r_pop dL_law_1118 rfl ?_
      refine r_goto (t := 1512) dL_law_1119 rfl ?_
      exact r_sub (L' := [(0, .retAddr 0), (1, .ref 0), (2, .ref 60), (3, .int l3)]) (sub_c rfl (sub_c rfl (sub_c rfl (sub_c rfl sub_n)))) (rb_L_law_1512 hE hrec_18 r97.2 l3)
    refine r_sw1 (fun h98 => ?_) (fun h98 => ?_)
    · refine r_jmp (t := 1122) dL_law_33 rfl (by rw [h98]; rfl) ?_
      refine r_aload_n (x := 0) dL_law_1122 rfl ?_
      refine r_roload_n (x := 0) dL_law_1123 rfl ?_
      refine r_iload_n (x := l3) dL_law_1124 rfl ?_
      refine r_iconst (v := (1 : Int32)) dL_law_1125 rfl ?_
      refine r_iadd dL_law_1126 ?_
      refine r_scload dL_law_1127 ?_
      refine r_callI (k := 0) (idx := 147) (y := 178) (as := [.ref 0, .int (E.2.1 (l3 + (1 : Int32)).toNatClampNeg)]) (rest := []) (L0 := [(0, .ref 0), (1, .int (E.2.1 (l3 + (1 : Int32)).toNatClampNeg))]) dL_law_1128 rfl rfl rfl rfl rfl (vok_v (ob_0 hE) rfl) rfl (r_dep (by decide) (e_X11_body hE q (E.2.1 (l3 + (1 : Int32)).toNatClampNeg))) (fun r99 => ?_)
      refine r_pop dL_law_1131 rfl ?_
      refine r_aload_n (x := 60) dL_law_1132 rfl ?_
      refine r_roload_n (x := 0) dL_law_1133 rfl ?_
      refine r_iload_n (x := l3) dL_law_1134 rfl ?_
      refine r_iconst (v := (1 : Int32)) dL_law_1135 rfl ?_
      refine r_iadd dL_law_1136 ?_
      refine r_scload dL_law_1137 ?_
      refine r_callI (k := 0) (idx := 150) (y := 273) (as := [.ref 60, .int (E.2.1 (l3 + (1 : Int32)).toNatClampNeg)]) (rest := []) (L0 := [(0, .ref 60), (1, .int (E.2.1 (l3 + (1 : Int32)).toNatClampNeg))]) dL_law_1138 rfl rfl rfl rfl rfl (vok_v (ob_60 hE) rfl) rfl (r_dep (by decide) (e_X12_body hE r99.2 (E.2.1 (l3 + (1 : Int32)).toNatClampNeg))) (fun r100 => ?_)
      refine r_pop dL_law_1141 rfl ?_
      refine r_goto (t := 1512) dL_law_1142 rfl ?_
      exact r_sub (L' := [(0, .retAddr 0), (1, .ref 0), (2, .ref 60), (3, .int l3)]) (sub_c rfl (sub_c rfl (sub_c rfl (sub_c rfl sub_n)))) (rb_L_law_1512 hE hrec_18 r100.2 l3)
    refine r_sw1 (fun h101 => ?_) (fun h101 => ?_)
    · refine r_jmp (t := 1145) dL_law_33 rfl (by rw [h101]; rfl) ?_
      refine r_aload_n (x := 0) dL_law_1145 rfl ?_
      refine r_roload_n (x := 0) dL_law_1146 rfl ?_
      refine r_iload_n (x := l3) dL_law_1147 rfl ?_
      refine r_iconst (v := (1 : Int32)) dL_law_1148 rfl ?_
      refine r_iadd dL_law_1149 ?_
      refine r_scload dL_law_1150 ?_
      refine r_roload_n (x := 0) dL_law_1151 rfl ?_
      refine r_iload_n (x := l3) dL_law_1152 rfl ?_
      refine r_iconst (v := (2 : Int32)) dL_law_1153 rfl ?_
      refine r_iadd dL_law_1154 ?_
      refine r_scload dL_law_1155 ?_
      refine r_roload_n (x := 0) dL_law_1156 rfl ?_
      refine r_iload_n (x := l3) dL_law_1157 rfl ?_
      refine r_iconst (v := (3 : Int32)) dL_law_1158 rfl ?_
      refine r_iadd dL_law_1159 ?_
      refine r_scload dL_law_1160 ?_
      refine r_callI (k := 0) (idx := 151) (y := 179) (as := [.ref 0, .int (E.2.1 (l3 + (1 : Int32)).toNatClampNeg), .int (E.2.1 (l3 + (2 : Int32)).toNatClampNeg), .int (E.2.1 (l3 + (3 : Int32)).toNatClampNeg)]) (rest := []) (L0 := [(0, .ref 0), (1, .int (E.2.1 (l3 + (1 : Int32)).toNatClampNeg)), (2, .int (E.2.1 (l3 + (2 : Int32)).toNatClampNeg)), (3, .int (E.2.1 (l3 + (3 : Int32)).toNatClampNeg))]) dL_law_1161 rfl rfl rfl rfl rfl (vok_v (ob_0 hE) rfl) rfl (r_dep (by decide) (e_X11_act hE q (E.2.1 (l3 + (1 : Int32)).toNatClampNeg) (E.2.1 (l3 + (2 : Int32)).toNatClampNeg) (E.2.1 (l3 + (3 : Int32)).toNatClampNeg))) (fun r102 => ?_)
      refine r_pop dL_law_1164 rfl ?_
      refine r_aload_n (x := 60) dL_law_1165 rfl ?_
      refine r_roload_n (x := 0) dL_law_1166 rfl ?_
      refine r_iload_n (x := l3) dL_law_1167 rfl ?_
      refine r_iconst (v := (1 : Int32)) dL_law_1168 rfl ?_
      refine r_iadd dL_law_1169 ?_
      refine r_scload dL_law_1170 ?_
      refine r_roload_n (x := 0) dL_law_1171 rfl ?_
      refine r_iload_n (x := l3) dL_law_1172 rfl ?_
      refine r_iconst (v := (2 : Int32)) dL_law_1173 rfl ?_
      refine r_iadd dL_law_1174 ?_
      refine r_scload dL_law_1175 ?_
      refine r_roload_n (x := 0) dL_law_1176 rfl ?_
      refine r_iload_n (x := l3) dL_law_1177 rfl ?_
      refine r_iconst (v := (3 : Int32)) dL_law_1178 rfl ?_
      refine r_iadd dL_law_1179 ?_
      refine r_scload dL_law_1180 ?_
      refine r_callI (k := 0) (idx := 154) (y := 286) (as := [.ref 60, .int (E.2.1 (l3 + (1 : Int32)).toNatClampNeg), .int (E.2.1 (l3 + (2 : Int32)).toNatClampNeg), .int (E.2.1 (l3 + (3 : Int32)).toNatClampNeg)]) (rest := []) (L0 := [(0, .ref 60), (1, .int (E.2.1 (l3 + (1 : Int32)).toNatClampNeg)), (2, .int (E.2.1 (l3 + (2 : Int32)).toNatClampNeg)), (3, .int (E.2.1 (l3 + (3 : Int32)).toNatClampNeg))]) dL_law_1181 rfl rfl rfl rfl rfl (vok_v (ob_60 hE) rfl) rfl (r_dep (by decide) (e_X12_act hE r102.2 (E.2.1 (l3 + (1 : Int32)).toNatClampNeg) (E.2.1 (l3 + (2 : Int32)).toNatClampNeg) (E.2.1 (l3 + (3 : Int32)).toNatClampNeg))) (fun r103 => ?_)
      refine r_pop dL_law_1184 rfl ?_
      refine r_goto (t := 1512) dL_law_1185 rfl ?_
      exact r_sub (L' := [(0, .retAddr 0), (1, .ref 0), (2, .ref 60), (3, .int l3)]) (sub_c rfl (sub_c rfl (sub_c rfl (sub_c rfl sub_n)))) (rb_L_law_1512 hE hrec_18 r103.2 l3)
    refine r_sw1 (fun h104 => ?_) (fun h104 => ?_)
    · refine r_jmp (t := 1188) dL_law_33 rfl (by rw [h104]; rfl) ?_
      refine r_aload_n (x := 0) dL_law_1188 rfl ?_
      refine r_roload_n (x := 0) dL_law_1189 rfl ?_
      refine r_iload_n (x := l3) dL_law_1190 rfl ?_
      refine r_iconst (v := (1 : Int32)) dL_law_1191 rfl ?_
      refine r_iadd dL_law_1192 ?_
      refine r_scload dL_law_1193 ?_
      refine r_calli (k := 0) (idx := 155) (y := 180) (as := [.ref 0, .int (E.2.1 (l3 + (1 : Int32)).toNatClampNeg)]) (rest := []) (L0 := [(0, .ref 0), (1, .int (E.2.1 (l3 + (1 : Int32)).toNatClampNeg))]) dL_law_1194 rfl rfl rfl rfl rfl (vok_v (ob_0 hE) rfl) rfl (r_dep (by decide) (e_X11_trace hE q (E.2.1 (l3 + (1 : Int32)).toNatClampNeg))) (fun r105 => ?_)
      refine r_pop dL_law_1197 rfl ?_
      refine r_aload_n (x := 60) dL_law_1198 rfl ?_
      refine r_roload_n (x := 0) dL_law_1199 rfl ?_
      refine r_iload_n (x := l3) dL_law_1200 rfl ?_
      refine r_iconst (v := (1 : Int32)) dL_law_1201 rfl ?_
      refine r_iadd dL_law_1202 ?_
      refine r_scload dL_law_1203 ?_
      refine r_calli (k := 0) (idx := 158) (y := 272) (as := [.ref 60, .int (E.2.1 (l3 + (1 : Int32)).toNatClampNeg)]) (rest := []) (L0 := [(0, .ref 60), (1, .int (E.2.1 (l3 + (1 : Int32)).toNatClampNeg))]) dL_law_1204 rfl rfl rfl rfl rfl (vok_v (ob_60 hE) rfl) rfl (r_dep (by decide) (e_X12_trace hE q (E.2.1 (l3 + (1 : Int32)).toNatClampNeg))) (fun r106 => ?_)
      refine r_pop dL_law_1207 rfl ?_
      refine r_goto (t := 1512) dL_law_1208 rfl ?_
      exact r_sub (L' := [(0, .retAddr 0), (1, .ref 0), (2, .ref 60), (3, .int l3)]) (sub_c rfl (sub_c rfl (sub_c rfl (sub_c rfl sub_n)))) (rb_L_law_1512 hE hrec_18 q l3)
    refine r_sw1 (fun h107 => ?_) (fun h107 => ?_)
    · refine r_jmp (t := 1211) dL_law_33 rfl (by rw [h107]; rfl) ?_
      refine r_aload_n (x := 0) dL_law_1211 rfl ?_
      refine r_roload_n (x := 0) dL_law_1212 rfl ?_
      refine r_iload_n (x := l3) dL_law_1213 rfl ?_
      refine r_iconst (v := (1 : Int32)) dL_law_1214 rfl ?_
      refine r_iadd dL_law_1215 ?_
      refine r_scload dL_law_1216 ?_
      refine r_roload_n (x := 0) dL_law_1217 rfl ?_
      refine r_iload_n (x := l3) dL_law_1218 rfl ?_
      refine r_iconst (v := (2 : Int32)) dL_law_1219 rfl ?_
      refine r_iadd dL_law_1220 ?_
      refine r_scload dL_law_1221 ?_
      refine r_callI (k := 0) (idx := 159) (y := 181) (as := [.ref 0, .int (E.2.1 (l3 + (1 : Int32)).toNatClampNeg), .int (E.2.1 (l3 + (2 : Int32)).toNatClampNeg)]) (rest := []) (L0 := [(0, .ref 0), (1, .int (E.2.1 (l3 + (1 : Int32)).toNatClampNeg)), (2, .int (E.2.1 (l3 + (2 : Int32)).toNatClampNeg))]) dL_law_1222 rfl rfl rfl rfl rfl (vok_v (ob_0 hE) rfl) rfl (r_dep (by decide) (e_X11_keep hE q (E.2.1 (l3 + (1 : Int32)).toNatClampNeg) (E.2.1 (l3 + (2 : Int32)).toNatClampNeg))) (fun r108 => ?_)
      refine r_pop dL_law_1225 rfl ?_
      refine r_aload_n (x := 60) dL_law_1226 rfl ?_
      refine r_roload_n (x := 0) dL_law_1227 rfl ?_
      refine r_iload_n (x := l3) dL_law_1228 rfl ?_
      refine r_iconst (v := (1 : Int32)) dL_law_1229 rfl ?_
      refine r_iadd dL_law_1230 ?_
      refine r_scload dL_law_1231 ?_
      refine r_roload_n (x := 0) dL_law_1232 rfl ?_
      refine r_iload_n (x := l3) dL_law_1233 rfl ?_
      refine r_iconst (v := (2 : Int32)) dL_law_1234 rfl ?_
      refine r_iadd dL_law_1235 ?_
      refine r_scload dL_law_1236 ?_
      refine r_callI (k := 0) (idx := 162) (y := 289) (as := [.ref 60, .int (E.2.1 (l3 + (1 : Int32)).toNatClampNeg), .int (E.2.1 (l3 + (2 : Int32)).toNatClampNeg)]) (rest := []) (L0 := [(0, .ref 60), (1, .int (E.2.1 (l3 + (1 : Int32)).toNatClampNeg)), (2, .int (E.2.1 (l3 + (2 : Int32)).toNatClampNeg))]) dL_law_1237 rfl rfl rfl rfl rfl (vok_v (ob_60 hE) rfl) rfl (r_dep (by decide) (e_X12_keep hE r108.2 (E.2.1 (l3 + (1 : Int32)).toNatClampNeg) (E.2.1 (l3 + (2 : Int32)).toNatClampNeg))) (fun r109 => ?_)
      refine r_pop dL_law_1240 rfl ?_
      refine r_goto (t := 1512) dL_law_1241 rfl ?_
      exact r_sub (L' := [(0, .retAddr 0), (1, .ref 0), (2, .ref 60), (3, .int l3)]) (sub_c rfl (sub_c rfl (sub_c rfl (sub_c rfl sub_n)))) (rb_L_law_1512 hE hrec_18 r109.2 l3)
    refine r_sw1 (fun h110 => ?_) (fun h110 => ?_)
    · refine r_jmp (t := 1244) dL_law_33 rfl (by rw [h110]; rfl) ?_
      refine r_aload_n (x := 0) dL_law_1244 rfl ?_
      refine r_roload_n (x := 0) dL_law_1245 rfl ?_
      refine r_iload_n (x := l3) dL_law_1246 rfl ?_
      refine r_iconst (v := (1 : Int32)) dL_law_1247 rfl ?_
      refine r_iadd dL_law_1248 ?_
      refine r_scload dL_law_1249 ?_
      refine r_roload_n (x := 0) dL_law_1250 rfl ?_
      refine r_iload_n (x := l3) dL_law_1251 rfl ?_
      refine r_iconst (v := (2 : Int32)) dL_law_1252 rfl ?_
      refine r_iadd dL_law_1253 ?_
      refine r_scload dL_law_1254 ?_
      refine r_roload_n (x := 0) dL_law_1255 rfl ?_
      refine r_iload_n (x := l3) dL_law_1256 rfl ?_
      refine r_iconst (v := (3 : Int32)) dL_law_1257 rfl ?_
      refine r_iadd dL_law_1258 ?_
      refine r_scload dL_law_1259 ?_
      refine r_callI (k := 0) (idx := 163) (y := 182) (as := [.ref 0, .int (E.2.1 (l3 + (1 : Int32)).toNatClampNeg), .int (E.2.1 (l3 + (2 : Int32)).toNatClampNeg), .int (E.2.1 (l3 + (3 : Int32)).toNatClampNeg)]) (rest := []) (L0 := [(0, .ref 0), (1, .int (E.2.1 (l3 + (1 : Int32)).toNatClampNeg)), (2, .int (E.2.1 (l3 + (2 : Int32)).toNatClampNeg)), (3, .int (E.2.1 (l3 + (3 : Int32)).toNatClampNeg))]) dL_law_1260 rfl rfl rfl rfl rfl (vok_v (ob_0 hE) rfl) rfl (r_dep (by decide) (e_X11_row hE q (E.2.1 (l3 + (1 : Int32)).toNatClampNeg) (E.2.1 (l3 + (2 : Int32)).toNatClampNeg) (E.2.1 (l3 + (3 : Int32)).toNatClampNeg))) (fun r111 => ?_)
      refine r_pop dL_law_1263 rfl ?_
      refine r_aload_n (x := 60) dL_law_1264 rfl ?_
      refine r_roload_n (x := 0) dL_law_1265 rfl ?_
      refine r_iload_n (x := l3) dL_law_1266 rfl ?_
      refine r_iconst (v := (1 : Int32)) dL_law_1267 rfl ?_
      refine r_iadd dL_law_1268 ?_
      refine r_scload dL_law_1269 ?_
      refine r_roload_n (x := 0) dL_law_1270 rfl ?_
      refine r_iload_n (x := l3) dL_law_1271 rfl ?_
      refine r_iconst (v := (2 : Int32)) dL_law_1272 rfl ?_
      refine r_iadd dL_law_1273 ?_
      refine r_scload dL_law_1274 ?_
      refine r_roload_n (x := 0) dL_law_1275 rfl ?_
      refine r_iload_n (x := l3) dL_law_1276 rfl ?_
      refine r_iconst (v := (3 : Int32)) dL_law_1277 rfl ?_
      refine r_iadd dL_law_1278 ?_
      refine r_scload dL_law_1279 ?_
      refine r_callI (k := 0) (idx := 166) (y := 290) (as := [.ref 60, .int (E.2.1 (l3 + (1 : Int32)).toNatClampNeg), .int (E.2.1 (l3 + (2 : Int32)).toNatClampNeg), .int (E.2.1 (l3 + (3 : Int32)).toNatClampNeg)]) (rest := []) (L0 := [(0, .ref 60), (1, .int (E.2.1 (l3 + (1 : Int32)).toNatClampNeg)), (2, .int (E.2.1 (l3 + (2 : Int32)).toNatClampNeg)), (3, .int (E.2.1 (l3 + (3 : Int32)).toNatClampNeg))]) dL_law_1280 rfl rfl rfl rfl rfl (vok_v (ob_60 hE) rfl) rfl (r_dep (by decide) (e_X12_row hE r111.2 (E.2.1 (l3 + (1 : Int32)).toNatClampNeg) (E.2.1 (l3 + (2 : Int32)).toNatClampNeg) (E.2.1 (l3 + (3 : Int32)).toNatClampNeg))) (fun r112 => ?_)
      refine r_pop dL_law_1283 rfl ?_
      refine r_goto (t := 1512) dL_law_1284 rfl ?_
      exact r_sub (L' := [(0, .retAddr 0), (1, .ref 0), (2, .ref 60), (3, .int l3)]) (sub_c rfl (sub_c rfl (sub_c rfl (sub_c rfl sub_n)))) (rb_L_law_1512 hE hrec_18 r112.2 l3)
    refine r_sw1 (fun h113 => ?_) (fun h113 => ?_)
    · refine r_jmp (t := 1287) dL_law_33 rfl (by rw [h113]; rfl) ?_
      refine r_aload_n (x := 0) dL_law_1287 rfl ?_
      refine r_roload_n (x := 0) dL_law_1288 rfl ?_
      refine r_iload_n (x := l3) dL_law_1289 rfl ?_
      refine r_iconst (v := (1 : Int32)) dL_law_1290 rfl ?_
      refine r_iadd dL_law_1291 ?_
      refine r_scload dL_law_1292 ?_
      refine r_roload_n (x := 0) dL_law_1293 rfl ?_
      refine r_iload_n (x := l3) dL_law_1294 rfl ?_
      refine r_iconst (v := (2 : Int32)) dL_law_1295 rfl ?_
      refine r_iadd dL_law_1296 ?_
      refine r_scload dL_law_1297 ?_
      refine r_roload_n (x := 0) dL_law_1298 rfl ?_
      refine r_iload_n (x := l3) dL_law_1299 rfl ?_
      refine r_iconst (v := (3 : Int32)) dL_law_1300 rfl ?_
      refine r_iadd dL_law_1301 ?_
      refine r_scload dL_law_1302 ?_
      refine r_i2l dL_law_1303 ?_
      refine r_bipush (v := (32 : Int32)) dL_law_1304 rfl ?_
      refine r_lshl dL_law_1306 ?_
      refine r_roload_n (x := 0) dL_law_1307 rfl ?_
      refine r_iload_n (x := l3) dL_law_1308 rfl ?_
      refine r_iconst (v := (4 : Int32)) dL_law_1309 rfl ?_
      refine r_iadd dL_law_1310 ?_
      refine r_scload dL_law_1311 ?_
      refine r_i2l dL_law_1312 ?_
      refine r_ldc2 (v := (4294967295 : Int64)) dL_law_1313 rfl ?_
      refine r_land dL_law_1316 ?_
      refine r_lor dL_law_1317 ?_
      refine r_callI (k := 0) (idx := 169) (y := 183) (as := [.ref 0, .int (E.2.1 (l3 + (1 : Int32)).toNatClampNeg), .int (E.2.1 (l3 + (2 : Int32)).toNatClampNeg), .long ((jlshl ((E.2.1 (l3 + (3 : Int32)).toNatClampNeg).toInt64) (32 : Int32)) ||| (((E.2.1 (l3 + (4 : Int32)).toNatClampNeg).toInt64) &&& (4294967295 : Int64)))]) (rest := []) (L0 := [(0, .ref 0), (1, .int (E.2.1 (l3 + (1 : Int32)).toNatClampNeg)), (2, .int (E.2.1 (l3 + (2 : Int32)).toNatClampNeg)), (3, .long ((jlshl ((E.2.1 (l3 + (3 : Int32)).toNatClampNeg).toInt64) (32 : Int32)) ||| (((E.2.1 (l3 + (4 : Int32)).toNatClampNeg).toInt64) &&& (4294967295 : Int64))))]) dL_law_1318 rfl rfl rfl rfl rfl (vok_v (ob_0 hE) rfl) rfl (r_dep (by decide) (e_X11_put hE q (E.2.1 (l3 + (1 : Int32)).toNatClampNeg) (E.2.1 (l3 + (2 : Int32)).toNatClampNeg) ((jlshl ((E.2.1 (l3 + (3 : Int32)).toNatClampNeg).toInt64) (32 : Int32)) ||| (((E.2.1 (l3 + (4 : Int32)).toNatClampNeg).toInt64) &&& (4294967295 : Int64))))) (fun r114 => ?_)
      refine r_pop dL_law_1321 rfl ?_
      refine r_aload_n (x := 60) dL_law_1322 rfl ?_
      refine r_roload_n (x := 0) dL_law_1323 rfl ?_
      refine r_iload_n (x := l3) dL_law_1324 rfl ?_
      refine r_iconst (v := (1 : Int32)) dL_law_1325 rfl ?_
      refine r_iadd dL_law_1326 ?_
      refine r_scload dL_law_1327 ?_
      refine r_roload_n (x := 0) dL_law_1328 rfl ?_
      refine r_iload_n (x := l3) dL_law_1329 rfl ?_
      refine r_iconst (v := (2 : Int32)) dL_law_1330 rfl ?_
      refine r_iadd dL_law_1331 ?_
      refine r_scload dL_law_1332 ?_
      refine r_roload_n (x := 0) dL_law_1333 rfl ?_
      refine r_iload_n (x := l3) dL_law_1334 rfl ?_
      refine r_iconst (v := (3 : Int32)) dL_law_1335 rfl ?_
      refine r_iadd dL_law_1336 ?_
      refine r_scload dL_law_1337 ?_
      refine r_i2l dL_law_1338 ?_
      refine r_bipush (v := (32 : Int32)) dL_law_1339 rfl ?_
      refine r_lshl dL_law_1341 ?_
      refine r_roload_n (x := 0) dL_law_1342 rfl ?_
      refine r_iload_n (x := l3) dL_law_1343 rfl ?_
      refine r_iconst (v := (4 : Int32)) dL_law_1344 rfl ?_
      refine r_iadd dL_law_1345 ?_
      refine r_scload dL_law_1346 ?_
      refine r_i2l dL_law_1347 ?_
      refine r_ldc2 (v := (4294967295 : Int64)) dL_law_1348 rfl ?_
      refine r_land dL_law_1351 ?_
      refine r_lor dL_law_1352 ?_
      refine r_callI (k := 0) (idx := 173) (y := 292) (as := [.ref 60, .int (E.2.1 (l3 + (1 : Int32)).toNatClampNeg), .int (E.2.1 (l3 + (2 : Int32)).toNatClampNeg), .long ((jlshl ((E.2.1 (l3 + (3 : Int32)).toNatClampNeg).toInt64) (32 : Int32)) ||| (((E.2.1 (l3 + (4 : Int32)).toNatClampNeg).toInt64) &&& (4294967295 : Int64)))]) (rest := []) (L0 := [(0, .ref 60), (1, .int (E.2.1 (l3 + (1 : Int32)).toNatClampNeg)), (2, .int (E.2.1 (l3 + (2 : Int32)).toNatClampNeg)), (3, .long ((jlshl ((E.2.1 (l3 + (3 : Int32)).toNatClampNeg).toInt64) (32 : Int32)) ||| (((E.2.1 (l3 + (4 : Int32)).toNatClampNeg).toInt64) &&& (4294967295 : Int64))))]) dL_law_1353 rfl rfl rfl rfl rfl (vok_v (ob_60 hE) rfl) rfl (r_dep (by decide) (e_X12_put hE r114.2 (E.2.1 (l3 + (1 : Int32)).toNatClampNeg) (E.2.1 (l3 + (2 : Int32)).toNatClampNeg) ((jlshl ((E.2.1 (l3 + (3 : Int32)).toNatClampNeg).toInt64) (32 : Int32)) ||| (((E.2.1 (l3 + (4 : Int32)).toNatClampNeg).toInt64) &&& (4294967295 : Int64))))) (fun r115 => ?_)
      refine r_pop dL_law_1356 rfl ?_
      refine r_goto (t := 1512) dL_law_1357 rfl ?_
      exact r_sub (L' := [(0, .retAddr 0), (1, .ref 0), (2, .ref 60), (3, .int l3)]) (sub_c rfl (sub_c rfl (sub_c rfl (sub_c rfl sub_n)))) (rb_L_law_1512 hE hrec_18 r115.2 l3)
    refine r_sw1 (fun h116 => ?_) (fun h116 => ?_)
    · refine r_jmp (t := 1360) dL_law_33 rfl (by rw [h116]; rfl) ?_
      refine r_aload_n (x := 0) dL_law_1360 rfl ?_
      refine r_roload_n (x := 0) dL_law_1361 rfl ?_
      refine r_iload_n (x := l3) dL_law_1362 rfl ?_
      refine r_iconst (v := (1 : Int32)) dL_law_1363 rfl ?_
      refine r_iadd dL_law_1364 ?_
      refine r_scload dL_law_1365 ?_
      refine r_roload_n (x := 0) dL_law_1366 rfl ?_
      refine r_iload_n (x := l3) dL_law_1367 rfl ?_
      refine r_iconst (v := (2 : Int32)) dL_law_1368 rfl ?_
      refine r_iadd dL_law_1369 ?_
      refine r_scload dL_law_1370 ?_
      refine r_calll (k := 0) (idx := 174) (y := 184) (as := [.ref 0, .int (E.2.1 (l3 + (1 : Int32)).toNatClampNeg), .int (E.2.1 (l3 + (2 : Int32)).toNatClampNeg)]) (rest := []) (L0 := [(0, .ref 0), (1, .int (E.2.1 (l3 + (1 : Int32)).toNatClampNeg)), (2, .int (E.2.1 (l3 + (2 : Int32)).toNatClampNeg))]) dL_law_1371 rfl rfl rfl rfl rfl (vok_v (ob_0 hE) rfl) rfl (r_dep (by decide) (e_X11_element hE q (E.2.1 (l3 + (1 : Int32)).toNatClampNeg) (E.2.1 (l3 + (2 : Int32)).toNatClampNeg))) (fun r117 => ?_)
      refine r_pop2 dL_law_1374 ?_
      refine r_aload_n (x := 60) dL_law_1375 rfl ?_
      refine r_roload_n (x := 0) dL_law_1376 rfl ?_
      refine r_iload_n (x := l3) dL_law_1377 rfl ?_
      refine r_iconst (v := (1 : Int32)) dL_law_1378 rfl ?_
      refine r_iadd dL_law_1379 ?_
      refine r_scload dL_law_1380 ?_
      refine r_roload_n (x := 0) dL_law_1381 rfl ?_
      refine r_iload_n (x := l3) dL_law_1382 rfl ?_
      refine r_iconst (v := (2 : Int32)) dL_law_1383 rfl ?_
      refine r_iadd dL_law_1384 ?_
      refine r_scload dL_law_1385 ?_
      refine r_calll (k := 0) (idx := 177) (y := 293) (as := [.ref 60, .int (E.2.1 (l3 + (1 : Int32)).toNatClampNeg), .int (E.2.1 (l3 + (2 : Int32)).toNatClampNeg)]) (rest := []) (L0 := [(0, .ref 60), (1, .int (E.2.1 (l3 + (1 : Int32)).toNatClampNeg)), (2, .int (E.2.1 (l3 + (2 : Int32)).toNatClampNeg))]) dL_law_1386 rfl rfl rfl rfl rfl (vok_v (ob_60 hE) rfl) rfl (r_dep (by decide) (e_X12_element hE q (E.2.1 (l3 + (1 : Int32)).toNatClampNeg) (E.2.1 (l3 + (2 : Int32)).toNatClampNeg))) (fun r118 => ?_)
      refine r_pop2 dL_law_1389 ?_
      refine r_goto (t := 1512) dL_law_1390 rfl ?_
      exact r_sub (L' := [(0, .retAddr 0), (1, .ref 0), (2, .ref 60), (3, .int l3)]) (sub_c rfl (sub_c rfl (sub_c rfl (sub_c rfl sub_n)))) (rb_L_law_1512 hE hrec_18 q l3)
    refine r_sw1 (fun h119 => ?_) (fun h119 => ?_)
    · refine r_jmp (t := 1393) dL_law_33 rfl (by rw [h119]; rfl) ?_
      refine r_aload_n (x := 0) dL_law_1393 rfl ?_
      refine r_roload_n (x := 0) dL_law_1394 rfl ?_
      refine r_iload_n (x := l3) dL_law_1395 rfl ?_
      refine r_iconst (v := (1 : Int32)) dL_law_1396 rfl ?_
      refine r_iadd dL_law_1397 ?_
      refine r_scload dL_law_1398 ?_
      refine r_roload_n (x := 0) dL_law_1399 rfl ?_
      refine r_iload_n (x := l3) dL_law_1400 rfl ?_
      refine r_iconst (v := (2 : Int32)) dL_law_1401 rfl ?_
      refine r_iadd dL_law_1402 ?_
      refine r_scload dL_law_1403 ?_
      refine r_roload_n (x := 0) dL_law_1404 rfl ?_
      refine r_iload_n (x := l3) dL_law_1405 rfl ?_
      refine r_iconst (v := (3 : Int32)) dL_law_1406 rfl ?_
      refine r_iadd dL_law_1407 ?_
      refine r_scload dL_law_1408 ?_
      refine r_roload_n (x := 0) dL_law_1409 rfl ?_
      refine r_iload_n (x := l3) dL_law_1410 rfl ?_
      refine r_iconst (v := (4 : Int32)) dL_law_1411 rfl ?_
      refine r_iadd dL_law_1412 ?_
      refine r_scload dL_law_1413 ?_
      refine r_roload_n (x := 0) dL_law_1414 rfl ?_
      refine r_iload_n (x := l3) dL_law_1415 rfl ?_
      refine r_iconst (v := (5 : Int32)) dL_law_1416 rfl ?_
      refine r_iadd dL_law_1417 ?_
      refine r_scload dL_law_1418 ?_
      refine r_callI (k := 0) (idx := 178) (y := 185) (as := [.ref 0, .int (E.2.1 (l3 + (1 : Int32)).toNatClampNeg), .int (E.2.1 (l3 + (2 : Int32)).toNatClampNeg), .int (E.2.1 (l3 + (3 : Int32)).toNatClampNeg), .int (E.2.1 (l3 + (4 : Int32)).toNatClampNeg), .int (E.2.1 (l3 + (5 : Int32)).toNatClampNeg)]) (rest := []) (L0 := [(0, .ref 0), (1, .int (E.2.1 (l3 + (1 : Int32)).toNatClampNeg)), (2, .int (E.2.1 (l3 + (2 : Int32)).toNatClampNeg)), (3, .int (E.2.1 (l3 + (3 : Int32)).toNatClampNeg)), (4, .int (E.2.1 (l3 + (4 : Int32)).toNatClampNeg)), (5, .int (E.2.1 (l3 + (5 : Int32)).toNatClampNeg))]) dL_law_1419 rfl rfl rfl rfl rfl (vok_v (ob_0 hE) rfl) rfl (r_dep (by decide) (e_X11_shift hE q (E.2.1 (l3 + (1 : Int32)).toNatClampNeg) (E.2.1 (l3 + (2 : Int32)).toNatClampNeg) (E.2.1 (l3 + (3 : Int32)).toNatClampNeg) (E.2.1 (l3 + (4 : Int32)).toNatClampNeg) (E.2.1 (l3 + (5 : Int32)).toNatClampNeg))) (fun r120 => ?_)
      refine r_pop dL_law_1422 rfl ?_
      refine r_aload_n (x := 60) dL_law_1423 rfl ?_
      refine r_roload_n (x := 0) dL_law_1424 rfl ?_
      refine r_iload_n (x := l3) dL_law_1425 rfl ?_
      refine r_iconst (v := (1 : Int32)) dL_law_1426 rfl ?_
      refine r_iadd dL_law_1427 ?_
      refine r_scload dL_law_1428 ?_
      refine r_roload_n (x := 0) dL_law_1429 rfl ?_
      refine r_iload_n (x := l3) dL_law_1430 rfl ?_
      refine r_iconst (v := (2 : Int32)) dL_law_1431 rfl ?_
      refine r_iadd dL_law_1432 ?_
      refine r_scload dL_law_1433 ?_
      refine r_roload_n (x := 0) dL_law_1434 rfl ?_
      refine r_iload_n (x := l3) dL_law_1435 rfl ?_
      refine r_iconst (v := (3 : Int32)) dL_law_1436 rfl ?_
      refine r_iadd dL_law_1437 ?_
      refine r_scload dL_law_1438 ?_
      refine r_roload_n (x := 0) dL_law_1439 rfl ?_
      refine r_iload_n (x := l3) dL_law_1440 rfl ?_
      refine r_iconst (v := (4 : Int32)) dL_law_1441 rfl ?_
      refine r_iadd dL_law_1442 ?_
      refine r_scload dL_law_1443 ?_
      refine r_roload_n (x := 0) dL_law_1444 rfl ?_
      refine r_iload_n (x := l3) dL_law_1445 rfl ?_
      refine r_iconst (v := (5 : Int32)) dL_law_1446 rfl ?_
      refine r_iadd dL_law_1447 ?_
      refine r_scload dL_law_1448 ?_
      refine r_callI (k := 0) (idx := 182) (y := 294) (as := [.ref 60, .int (E.2.1 (l3 + (1 : Int32)).toNatClampNeg), .int (E.2.1 (l3 + (2 : Int32)).toNatClampNeg), .int (E.2.1 (l3 + (3 : Int32)).toNatClampNeg), .int (E.2.1 (l3 + (4 : Int32)).toNatClampNeg), .int (E.2.1 (l3 + (5 : Int32)).toNatClampNeg)]) (rest := []) (L0 := [(0, .ref 60), (1, .int (E.2.1 (l3 + (1 : Int32)).toNatClampNeg)), (2, .int (E.2.1 (l3 + (2 : Int32)).toNatClampNeg)), (3, .int (E.2.1 (l3 + (3 : Int32)).toNatClampNeg)), (4, .int (E.2.1 (l3 + (4 : Int32)).toNatClampNeg)), (5, .int (E.2.1 (l3 + (5 : Int32)).toNatClampNeg))]) dL_law_1449 rfl rfl rfl rfl rfl (vok_v (ob_60 hE) rfl) rfl (r_dep (by decide) (e_X12_shift hE r120.2 (E.2.1 (l3 + (1 : Int32)).toNatClampNeg) (E.2.1 (l3 + (2 : Int32)).toNatClampNeg) (E.2.1 (l3 + (3 : Int32)).toNatClampNeg) (E.2.1 (l3 + (4 : Int32)).toNatClampNeg) (E.2.1 (l3 + (5 : Int32)).toNatClampNeg))) (fun r121 => ?_)
      refine r_pop dL_law_1452 rfl ?_
      refine r_goto (t := 1512) dL_law_1453 rfl ?_
      exact r_sub (L' := [(0, .retAddr 0), (1, .ref 0), (2, .ref 60), (3, .int l3)]) (sub_c rfl (sub_c rfl (sub_c rfl (sub_c rfl sub_n)))) (rb_L_law_1512 hE hrec_18 r121.2 l3)
    refine r_sw1 (fun h122 => ?_) (fun h122 => ?_)
    · refine r_jmp (t := 1456) dL_law_33 rfl (by rw [h122]; rfl) ?_
      refine r_aload_n (x := 0) dL_law_1456 rfl ?_
      refine r_roload_n (x := 0) dL_law_1457 rfl ?_
      refine r_iload_n (x := l3) dL_law_1458 rfl ?_
      refine r_iconst (v := (1 : Int32)) dL_law_1459 rfl ?_
      refine r_iadd dL_law_1460 ?_
      refine r_scload dL_law_1461 ?_
      refine r_roload_n (x := 0) dL_law_1462 rfl ?_
      refine r_iload_n (x := l3) dL_law_1463 rfl ?_
      refine r_iconst (v := (2 : Int32)) dL_law_1464 rfl ?_
      refine r_iadd dL_law_1465 ?_
      refine r_scload dL_law_1466 ?_
      refine r_calli (k := 0) (idx := 183) (y := 186) (as := [.ref 0, .int (E.2.1 (l3 + (1 : Int32)).toNatClampNeg), .int (E.2.1 (l3 + (2 : Int32)).toNatClampNeg)]) (rest := []) (L0 := [(0, .ref 0), (1, .int (E.2.1 (l3 + (1 : Int32)).toNatClampNeg)), (2, .int (E.2.1 (l3 + (2 : Int32)).toNatClampNeg))]) dL_law_1467 rfl rfl rfl rfl rfl (vok_v (ob_0 hE) rfl) rfl (r_dep (by decide) (e_X11_taken hE q (E.2.1 (l3 + (1 : Int32)).toNatClampNeg) (E.2.1 (l3 + (2 : Int32)).toNatClampNeg))) (fun r123 => ?_)
      refine r_aload_n (x := 60) dL_law_1470 rfl ?_
      refine r_roload_n (x := 0) dL_law_1471 rfl ?_
      refine r_iload_n (x := l3) dL_law_1472 rfl ?_
      refine r_iconst (v := (1 : Int32)) dL_law_1473 rfl ?_
      refine r_iadd dL_law_1474 ?_
      refine r_scload dL_law_1475 ?_
      refine r_roload_n (x := 0) dL_law_1476 rfl ?_
      refine r_iload_n (x := l3) dL_law_1477 rfl ?_
      refine r_iconst (v := (2 : Int32)) dL_law_1478 rfl ?_
      refine r_iadd dL_law_1479 ?_
      refine r_scload dL_law_1480 ?_
      refine r_calli (k := 0) (idx := 186) (y := 295) (as := [.ref 60, .int (E.2.1 (l3 + (1 : Int32)).toNatClampNeg), .int (E.2.1 (l3 + (2 : Int32)).toNatClampNeg)]) (rest := [.int r123]) (L0 := [(0, .ref 60), (1, .int (E.2.1 (l3 + (1 : Int32)).toNatClampNeg)), (2, .int (E.2.1 (l3 + (2 : Int32)).toNatClampNeg))]) dL_law_1481 rfl rfl rfl rfl rfl (vok_v (ob_60 hE) rfl) rfl (r_dep (by decide) (e_X12_taken hE q (E.2.1 (l3 + (1 : Int32)).toNatClampNeg) (E.2.1 (l3 + (2 : Int32)).toNatClampNeg))) (fun r124 => ?_)
      refine r_icmp_eq (t := 1512) dL_law_1484 rfl (fun h125 => ?_) (fun h125 => ?_)
      · exact r_sub (L' := [(0, .retAddr 0), (1, .ref 0), (2, .ref 60), (3, .int l3)]) (sub_c rfl (sub_c rfl (sub_c rfl (sub_c rfl sub_n)))) (rb_L_law_1512 hE hrec_18 q l3)
      · refine r_iconst (v := (0 : Int32)) dL_law_1487 rfl ?_
        exact r_ireturn dL_law_1488 rfl rfl
    refine r_sw1 (fun h126 => ?_) (fun h126 => ?_)
    · refine r_jmp (t := 1489) dL_law_33 rfl (by rw [h126]; rfl) ?_
      refine r_aload_n (x := 0) dL_law_1489 rfl ?_
      refine r_roload_n (x := 0) dL_law_1490 rfl ?_
      refine r_iload_n (x := l3) dL_law_1491 rfl ?_
      refine r_iconst (v := (1 : Int32)) dL_law_1492 rfl ?_
      refine r_iadd dL_law_1493 ?_
      refine r_scload dL_law_1494 ?_
      refine r_calli (k := 0) (idx := 187) (y := 187) (as := [.ref 0, .int (E.2.1 (l3 + (1 : Int32)).toNatClampNeg)]) (rest := []) (L0 := [(0, .ref 0), (1, .int (E.2.1 (l3 + (1 : Int32)).toNatClampNeg))]) dL_law_1495 rfl rfl rfl rfl rfl (vok_v (ob_0 hE) rfl) rfl (r_dep (by decide) (e_X11_count hE q (E.2.1 (l3 + (1 : Int32)).toNatClampNeg))) (fun r127 => ?_)
      refine r_pop dL_law_1498 rfl ?_
      refine r_aload_n (x := 60) dL_law_1499 rfl ?_
      refine r_roload_n (x := 0) dL_law_1500 rfl ?_
      refine r_iload_n (x := l3) dL_law_1501 rfl ?_
      refine r_iconst (v := (1 : Int32)) dL_law_1502 rfl ?_
      refine r_iadd dL_law_1503 ?_
      refine r_scload dL_law_1504 ?_
      refine r_calli (k := 0) (idx := 190) (y := 287) (as := [.ref 60, .int (E.2.1 (l3 + (1 : Int32)).toNatClampNeg)]) (rest := []) (L0 := [(0, .ref 60), (1, .int (E.2.1 (l3 + (1 : Int32)).toNatClampNeg))]) dL_law_1505 rfl rfl rfl rfl rfl (vok_v (ob_60 hE) rfl) rfl (r_dep (by decide) (e_X12_count hE q (E.2.1 (l3 + (1 : Int32)).toNatClampNeg))) (fun r128 => ?_)
      refine r_pop dL_law_1508 rfl ?_
      refine r_goto (t := 1512) dL_law_1509 rfl ?_
      exact r_sub (L' := [(0, .retAddr 0), (1, .ref 0), (2, .ref 60), (3, .int l3)]) (sub_c rfl (sub_c rfl (sub_c rfl (sub_c rfl sub_n)))) (rb_L_law_1512 hE hrec_18 q l3)
    refine r_jmp (t := 1512) dL_law_33 rfl ?_ ?_
    · have h129 := sw_lo (v := v1.toInt) 0
      have h129 := sw_st h129 h2
      have h129 := sw_st h129 h5
      have h129 := sw_st h129 h8
      have h129 := sw_st h129 h11
      have h129 := sw_st h129 h14
      have h129 := sw_st h129 h17
      have h129 := sw_st h129 h20
      have h129 := sw_st h129 h23
      have h129 := sw_st h129 h26
      have h129 := sw_st h129 h29
      have h129 := sw_st h129 h32
      have h129 := sw_st h129 h35
      have h129 := sw_st h129 h38
      have h129 := sw_st h129 h41
      have h129 := sw_st h129 h44
      have h129 := sw_st h129 h47
      have h129 := sw_st h129 h50
      have h129 := sw_st h129 h53
      have h129 := sw_st h129 h56
      have h129 := sw_st h129 h59
      have h129 := sw_st h129 h62
      have h129 := sw_st h129 h65
      have h129 := sw_st h129 h68
      have h129 := sw_st h129 h71
      have h129 := sw_st h129 h74
      have h129 := sw_st h129 h77
      have h129 := sw_st h129 h80
      have h129 := sw_st h129 h83
      have h129 := sw_st h129 h86
      have h129 := sw_st h129 h89
      have h129 := sw_st h129 h92
      have h129 := sw_st h129 h95
      have h129 := sw_st h129 h98
      have h129 := sw_st h129 h101
      have h129 := sw_st h129 h104
      have h129 := sw_st h129 h107
      have h129 := sw_st h129 h110
      have h129 := sw_st h129 h113
      have h129 := sw_st h129 h116
      have h129 := sw_st h129 h119
      have h129 := sw_st h129 h122
      have h129 := sw_st h129 h126
      exact sw_df h129 (by decide) rfl
    exact r_sub (L' := [(0, .retAddr 0), (1, .ref 0), (2, .ref 60), (3, .int l3)]) (sub_c rfl (sub_c rfl (sub_c rfl (sub_c rfl sub_n)))) (rb_L_law_1512 hE hrec_18 q l3)
def f_L_law (Ls : Nat) (xs : Nat → Int32) (q : SS) (a3 : Int32) : Option (Int32 × SS) :=
  b_L_law_18 Ls xs q a3
theorem e_L_law {E : EE} (hE : GE E) (q : SS) (a3 : Int32) : R E (κI E) 906 NM 18 [(0, .retAddr 0), (1, .ref 0), (2, .ref 60), (3, .int a3)] [] q (f_L_law E.1 E.2.1 q a3) := by
  unfold f_L_law
  exact r_sub (L' := [(0, .retAddr 0), (1, .ref 0), (2, .ref 60), (3, .int a3)]) (sub_c rfl (sub_c rfl (sub_c rfl (sub_c rfl sub_n)))) (rb_L_law_18 hE q a3)

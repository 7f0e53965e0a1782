def f_X12_mend (q : SS) (a1 : Int32) (a2 : Int32) (a3 : Int32) : Option (Int32 × SS) :=
  (f_X12_isPlace q a1 a2).bind fun r1 =>
  if r1 = 0 then
  (some ((-1 : Int32), q))
  else
  ((f_X12_mayHave q a2 a3).bind fun r2 =>
  if r2 = 0 then
  (some ((-1 : Int32), q))
  else
  ((f_X12_changes q a2 a1 a3).bind fun r3 =>
  some (r3.1, r3.2)))
theorem e_X12_mend {E : EE} (hE : GE E) (q : SS) (a1 : Int32) (a2 : Int32) (a3 : Int32) : R E (κI E) 3 205 0 [(0, .ref 60), (1, .int a1), (2, .int a2), (3, .int a3)] [] q (f_X12_mend q a1 a2 a3) := by
  unfold f_X12_mend
  refine r_aload_n (x := 60) gX12_mend_0.1 rfl ?_
  refine r_iload_n (x := a1) gX12_mend_0.2.1 rfl ?_
  refine r_iload_n (x := a2) gX12_mend_0.2.2.1 rfl ?_
  refine r_calli (k := 0) (idx := 159) (y := 203) (as := [.ref 60, .int a1, .int a2]) (rest := []) (L0 := [(0, .ref 60), (1, .int a1), (2, .int a2)]) gX12_mend_0.2.2.2.1 rfl rfl rfl rfl rfl (vok_v (ob_60 hE) rfl) rfl (r_dep (by decide) (e_X12_isPlace hE q a1 a2)) (fun r1 => ?_)
  refine r_if_eq (t := 28) gX12_mend_0.2.2.2.2.1 rfl (fun h5 => ?_) (fun h5 => ?_)
  · refine r_iconst (v := (-1 : Int32)) gX12_mend_28.1 rfl ?_
    exact r_ireturn gX12_mend_28.2.1 rfl rfl
  · refine r_aload_n (x := 60) gX12_mend_0.2.2.2.2.2.1 rfl ?_
    refine r_iload_n (x := a2) gX12_mend_0.2.2.2.2.2.2.1 rfl ?_
    refine r_iload_n (x := a3) gX12_mend_0.2.2.2.2.2.2.2.1 rfl ?_
    refine r_calli (k := 0) (idx := 162) (y := 204) (as := [.ref 60, .int a2, .int a3]) (rest := []) (L0 := [(0, .ref 60), (1, .int a2), (2, .int a3)]) gX12_mend_0.2.2.2.2.2.2.2.2.1 rfl rfl rfl rfl rfl (vok_v (ob_60 hE) rfl) rfl (r_dep (by decide) (e_X12_mayHave hE q a2 a3)) (fun r2 => ?_)
    refine r_if_eq (t := 28) gX12_mend_0.2.2.2.2.2.2.2.2.2.1 rfl (fun h4 => ?_) (fun h4 => ?_)
    · refine r_iconst (v := (-1 : Int32)) gX12_mend_28.1 rfl ?_
      exact r_ireturn gX12_mend_28.2.1 rfl rfl
    · refine r_aload_n (x := 60) gX12_mend_0.2.2.2.2.2.2.2.2.2.2.1 rfl ?_
      refine r_iload_n (x := a2) gX12_mend_0.2.2.2.2.2.2.2.2.2.2.2.1 rfl ?_
      refine r_iload_n (x := a1) gX12_mend_0.2.2.2.2.2.2.2.2.2.2.2.2.1 rfl ?_
      refine r_iload_n (x := a3) gX12_mend_0.2.2.2.2.2.2.2.2.2.2.2.2.2.1 rfl ?_
      refine r_callI (k := 0) (idx := 165) (y := 200) (as := [.ref 60, .int a2, .int a1, .int a3]) (rest := []) (L0 := [(0, .ref 60), (1, .int a2), (2, .int a1), (3, .int a3)]) gX12_mend_0.2.2.2.2.2.2.2.2.2.2.2.2.2.2.1 rfl rfl rfl rfl rfl (vok_v (ob_60 hE) rfl) rfl (r_dep (by decide) (e_X12_changes hE q a2 a1 a3)) (fun r3 => ?_)
      refine r_goto (t := 29) gX12_mend_0.2.2.2.2.2.2.2.2.2.2.2.2.2.2.2.1 rfl ?_
      exact r_ireturn gX12_mend_28.2.1 rfl rfl
def f_X10_addTicket (q : SS) (a1 : Int32) (a2 : Int32) (a3 : Int32) : Option (Int32 × SS) :=
  if (q.1 1 2) < (12 : Int32) then
  (nm (sI q 1 2 ((q.1 1 2) + (1 : Int32))) fun q1 =>
  (f_X10_set q1 (4 : Int32) ((q1.1 1 2) - (1 : Int32)) a1).bind fun r2 =>
  (f_X10_set r2 (5 : Int32) ((r2.1 1 2) - (1 : Int32)) a2).bind fun r3 =>
  (f_X10_set r3 (6 : Int32) ((r3.1 1 2) - (1 : Int32)) a3).bind fun r4 =>
  some (((r4.1 1 2) - (1 : Int32)), r4))
  else
  (some ((-3 : Int32), q))
theorem e_X10_addTicket {E : EE} (hE : GE E) (q : SS) (a1 : Int32) (a2 : Int32) (a3 : Int32) : R E (κI E) 2 137 0 [(0, .ref 1), (1, .int a1), (2, .int a2), (3, .int a3)] [] q (f_X10_addTicket q a1 a2 a3) := by
  unfold f_X10_addTicket
  refine r_aload_n (x := 1) gX10_addTicket_0.1 rfl ?_
  refine r_getI gX10_addTicket_0.2.1 (ff_10_20_1 hE) (by decide) ?_
  refine r_bipush (v := (12 : Int32)) gX10_addTicket_0.2.2.1 rfl ?_
  refine r_icmp_lt (t := 12) gX10_addTicket_0.2.2.2.1 rfl (fun h5 => ?_) (fun h5 => ?_)
  · refine r_aload_n (x := 1) gX10_addTicket_0.2.2.2.2.2.2.1 rfl ?_
    refine r_dup gX10_addTicket_0.2.2.2.2.2.2.2.1 rfl ?_
    refine r_getI gX10_addTicket_0.2.2.2.2.2.2.2.2.1 (ff_10_20_1 hE) (by decide) ?_
    refine r_iconst (v := (1 : Int32)) gX10_addTicket_0.2.2.2.2.2.2.2.2.2.1 rfl ?_
    refine r_iadd gX10_addTicket_0.2.2.2.2.2.2.2.2.2.2.1 ?_
    refine r_putI gX10_addTicket_0.2.2.2.2.2.2.2.2.2.2.2.1 (ff_10_20_1 hE) ?_
    refine r_nmS fun q1 _ => ?_
    refine r_aload_n (x := 1) gX10_addTicket_0.2.2.2.2.2.2.2.2.2.2.2.2.1 rfl ?_
    refine r_iconst (v := (4 : Int32)) gX10_addTicket_0.2.2.2.2.2.2.2.2.2.2.2.2.2.1 rfl ?_
    refine r_aload_n (x := 1) gX10_addTicket_0.2.2.2.2.2.2.2.2.2.2.2.2.2.2.1 rfl ?_
    refine r_getI gX10_addTicket_0.2.2.2.2.2.2.2.2.2.2.2.2.2.2.2.1 (ff_10_20_1 hE) (by decide) ?_
    refine r_iconst (v := (1 : Int32)) gX10_addTicket_28.1 rfl ?_
    refine r_isub gX10_addTicket_28.2.1 ?_
    refine r_iload_n (x := a1) gX10_addTicket_28.2.2.1 rfl ?_
    refine r_callV (k := 0) (idx := 42) (y := 135) (as := [.ref 1, .int (4 : Int32), .int ((q1.1 1 2) - (1 : Int32)), .int a1]) (rest := []) (L0 := [(0, .ref 1), (1, .int (4 : Int32)), (2, .int ((q1.1 1 2) - (1 : Int32))), (3, .int a1)]) gX10_addTicket_28.2.2.2.1 rfl rfl rfl rfl rfl (vok_v (ob_1 hE) rfl) rfl (r_dep (by decide) (e_X10_set hE q1 (4 : Int32) ((q1.1 1 2) - (1 : Int32)) a1)) (fun r2 => ?_)
    refine r_aload_n (x := 1) gX10_addTicket_28.2.2.2.2.1 rfl ?_
    refine r_iconst (v := (5 : Int32)) gX10_addTicket_28.2.2.2.2.2.1 rfl ?_
    refine r_aload_n (x := 1) gX10_addTicket_28.2.2.2.2.2.2.1 rfl ?_
    refine r_getI gX10_addTicket_28.2.2.2.2.2.2.2.1 (ff_10_20_1 hE) (by decide) ?_
    refine r_iconst (v := (1 : Int32)) gX10_addTicket_28.2.2.2.2.2.2.2.2.1 rfl ?_
    refine r_isub gX10_addTicket_28.2.2.2.2.2.2.2.2.2.1 ?_
    refine r_iload_n (x := a2) gX10_addTicket_28.2.2.2.2.2.2.2.2.2.2.1 rfl ?_
    refine r_callV (k := 0) (idx := 42) (y := 135) (as := [.ref 1, .int (5 : Int32), .int ((r2.1 1 2) - (1 : Int32)), .int a2]) (rest := []) (L0 := [(0, .ref 1), (1, .int (5 : Int32)), (2, .int ((r2.1 1 2) - (1 : Int32))), (3, .int a2)]) gX10_addTicket_28.2.2.2.2.2.2.2.2.2.2.2.1 rfl rfl rfl rfl rfl (vok_v (ob_1 hE) rfl) rfl (r_dep (by decide) (e_X10_set hE r2 (5 : Int32) ((r2.1 1 2) - (1 : Int32)) a2)) (fun r3 => ?_)
    refine r_aload_n (x := 1) gX10_addTicket_28.2.2.2.2.2.2.2.2.2.2.2.2.1 rfl ?_
    refine r_bipush (v := (6 : Int32)) gX10_addTicket_28.2.2.2.2.2.2.2.2.2.2.2.2.2.1 rfl ?_
    refine r_aload_n (x := 1) gX10_addTicket_28.2.2.2.2.2.2.2.2.2.2.2.2.2.2.1 rfl ?_
    refine r_getI gX10_addTicket_28.2.2.2.2.2.2.2.2.2.2.2.2.2.2.2.1 (ff_10_20_1 hE) (by decide) ?_
    refine r_iconst (v := (1 : Int32)) gX10_addTicket_53.1 rfl ?_
    refine r_isub gX10_addTicket_53.2.1 ?_
    refine r_iload_n (x := a3) gX10_addTicket_53.2.2.1 rfl ?_
    refine r_callV (k := 0) (idx := 42) (y := 135) (as := [.ref 1, .int (6 : Int32), .int ((r3.1 1 2) - (1 : Int32)), .int a3]) (rest := []) (L0 := [(0, .ref 1), (1, .int (6 : Int32)), (2, .int ((r3.1 1 2) - (1 : Int32))), (3, .int a3)]) gX10_addTicket_53.2.2.2.1 rfl rfl rfl rfl rfl (vok_v (ob_1 hE) rfl) rfl (r_dep (by decide) (e_X10_set hE r3 (6 : Int32) ((r3.1 1 2) - (1 : Int32)) a3)) (fun r4 => ?_)
    refine r_aload_n (x := 1) gX10_addTicket_53.2.2.2.2.1 rfl ?_
    refine r_getI gX10_addTicket_53.2.2.2.2.2.1 (ff_10_20_1 hE) (by decide) ?_
    refine r_iconst (v := (1 : Int32)) gX10_addTicket_53.2.2.2.2.2.2.1 rfl ?_
    refine r_isub gX10_addTicket_53.2.2.2.2.2.2.2.1 ?_
    exact r_ireturn gX10_addTicket_53.2.2.2.2.2.2.2.2.1 rfl rfl
  · refine r_bipush (v := (-3 : Int32)) gX10_addTicket_0.2.2.2.2.1 rfl ?_
    exact r_ireturn gX10_addTicket_0.2.2.2.2.2.1 rfl rfl
def f_X11_addFromRow (q : SS) (a1 : Int32) (a2 : Int32) (a3 : Int32) : Option (Int32 × SS) :=
  nm ((a2.toInt64) + ((3 : Int64) * (a3.toInt64))) fun v1 =>
  (f_X7_sizeOf q a1).bind fun r2 =>
  if (lg_cmp (v1 + (3 : Int64)) (r2.toInt64)) ≤ 0 then
  ((f_X7_get q a1 (v1.toInt32)).bind fun r3 =>
  nm (r3.toInt32) fun v4 =>
  (f_X7_get q a1 ((v1.toInt32) + (1 : Int32))).bind fun r5 =>
  nm (r5.toInt32) fun v6 =>
  (f_X7_get q a1 ((v1.toInt32) + (2 : Int32))).bind fun r7 =>
  nm (r7.toInt32) fun v8 =>
  (f_X10_mayBe q (4 : Int32) v4).bind fun r9 =>
  if r9 = 0 then
  (some ((0 : Int32), q))
  else
  ((f_X10_mayBe q (5 : Int32) v6).bind fun r10 =>
  if r10 = 0 then
  (some ((0 : Int32), q))
  else
  ((f_X10_mayBe q (6 : Int32) v8).bind fun r11 =>
  if r11 = 0 then
  (some ((0 : Int32), q))
  else
  ((f_X10_addTicket q v4 v6 v8).bind fun r12 =>
  if r12.1 = (-3 : Int32) then
  (some ((0 : Int32), r12.2))
  else
  (some ((1 : Int32), r12.2))))))
  else
  (some ((0 : Int32), q))
theorem e_X11_addFromRow {E : EE} (hE : GE E) (q : SS) (a1 : Int32) (a2 : Int32) (a3 : Int32) : R E (κI E) 5 142 0 [(0, .ref 0), (1, .int a1), (2, .int a2), (3, .int a3)] [] q (f_X11_addFromRow q a1 a2 a3) := by
  unfold f_X11_addFromRow
  refine r_iload_n (x := a2) gX11_addFromRow_0.1 rfl ?_
  refine r_i2l gX11_addFromRow_0.2.1 ?_
  refine r_ldc2 (v := (3 : Int64)) gX11_addFromRow_0.2.2.1 rfl ?_
  refine r_iload_n (x := a3) gX11_addFromRow_0.2.2.2.1 rfl ?_
  refine r_i2l gX11_addFromRow_0.2.2.2.2.1 ?_
  refine r_lmul gX11_addFromRow_0.2.2.2.2.2.1 ?_
  refine r_ladd gX11_addFromRow_0.2.2.2.2.2.2.1 ?_
  refine r_nmL fun v1 _ => ?_
  refine r_lstore (L2 := [(0, .ref 0), (1, .int a1), (2, .int a2), (3, .int a3), (4, .long v1)]) gX11_addFromRow_0.2.2.2.2.2.2.2.1 rfl rfl ?_
  refine r_lload (x := v1) gX11_addFromRow_0.2.2.2.2.2.2.2.2.1 rfl ?_
  refine r_ldc2 (v := (3 : Int64)) gX11_addFromRow_0.2.2.2.2.2.2.2.2.2.1 rfl ?_
  refine r_ladd gX11_addFromRow_0.2.2.2.2.2.2.2.2.2.2.1 ?_
  refine r_aload_n (x := 0) gX11_addFromRow_0.2.2.2.2.2.2.2.2.2.2.2.1 rfl ?_
  refine r_getA gX11_addFromRow_0.2.2.2.2.2.2.2.2.2.2.2.2.1 (fa_11_42_0 hE) ?_
  refine r_iload_n (x := a1) gX11_addFromRow_0.2.2.2.2.2.2.2.2.2.2.2.2.2.1 rfl ?_
  refine r_calli (k := 0) (idx := 119) (y := 82) (as := [.ref 26, .int a1]) (rest := [.long (v1 + (3 : Int64))]) (L0 := [(0, .ref 26), (1, .int a1)]) gX11_addFromRow_0.2.2.2.2.2.2.2.2.2.2.2.2.2.2.1 rfl rfl rfl rfl rfl (vok_v (ob_26 hE) rfl) rfl (r_dep (by decide) (e_X7_sizeOf hE q a1)) (fun r2 => ?_)
  refine r_i2l gX11_addFromRow_0.2.2.2.2.2.2.2.2.2.2.2.2.2.2.2.1 ?_
  refine r_lcmp gX11_addFromRow_26.1 ?_
  refine r_if_le (t := 32) gX11_addFromRow_26.2.1 rfl (fun h17 => ?_) (fun h17 => ?_)
  · refine r_aload_n (x := 0) gX11_addFromRow_26.2.2.2.2.1 rfl ?_
    refine r_getA gX11_addFromRow_26.2.2.2.2.2.1 (fa_11_42_0 hE) ?_
    refine r_iload_n (x := a1) gX11_addFromRow_26.2.2.2.2.2.2.1 rfl ?_
    refine r_lload (x := v1) gX11_addFromRow_26.2.2.2.2.2.2.2.1 rfl ?_
    refine r_l2i gX11_addFromRow_26.2.2.2.2.2.2.2.2.1 ?_
    refine r_calll (k := 0) (idx := 122) (y := 92) (as := [.ref 26, .int a1, .int (v1.toInt32)]) (rest := []) (L0 := [(0, .ref 26), (1, .int a1), (2, .int (v1.toInt32))]) gX11_addFromRow_26.2.2.2.2.2.2.2.2.2.1 rfl rfl rfl rfl rfl (vok_v (ob_26 hE) rfl) rfl (r_dep (by decide) (e_X7_get hE q a1 (v1.toInt32))) (fun r3 => ?_)
    refine r_l2i gX11_addFromRow_26.2.2.2.2.2.2.2.2.2.2.1 ?_
    refine r_nmI fun v4 _ => ?_
    refine r_istore (L2 := [(0, .ref 0), (1, .int a1), (2, .int a2), (3, .int a3), (4, .long v1), (6, .int v4)]) gX11_addFromRow_26.2.2.2.2.2.2.2.2.2.2.2.1 rfl rfl ?_
    refine r_aload_n (x := 0) gX11_addFromRow_26.2.2.2.2.2.2.2.2.2.2.2.2.1 rfl ?_
    refine r_getA gX11_addFromRow_26.2.2.2.2.2.2.2.2.2.2.2.2.2.1 (fa_11_42_0 hE) ?_
    refine r_iload_n (x := a1) gX11_addFromRow_26.2.2.2.2.2.2.2.2.2.2.2.2.2.2.1 rfl ?_
    refine r_lload (x := v1) gX11_addFromRow_26.2.2.2.2.2.2.2.2.2.2.2.2.2.2.2.1 rfl ?_
    refine r_l2i gX11_addFromRow_53.1 ?_
    refine r_iconst (v := (1 : Int32)) gX11_addFromRow_53.2.1 rfl ?_
    refine r_iadd gX11_addFromRow_53.2.2.1 ?_
    refine r_calll (k := 0) (idx := 122) (y := 92) (as := [.ref 26, .int a1, .int ((v1.toInt32) + (1 : Int32))]) (rest := []) (L0 := [(0, .ref 26), (1, .int a1), (2, .int ((v1.toInt32) + (1 : Int32)))]) gX11_addFromRow_53.2.2.2.1 rfl rfl rfl rfl rfl (vok_v (ob_26 hE) rfl) rfl (r_dep (by decide) (e_X7_get hE q a1 ((v1.toInt32) + (1 : Int32)))) (fun r5 => ?_)
    refine r_l2i gX11_addFromRow_53.2.2.2.2.1 ?_
    refine r_nmI fun v6 _ => ?_
    refine r_istore (L2 := [(0, .ref 0), (1, .int a1), (2, .int a2), (3, .int a3), (4, .long v1), (6, .int v4), (7, .int v6)]) gX11_addFromRow_53.2.2.2.2.2.1 rfl rfl ?_
    refine r_aload_n (x := 0) gX11_addFromRow_53.2.2.2.2.2.2.1 rfl ?_
    refine r_getA gX11_addFromRow_53.2.2.2.2.2.2.2.1 (fa_11_42_0 hE) ?_
    refine r_iload_n (x := a1) gX11_addFromRow_53.2.2.2.2.2.2.2.2.1 rfl ?_
    refine r_lload (x := v1) gX11_addFromRow_53.2.2.2.2.2.2.2.2.2.1 rfl ?_
    refine r_l2i gX11_addFromRow_53.2.2.2.2.2.2.2.2.2.2.1 ?_
    refine r_iconst (v := (2 : Int32)) gX11_addFromRow_53.2.2.2.2.2.2.2.2.2.2.2.1 rfl ?_
    refine r_iadd gX11_addFromRow_53.2.2.2.2.2.2.2.2.2.2.2.2.1 ?_
    refine r_calll (k := 0) (idx := 122) (y := 92) (as := [.ref 26, .int a1, .int ((v1.toInt32) + (2 : Int32))]) (rest := []) (L0 := [(0, .ref 26), (1, .int a1), (2, .int ((v1.toInt32) + (2 : Int32)))]) gX11_addFromRow_53.2.2.2.2.2.2.2.2.2.2.2.2.2.1 rfl rfl rfl rfl rfl (vok_v (ob_26 hE) rfl) rfl (r_dep (by decide) (e_X7_get hE q a1 ((v1.toInt32) + (2 : Int32)))) (fun r7 => ?_)
    refine r_l2i gX11_addFromRow_53.2.2.2.2.2.2.2.2.2.2.2.2.2.2.1 ?_
    refine r_nmI fun v8 _ => ?_
    refine r_istore (L2 := [(0, .ref 0), (1, .int a1), (2, .int a2), (3, .int a3), (4, .long v1), (6, .int v4), (7, .int v6), (8, .int v8)]) gX11_addFromRow_53.2.2.2.2.2.2.2.2.2.2.2.2.2.2.2.1 rfl rfl ?_
    refine r_aload_n (x := 0) gX11_addFromRow_78.1 rfl ?_
    refine r_getA gX11_addFromRow_78.2.1 (fa_11_10_0 hE) ?_
    refine r_iconst (v := (4 : Int32)) gX11_addFromRow_78.2.2.1 rfl ?_
    refine r_iload (x := v4) gX11_addFromRow_78.2.2.2.1 rfl ?_
    refine r_calli (k := 0) (idx := 94) (y := 133) (as := [.ref 1, .int (4 : Int32), .int v4]) (rest := []) (L0 := [(0, .ref 1), (1, .int (4 : Int32)), (2, .int v4)]) gX11_addFromRow_78.2.2.2.2.1 rfl rfl rfl rfl rfl (vok_v (ob_1 hE) rfl) rfl (r_dep (by decide) (e_X10_mayBe hE q (4 : Int32) v4)) (fun r9 => ?_)
    refine r_if_eq (t := 118) gX11_addFromRow_78.2.2.2.2.2.1 rfl (fun h16 => ?_) (fun h16 => ?_)
    · refine r_iconst (v := (0 : Int32)) gX11_addFromRow_112.2.2.1 rfl ?_
      exact r_ireturn gX11_addFromRow_112.2.2.2.1 rfl rfl
    · refine r_aload_n (x := 0) gX11_addFromRow_78.2.2.2.2.2.2.1 rfl ?_
      refine r_getA gX11_addFromRow_78.2.2.2.2.2.2.2.1 (fa_11_10_0 hE) ?_
      refine r_iconst (v := (5 : Int32)) gX11_addFromRow_78.2.2.2.2.2.2.2.2.1 rfl ?_
      refine r_iload (x := v6) gX11_addFromRow_78.2.2.2.2.2.2.2.2.2.1 rfl ?_
      refine r_calli (k := 0) (idx := 94) (y := 133) (as := [.ref 1, .int (5 : Int32), .int v6]) (rest := []) (L0 := [(0, .ref 1), (1, .int (5 : Int32)), (2, .int v6)]) gX11_addFromRow_78.2.2.2.2.2.2.2.2.2.2.1 rfl rfl rfl rfl rfl (vok_v (ob_1 hE) rfl) rfl (r_dep (by decide) (e_X10_mayBe hE q (5 : Int32) v6)) (fun r10 => ?_)
      refine r_if_eq (t := 118) gX11_addFromRow_78.2.2.2.2.2.2.2.2.2.2.2.1 rfl (fun h15 => ?_) (fun h15 => ?_)
      · refine r_iconst (v := (0 : Int32)) gX11_addFromRow_112.2.2.1 rfl ?_
        exact r_ireturn gX11_addFromRow_112.2.2.2.1 rfl rfl
      · refine r_aload_n (x := 0) gX11_addFromRow_78.2.2.2.2.2.2.2.2.2.2.2.2.1 rfl ?_
        refine r_getA gX11_addFromRow_78.2.2.2.2.2.2.2.2.2.2.2.2.2.1 (fa_11_10_0 hE) ?_
        refine r_bipush (v := (6 : Int32)) gX11_addFromRow_78.2.2.2.2.2.2.2.2.2.2.2.2.2.2.1 rfl ?_
        refine r_iload (x := v8) gX11_addFromRow_78.2.2.2.2.2.2.2.2.2.2.2.2.2.2.2.1 rfl ?_
        refine r_calli (k := 0) (idx := 94) (y := 133) (as := [.ref 1, .int (6 : Int32), .int v8]) (rest := []) (L0 := [(0, .ref 1), (1, .int (6 : Int32)), (2, .int v8)]) gX11_addFromRow_112.1 rfl rfl rfl rfl rfl (vok_v (ob_1 hE) rfl) rfl (r_dep (by decide) (e_X10_mayBe hE q (6 : Int32) v8)) (fun r11 => ?_)
        refine r_if_ne (t := 120) gX11_addFromRow_112.2.1 rfl (fun h14 => ?_) (fun h14 => ?_)
        · refine r_iconst (v := (0 : Int32)) gX11_addFromRow_112.2.2.1 rfl ?_
          exact r_ireturn gX11_addFromRow_112.2.2.2.1 rfl rfl
        · refine r_aload_n (x := 0) gX11_addFromRow_112.2.2.2.2.1 rfl ?_
          refine r_getA gX11_addFromRow_112.2.2.2.2.2.1 (fa_11_10_0 hE) ?_
          refine r_iload (x := v4) gX11_addFromRow_112.2.2.2.2.2.2.1 rfl ?_
          refine r_iload (x := v6) gX11_addFromRow_112.2.2.2.2.2.2.2.1 rfl ?_
          refine r_iload (x := v8) gX11_addFromRow_112.2.2.2.2.2.2.2.2.1 rfl ?_
          refine r_callI (k := 0) (idx := 102) (y := 137) (as := [.ref 1, .int v4, .int v6, .int v8]) (rest := []) (L0 := [(0, .ref 1), (1, .int v4), (2, .int v6), (3, .int v8)]) gX11_addFromRow_112.2.2.2.2.2.2.2.2.2.1 rfl rfl rfl rfl rfl (vok_v (ob_1 hE) rfl) rfl (r_dep (by decide) (e_X10_addTicket hE q v4 v6 v8)) (fun r12 => ?_)
          refine r_bipush (v := (-3 : Int32)) gX11_addFromRow_112.2.2.2.2.2.2.2.2.2.2.1 rfl ?_
          refine r_icmp_eq (t := 142) gX11_addFromRow_112.2.2.2.2.2.2.2.2.2.2.2.1 rfl (fun h13 => ?_) (fun h13 => ?_)
          · refine r_iconst (v := (0 : Int32)) gX11_addFromRow_112.2.2.2.2.2.2.2.2.2.2.2.2.2.2.1 rfl ?_
            exact r_ireturn gX11_addFromRow_112.2.2.2.2.2.2.2.2.2.2.2.2.2.2.2.1 rfl rfl
          · refine r_iconst (v := (1 : Int32)) gX11_addFromRow_112.2.2.2.2.2.2.2.2.2.2.2.2.1 rfl ?_
            refine r_goto (t := 143) gX11_addFromRow_112.2.2.2.2.2.2.2.2.2.2.2.2.2.1 rfl ?_
            exact r_ireturn gX11_addFromRow_112.2.2.2.2.2.2.2.2.2.2.2.2.2.2.2.1 rfl rfl
  · refine r_iconst (v := (0 : Int32)) gX11_addFromRow_26.2.2.1 rfl ?_
    exact r_ireturn gX11_addFromRow_26.2.2.2.1 rfl rfl
def b_X11_tickets_63 : SS → Int32 → Int32 → Int32 → Int32 → Int32 → Option (Int32 × SS) :=
  fx6 (fun (rec_63 : SS → Int32 → Int32 → Int32 → Int32 → Int32 → Option (Int32 × SS)) (q : SS) (l1 : Int32) (l2 : Int32) (l3 : Int32) (l5 : Int32) (l6 : Int32) =>
  if l3 ≤ l6 then
  (some (l5, q))
  else
  ((f_X11_addFromRow q l1 l2 l6).bind fun r3 =>
  if r3.1 = 0 then
  (some (l5, r3.2))
  else
  (rec_63 r3.2 l1 l2 l3 (l5 + (1 : Int32)) (l6 + (1 : Int32))))) FU
theorem rb_X11_tickets_63 {E : EE} (hE : GE E) (q : SS) (l1 : Int32) (l2 : Int32) (l3 : Int32) (l5 : Int32) (l6 : Int32) : R E (κI E) 6 141 63 [(0, .ref 0), (1, .int l1), (2, .int l2), (3, .int l3), (5, .int l5), (6, .int l6)] [] q (b_X11_tickets_63 q l1 l2 l3 l5 l6) := by
  unfold b_X11_tickets_63
  refine fx6_ok (P := fun q l1 l2 l3 l5 l6 o => R E (κI E) 6 141 63 [(0, .ref 0), (1, .int l1), (2, .int l2), (3, .int l3), (5, .int l5), (6, .int l6)] [] q o) (fun _ _ _ _ _ _ => r_no) (fun rec_63 hrec_63 q l1 l2 l3 l5 l6 => ?_) _ _ _ _ _ _ _
  refine r_iload (x := l6) gX11_tickets_60.2.2.1 rfl ?_
  refine r_iload_n (x := l3) gX11_tickets_60.2.2.2.1 rfl ?_
  refine r_icmp_ge (t := 89) gX11_tickets_60.2.2.2.2.1 rfl (fun h5 => ?_) (fun h5 => ?_)
  · refine r_iload (x := l5) gX11_tickets_60.2.2.2.2.2.2.2.2.2.2.2.2.2.2.1 rfl ?_
    exact r_ireturn gX11_tickets_60.2.2.2.2.2.2.2.2.2.2.2.2.2.2.2.1 rfl rfl
  · refine r_aload_n (x := 0) gX11_tickets_60.2.2.2.2.2.1 rfl ?_
    refine r_iload_n (x := l1) gX11_tickets_60.2.2.2.2.2.2.1 rfl ?_
    refine r_iload_n (x := l2) gX11_tickets_60.2.2.2.2.2.2.2.1 rfl ?_
    refine r_iload (x := l6) gX11_tickets_60.2.2.2.2.2.2.2.2.1 rfl ?_
    refine r_callI (k := 0) (idx := 113) (y := 142) (as := [.ref 0, .int l1, .int l2, .int l6]) (rest := []) (L0 := [(0, .ref 0), (1, .int l1), (2, .int l2), (3, .int l6)]) gX11_tickets_60.2.2.2.2.2.2.2.2.2.1 rfl rfl rfl rfl rfl (vok_v (ob_0 hE) rfl) rfl (r_dep (by decide) (e_X11_addFromRow hE q l1 l2 l6)) (fun r3 => ?_)
    refine r_if_eq (t := 89) gX11_tickets_60.2.2.2.2.2.2.2.2.2.2.1 rfl (fun h4 => ?_) (fun h4 => ?_)
    · refine r_iload (x := l5) gX11_tickets_60.2.2.2.2.2.2.2.2.2.2.2.2.2.2.1 rfl ?_
      exact r_ireturn gX11_tickets_60.2.2.2.2.2.2.2.2.2.2.2.2.2.2.2.1 rfl rfl
    · refine r_iinc (x := l5) (v := (l5 + (1 : Int32))) (L2 := [(0, .ref 0), (1, .int l1), (2, .int l2), (3, .int l3), (5, .int (l5 + (1 : Int32))), (6, .int l6)]) gX11_tickets_60.2.2.2.2.2.2.2.2.2.2.2.1 rfl rfl rfl rfl ?_
      refine r_iinc (x := l6) (v := (l6 + (1 : Int32))) (L2 := [(0, .ref 0), (1, .int l1), (2, .int l2), (3, .int l3), (5, .int (l5 + (1 : Int32))), (6, .int (l6 + (1 : Int32)))]) gX11_tickets_60.2.2.2.2.2.2.2.2.2.2.2.2.1 rfl rfl rfl rfl ?_
      refine r_goto (t := 63) gX11_tickets_60.2.2.2.2.2.2.2.2.2.2.2.2.2.1 rfl ?_
      exact r_sub (L' := [(0, .ref 0), (1, .int l1), (2, .int l2), (3, .int l3), (5, .int (l5 + (1 : Int32))), (6, .int (l6 + (1 : Int32)))]) (sub_c rfl (sub_c rfl (sub_c rfl (sub_c rfl (sub_c rfl (sub_c rfl sub_n)))))) (hrec_63 r3.2 l1 l2 l3 (l5 + (1 : Int32)) (l6 + (1 : Int32)))
def f_X11_tickets (q : SS) (a1 : Int32) (a2 : Int32) (a3 : Int32) : Option (Int32 × SS) :=
  (f_X7_isShelf q a1).bind fun r1 =>
  if r1 = 0 then
  (some ((-1 : Int32), q))
  else
  (if a3 < (1 : Int32) then
  (some ((-1 : Int32), q))
  else
  (if a3 ≤ (12 : Int32) then
  ((f_X7_refusalOfBytes q a1).bind fun r2 =>
  if r2 = (-12 : Int32) then
  (some ((-12 : Int32), q))
  else
  (if r2 = (-11 : Int32) then
  (some ((0 : Int32), q))
  else
  (if 0 ≤ a2 then
  (b_X11_tickets_63 q a1 a2 a3 (0 : Int32) (0 : Int32))
  else
  (some ((0 : Int32), q)))))
  else
  (some ((-1 : Int32), q))))
theorem e_X11_tickets {E : EE} (hE : GE E) (q : SS) (a1 : Int32) (a2 : Int32) (a3 : Int32) : R E (κI E) 6 141 0 [(0, .ref 0), (1, .int a1), (2, .int a2), (3, .int a3)] [] q (f_X11_tickets q a1 a2 a3) := by
  unfold f_X11_tickets
  refine r_aload_n (x := 0) gX11_tickets_0.1 rfl ?_
  refine r_getA gX11_tickets_0.2.1 (fa_11_42_0 hE) ?_
  refine r_iload_n (x := a1) gX11_tickets_0.2.2.1 rfl ?_
  refine r_calli (k := 0) (idx := 106) (y := 79) (as := [.ref 26, .int a1]) (rest := []) (L0 := [(0, .ref 26), (1, .int a1)]) gX11_tickets_0.2.2.2.1 rfl rfl rfl rfl rfl (vok_v (ob_26 hE) rfl) rfl (r_dep (by decide) (e_X7_isShelf hE q a1)) (fun r1 => ?_)
  refine r_if_eq (t := 22) gX11_tickets_0.2.2.2.2.1 rfl (fun h11 => ?_) (fun h11 => ?_)
  · refine r_iconst (v := (-1 : Int32)) gX11_tickets_0.2.2.2.2.2.2.2.2.2.2.2.1 rfl ?_
    exact r_ireturn gX11_tickets_0.2.2.2.2.2.2.2.2.2.2.2.2.1 rfl rfl
  · refine r_iload_n (x := a3) gX11_tickets_0.2.2.2.2.2.1 rfl ?_
    refine r_iconst (v := (1 : Int32)) gX11_tickets_0.2.2.2.2.2.2.1 rfl ?_
    refine r_icmp_lt (t := 22) gX11_tickets_0.2.2.2.2.2.2.2.1 rfl (fun h10 => ?_) (fun h10 => ?_)
    · refine r_iconst (v := (-1 : Int32)) gX11_tickets_0.2.2.2.2.2.2.2.2.2.2.2.1 rfl ?_
      exact r_ireturn gX11_tickets_0.2.2.2.2.2.2.2.2.2.2.2.2.1 rfl rfl
    · refine r_iload_n (x := a3) gX11_tickets_0.2.2.2.2.2.2.2.2.1 rfl ?_
      refine r_bipush (v := (12 : Int32)) gX11_tickets_0.2.2.2.2.2.2.2.2.2.1 rfl ?_
      refine r_icmp_le (t := 24) gX11_tickets_0.2.2.2.2.2.2.2.2.2.2.1 rfl (fun h9 => ?_) (fun h9 => ?_)
      · refine r_aload_n (x := 0) gX11_tickets_0.2.2.2.2.2.2.2.2.2.2.2.2.2.1 rfl ?_
        refine r_getA gX11_tickets_0.2.2.2.2.2.2.2.2.2.2.2.2.2.2.1 (fa_11_42_0 hE) ?_
        refine r_iload_n (x := a1) gX11_tickets_0.2.2.2.2.2.2.2.2.2.2.2.2.2.2.2.1 rfl ?_
        refine r_calli (k := 0) (idx := 110) (y := 85) (as := [.ref 26, .int a1]) (rest := []) (L0 := [(0, .ref 26), (1, .int a1)]) gX11_tickets_29.1 rfl rfl rfl rfl rfl (vok_v (ob_26 hE) rfl) rfl (r_dep (by decide) (e_X7_refusalOfBytes hE q a1)) (fun r2 => ?_)
        refine r_istore (L2 := [(0, .ref 0), (1, .int a1), (2, .int a2), (3, .int a3), (4, .int r2)]) gX11_tickets_29.2.1 rfl rfl ?_
        refine r_iload (x := r2) gX11_tickets_29.2.2.1 rfl ?_
        refine r_bipush (v := (-12 : Int32)) gX11_tickets_29.2.2.2.1 rfl ?_
        refine r_icmp_ne (t := 44) gX11_tickets_29.2.2.2.2.1 rfl (fun h8 => ?_) (fun h8 => ?_)
        · refine r_bipush (v := (-12 : Int32)) gX11_tickets_29.2.2.2.2.2.1 rfl ?_
          exact r_ireturn gX11_tickets_29.2.2.2.2.2.2.1 rfl rfl
        · refine r_iload (x := r2) gX11_tickets_29.2.2.2.2.2.2.2.1 rfl ?_
          refine r_bipush (v := (-11 : Int32)) gX11_tickets_29.2.2.2.2.2.2.2.2.1 rfl ?_
          refine r_icmp_eq (t := 55) gX11_tickets_29.2.2.2.2.2.2.2.2.2.1 rfl (fun h7 => ?_) (fun h7 => ?_)
          · refine r_iconst (v := (0 : Int32)) gX11_tickets_29.2.2.2.2.2.2.2.2.2.2.2.2.1 rfl ?_
            exact r_ireturn gX11_tickets_29.2.2.2.2.2.2.2.2.2.2.2.2.2.1 rfl rfl
          · refine r_iload_n (x := a2) gX11_tickets_29.2.2.2.2.2.2.2.2.2.2.1 rfl ?_
            refine r_if_ge (t := 57) gX11_tickets_29.2.2.2.2.2.2.2.2.2.2.2.1 rfl (fun h6 => ?_) (fun h6 => ?_)
            · refine r_iconst (v := (0 : Int32)) gX11_tickets_29.2.2.2.2.2.2.2.2.2.2.2.2.2.2.1 rfl ?_
              refine r_istore (L2 := [(0, .ref 0), (1, .int a1), (2, .int a2), (3, .int a3), (4, .int r2), (5, .int (0 : Int32))]) gX11_tickets_29.2.2.2.2.2.2.2.2.2.2.2.2.2.2.2.1 rfl rfl ?_
              refine r_iconst (v := (0 : Int32)) gX11_tickets_60.1 rfl ?_
              refine r_istore (L2 := [(0, .ref 0), (1, .int a1), (2, .int a2), (3, .int a3), (4, .int r2), (5, .int (0 : Int32)), (6, .int (0 : Int32))]) gX11_tickets_60.2.1 rfl rfl ?_
              exact r_sub (L' := [(0, .ref 0), (1, .int a1), (2, .int a2), (3, .int a3), (5, .int (0 : Int32)), (6, .int (0 : Int32))]) (sub_c rfl (sub_c rfl (sub_c rfl (sub_c rfl (sub_c rfl (sub_c rfl sub_n)))))) (rb_X11_tickets_63 hE q a1 a2 a3 (0 : Int32) (0 : Int32))
            · refine r_iconst (v := (0 : Int32)) gX11_tickets_29.2.2.2.2.2.2.2.2.2.2.2.2.1 rfl ?_
              exact r_ireturn gX11_tickets_29.2.2.2.2.2.2.2.2.2.2.2.2.2.1 rfl rfl
      · refine r_iconst (v := (-1 : Int32)) gX11_tickets_0.2.2.2.2.2.2.2.2.2.2.2.1 rfl ?_
        exact r_ireturn gX11_tickets_0.2.2.2.2.2.2.2.2.2.2.2.2.1 rfl rfl
def f_X12_areTicket (q : SS) (a1 : Int32) (a2 : Int32) : Option Int32 :=
  (f_X12_isOne q a1).bind fun r1 =>
  if r1 = 0 then
  (some (0 : Int32))
  else
  ((f_X12_in q a2 (0 : Int32) (1 : Int32)).bind fun r2 =>
  if r2 = 0 then
  (some (0 : Int32))
  else
  (some (1 : Int32)))
theorem e_X12_areTicket {E : EE} (hE : GE E) (q : SS) (a1 : Int32) (a2 : Int32) : R E (κi E q) 2 194 0 [(0, .ref 60), (1, .int a1), (2, .int a2)] [] q (f_X12_areTicket q a1 a2) := by
  unfold f_X12_areTicket
  refine r_aload_n (x := 60) gX12_areTicket_0.1 rfl ?_
  refine r_iload_n (x := a1) gX12_areTicket_0.2.1 rfl ?_
  refine r_calli (k := 0) (idx := 125) (y := 191) (as := [.ref 60, .int a1]) (rest := []) (L0 := [(0, .ref 60), (1, .int a1)]) gX12_areTicket_0.2.2.1 rfl rfl rfl rfl rfl (vok_v (ob_60 hE) rfl) rfl (r_dep (by decide) (e_X12_isOne hE q a1)) (fun r1 => ?_)
  refine r_if_eq (t := 21) gX12_areTicket_0.2.2.2.1 rfl (fun h4 => ?_) (fun h4 => ?_)
  · refine r_iconst (v := (0 : Int32)) gX12_areTicket_0.2.2.2.2.2.2.2.2.2.2.2.1 rfl ?_
    exact r_ireturn gX12_areTicket_0.2.2.2.2.2.2.2.2.2.2.2.2.1 rfl rfl
  · refine r_iload_n (x := a2) gX12_areTicket_0.2.2.2.2.1 rfl ?_
    refine r_iconst (v := (0 : Int32)) gX12_areTicket_0.2.2.2.2.2.1 rfl ?_
    refine r_iconst (v := (1 : Int32)) gX12_areTicket_0.2.2.2.2.2.2.1 rfl ?_
    refine r_calli (k := 2) (idx := 118) (y := 189) (as := [.int a2, .int (0 : Int32), .int (1 : Int32)]) (rest := []) (L0 := [(0, .int a2), (1, .int (0 : Int32)), (2, .int (1 : Int32))]) gX12_areTicket_0.2.2.2.2.2.2.2.1 rfl rfl rfl rfl rfl vok_s rfl (r_dep (by decide) (e_X12_in hE q a2 (0 : Int32) (1 : Int32))) (fun r2 => ?_)
    refine r_if_eq (t := 21) gX12_areTicket_0.2.2.2.2.2.2.2.2.1 rfl (fun h3 => ?_) (fun h3 => ?_)
    · refine r_iconst (v := (0 : Int32)) gX12_areTicket_0.2.2.2.2.2.2.2.2.2.2.2.1 rfl ?_
      exact r_ireturn gX12_areTicket_0.2.2.2.2.2.2.2.2.2.2.2.2.1 rfl rfl
    · refine r_iconst (v := (1 : Int32)) gX12_areTicket_0.2.2.2.2.2.2.2.2.2.1 rfl ?_
      refine r_goto (t := 22) gX12_areTicket_0.2.2.2.2.2.2.2.2.2.2.1 rfl ?_
      exact r_ireturn gX12_areTicket_0.2.2.2.2.2.2.2.2.2.2.2.2.1 rfl rfl
def f_X12_addTicket (q : SS) (a1 : Int32) (a2 : Int32) (a3 : Int32) : Option (Int32 × SS) :=
  if vin (q.1 60 6) 12 then
  nm (sI q 65 (q.1 60 6).toNatClampNeg a1) fun q1 =>
  if vin (q1.1 60 6) 12 then
  nm (sI q1 66 (q1.1 60 6).toNatClampNeg a2) fun q2 =>
  if vin (q2.1 60 6) 12 then
  nm (sI q2 67 (q2.1 60 6).toNatClampNeg a3) fun q3 =>
  nm (sI q3 60 6 ((q3.1 60 6) + (1 : Int32))) fun q4 =>
  some (((q4.1 60 6) - (1 : Int32)), q4)
  else none
  else none
  else none
theorem e_X12_addTicket {E : EE} (hE : GE E) (q : SS) (a1 : Int32) (a2 : Int32) (a3 : Int32) : R E (κI E) 0 195 0 [(0, .ref 60), (1, .int a1), (2, .int a2), (3, .int a3)] [] q (f_X12_addTicket q a1 a2 a3) := by
  unfold f_X12_addTicket
  refine r_aload_n (x := 60) gX12_addTicket_0.1 rfl ?_
  refine r_getA gX12_addTicket_0.2.1 (fa_12_24_60 hE) ?_
  refine r_aload_n (x := 60) gX12_addTicket_0.2.2.1 rfl ?_
  refine r_getI gX12_addTicket_0.2.2.2.1 (ff_12_122_60 hE) (by decide) ?_
  refine r_iload_n (x := a1) gX12_addTicket_0.2.2.2.2.1 rfl ?_
  refine r_iastore gX12_addTicket_0.2.2.2.2.2.1 (ar_65 hE) ?_
  refine r_nmS fun q1 _ => ?_
  refine r_aload_n (x := 60) gX12_addTicket_0.2.2.2.2.2.2.1 rfl ?_
  refine r_getA gX12_addTicket_0.2.2.2.2.2.2.2.1 (fa_12_27_60 hE) ?_
  refine r_aload_n (x := 60) gX12_addTicket_0.2.2.2.2.2.2.2.2.1 rfl ?_
  refine r_getI gX12_addTicket_0.2.2.2.2.2.2.2.2.2.1 (ff_12_122_60 hE) (by decide) ?_
  refine r_iload_n (x := a2) gX12_addTicket_0.2.2.2.2.2.2.2.2.2.2.1 rfl ?_
  refine r_iastore gX12_addTicket_0.2.2.2.2.2.2.2.2.2.2.2.1 (ar_66 hE) ?_
  refine r_nmS fun q2 _ => ?_
  refine r_aload_n (x := 60) gX12_addTicket_0.2.2.2.2.2.2.2.2.2.2.2.2.1 rfl ?_
  refine r_getA gX12_addTicket_0.2.2.2.2.2.2.2.2.2.2.2.2.2.1 (fa_12_30_60 hE) ?_
  refine r_aload_n (x := 60) gX12_addTicket_0.2.2.2.2.2.2.2.2.2.2.2.2.2.2.1 rfl ?_
  refine r_getI gX12_addTicket_0.2.2.2.2.2.2.2.2.2.2.2.2.2.2.2.1 (ff_12_122_60 hE) (by decide) ?_
  refine r_iload_n (x := a3) gX12_addTicket_28.1 rfl ?_
  refine r_iastore gX12_addTicket_28.2.1 (ar_67 hE) ?_
  refine r_nmS fun q3 _ => ?_
  refine r_aload_n (x := 60) gX12_addTicket_28.2.2.1 rfl ?_
  refine r_dup gX12_addTicket_28.2.2.2.1 rfl ?_
  refine r_getI gX12_addTicket_28.2.2.2.2.1 (ff_12_122_60 hE) (by decide) ?_
  refine r_iconst (v := (1 : Int32)) gX12_addTicket_28.2.2.2.2.2.1 rfl ?_
  refine r_iadd gX12_addTicket_28.2.2.2.2.2.2.1 ?_
  refine r_putI gX12_addTicket_28.2.2.2.2.2.2.2.1 (ff_12_122_60 hE) ?_
  refine r_nmS fun q4 _ => ?_
  refine r_aload_n (x := 60) gX12_addTicket_28.2.2.2.2.2.2.2.2.1 rfl ?_
  refine r_getI gX12_addTicket_28.2.2.2.2.2.2.2.2.2.1 (ff_12_122_60 hE) (by decide) ?_
  refine r_iconst (v := (1 : Int32)) gX12_addTicket_28.2.2.2.2.2.2.2.2.2.2.1 rfl ?_
  refine r_isub gX12_addTicket_28.2.2.2.2.2.2.2.2.2.2.2.1 ?_
  exact r_ireturn gX12_addTicket_28.2.2.2.2.2.2.2.2.2.2.2.2.1 rfl rfl
def b_X12_tickets_58 : SS → Int32 → Int32 → Int32 → Int32 → Option (Int32 × SS) :=
  fx5 (fun (rec_58 : SS → Int32 → Int32 → Int32 → Int32 → Option (Int32 × SS)) (q : SS) (l1 : Int32) (l2 : Int32) (l3 : Int32) (l4 : Int32) =>
  if l3 ≤ l4 then
  (some (l3, q))
  else
  (nm ((l2.toInt64) + (((3 : Int32) * l4).toInt64)) fun v3 =>
  if (lg_cmp v3 (0 : Int64)) < 0 then
  (some (l4, q))
  else
  (if vin l1 6 then
  if 0 ≤ (lg_cmp (v3 + (2 : Int64)) ((q.1 90 l1.toNatClampNeg).toInt64)) then
  (some (l4, q))
  else
  (if (q.1 60 6) = (12 : Int32) then
  (some (l4, q))
  else
  (nm (((60 : Int32) * l1) + (v3.toInt32)) fun v4 =>
  if vin v4 360 then
  if vin (v4 + (1 : Int32)) 360 then
  (f_X12_areTicket q ((q.2 91 v4.toNatClampNeg).toInt32) ((q.2 91 (v4 + (1 : Int32)).toNatClampNeg).toInt32)).bind fun r5 =>
  if r5 = 0 then
  (some (l4, q))
  else
  (if vin (v4 + (2 : Int32)) 360 then
  (f_X12_in q ((q.2 91 (v4 + (2 : Int32)).toNatClampNeg).toInt32) (0 : Int32) (4 : Int32)).bind fun r6 =>
  if r6 = 0 then
  (some (l4, q))
  else
  (if vin v4 360 then
  if vin (v4 + (1 : Int32)) 360 then
  if vin (v4 + (2 : Int32)) 360 then
  (f_X12_addTicket q ((q.2 91 v4.toNatClampNeg).toInt32) ((q.2 91 (v4 + (1 : Int32)).toNatClampNeg).toInt32) ((q.2 91 (v4 + (2 : Int32)).toNatClampNeg).toInt32)).bind fun r7 =>
  rec_58 r7.2 l1 l2 l3 (l4 + (1 : Int32))
  else none
  else none
  else none)
  else none)
  else none
  else none))
  else none))) FU
theorem rb_X12_tickets_58 {E : EE} (hE : GE E) (q : SS) (l1 : Int32) (l2 : Int32) (l3 : Int32) (l4 : Int32) : R E (κI E) 3 197 58 [(0, .ref 60), (1, .int l1), (2, .int l2), (3, .int l3), (4, .int l4)] [] q (b_X12_tickets_58 q l1 l2 l3 l4) := by
  unfold b_X12_tickets_58
  refine fx5_ok (P := fun q l1 l2 l3 l4 o => R E (κI E) 3 197 58 [(0, .ref 60), (1, .int l1), (2, .int l2), (3, .int l3), (4, .int l4)] [] q o) (fun _ _ _ _ _ => r_no) (fun rec_58 hrec_58 q l1 l2 l3 l4 => ?_) _ _ _ _ _ _
  refine r_iload (x := l4) gX12_tickets_55.2.2.1 rfl ?_
  refine r_iload_n (x := l3) gX12_tickets_55.2.2.2.1 rfl ?_
  refine r_icmp_ge (t := 205) gX12_tickets_55.2.2.2.2.1 rfl (fun h13 => ?_) (fun h13 => ?_)
  · refine r_iload_n (x := l3) gX12_tickets_184.2.2.2.2.2.2.2.2.2.2.2.2.1 rfl ?_
    exact r_ireturn gX12_tickets_184.2.2.2.2.2.2.2.2.2.2.2.2.2.1 rfl rfl
  · refine r_iload_n (x := l2) gX12_tickets_55.2.2.2.2.2.1 rfl ?_
    refine r_i2l gX12_tickets_55.2.2.2.2.2.2.1 ?_
    refine r_iconst (v := (3 : Int32)) gX12_tickets_55.2.2.2.2.2.2.2.1 rfl ?_
    refine r_iload (x := l4) gX12_tickets_55.2.2.2.2.2.2.2.2.1 rfl ?_
    refine r_imul gX12_tickets_55.2.2.2.2.2.2.2.2.2.1 ?_
    refine r_i2l gX12_tickets_55.2.2.2.2.2.2.2.2.2.2.1 ?_
    refine r_ladd gX12_tickets_55.2.2.2.2.2.2.2.2.2.2.2.1 ?_
    refine r_nmL fun v3 _ => ?_
    refine r_lstore (L2 := [(0, .ref 60), (1, .int l1), (2, .int l2), (3, .int l3), (4, .int l4), (5, .long v3)]) gX12_tickets_55.2.2.2.2.2.2.2.2.2.2.2.2.1 rfl rfl ?_
    refine r_lload (x := v3) gX12_tickets_55.2.2.2.2.2.2.2.2.2.2.2.2.2.1 rfl ?_
    refine r_lconst (v := (0 : Int64)) gX12_tickets_55.2.2.2.2.2.2.2.2.2.2.2.2.2.2.1 rfl ?_
    refine r_lcmp gX12_tickets_55.2.2.2.2.2.2.2.2.2.2.2.2.2.2.2.1 ?_
    refine r_if_lt (t := 107) gX12_tickets_78.1 rfl (fun h12 => ?_) (fun h12 => ?_)
    · refine r_iload (x := l4) gX12_tickets_78.2.2.2.2.2.2.2.2.2.2.2.2.2.2.2.1 rfl ?_
      exact r_ireturn gX12_tickets_109.1 rfl rfl
    · refine r_lload (x := v3) gX12_tickets_78.2.1 rfl ?_
      refine r_ldc2 (v := (2 : Int64)) gX12_tickets_78.2.2.1 rfl ?_
      refine r_ladd gX12_tickets_78.2.2.2.1 ?_
      refine r_aload_n (x := 60) gX12_tickets_78.2.2.2.2.1 rfl ?_
      refine r_getA gX12_tickets_78.2.2.2.2.2.1 (fa_12_101_60 hE) ?_
      refine r_iload_n (x := l1) gX12_tickets_78.2.2.2.2.2.2.1 rfl ?_
      refine r_iaload gX12_tickets_78.2.2.2.2.2.2.2.1 (ar_90 hE) ?_
      refine r_i2l gX12_tickets_78.2.2.2.2.2.2.2.2.1 ?_
      refine r_lcmp gX12_tickets_78.2.2.2.2.2.2.2.2.2.1 ?_
      refine r_if_ge (t := 107) gX12_tickets_78.2.2.2.2.2.2.2.2.2.2.1 rfl (fun h11 => ?_) (fun h11 => ?_)
      · refine r_iload (x := l4) gX12_tickets_78.2.2.2.2.2.2.2.2.2.2.2.2.2.2.2.1 rfl ?_
        exact r_ireturn gX12_tickets_109.1 rfl rfl
      · refine r_aload_n (x := 60) gX12_tickets_78.2.2.2.2.2.2.2.2.2.2.2.1 rfl ?_
        refine r_getI gX12_tickets_78.2.2.2.2.2.2.2.2.2.2.2.2.1 (ff_12_122_60 hE) (by decide) ?_
        refine r_bipush (v := (12 : Int32)) gX12_tickets_78.2.2.2.2.2.2.2.2.2.2.2.2.2.1 rfl ?_
        refine r_icmp_ne (t := 110) gX12_tickets_78.2.2.2.2.2.2.2.2.2.2.2.2.2.2.1 rfl (fun h10 => ?_) (fun h10 => ?_)
        · refine r_iload (x := l4) gX12_tickets_78.2.2.2.2.2.2.2.2.2.2.2.2.2.2.2.1 rfl ?_
          exact r_ireturn gX12_tickets_109.1 rfl rfl
        · refine r_bipush (v := (60 : Int32)) gX12_tickets_109.2.1 rfl ?_
          refine r_iload_n (x := l1) gX12_tickets_109.2.2.1 rfl ?_
          refine r_imul gX12_tickets_109.2.2.2.1 ?_
          refine r_lload (x := v3) gX12_tickets_109.2.2.2.2.1 rfl ?_
          refine r_l2i gX12_tickets_109.2.2.2.2.2.1 ?_
          refine r_iadd gX12_tickets_109.2.2.2.2.2.2.1 ?_
          refine r_nmI fun v4 _ => ?_
          refine r_istore (L2 := [(0, .ref 60), (1, .int l1), (2, .int l2), (3, .int l3), (4, .int l4), (5, .long v3), (7, .int v4)]) gX12_tickets_109.2.2.2.2.2.2.2.1 rfl rfl ?_
          refine r_aload_n (x := 60) gX12_tickets_109.2.2.2.2.2.2.2.2.1 rfl ?_
          refine r_aload_n (x := 60) gX12_tickets_109.2.2.2.2.2.2.2.2.2.1 rfl ?_
          refine r_getA gX12_tickets_109.2.2.2.2.2.2.2.2.2.2.1 (fa_12_104_60 hE) ?_
          refine r_iload (x := v4) gX12_tickets_109.2.2.2.2.2.2.2.2.2.2.2.1 rfl ?_
          refine r_laload gX12_tickets_109.2.2.2.2.2.2.2.2.2.2.2.2.1 (ar_91 hE) ?_
          refine r_l2i gX12_tickets_109.2.2.2.2.2.2.2.2.2.2.2.2.2.1 ?_
          refine r_aload_n (x := 60) gX12_tickets_109.2.2.2.2.2.2.2.2.2.2.2.2.2.2.1 rfl ?_
          refine r_getA gX12_tickets_109.2.2.2.2.2.2.2.2.2.2.2.2.2.2.2.1 (fa_12_104_60 hE) ?_
          refine r_iload (x := v4) gX12_tickets_133.1 rfl ?_
          refine r_iconst (v := (1 : Int32)) gX12_tickets_133.2.1 rfl ?_
          refine r_iadd gX12_tickets_133.2.2.1 ?_
          refine r_laload gX12_tickets_133.2.2.2.1 (ar_91 hE) ?_
          refine r_l2i gX12_tickets_133.2.2.2.2.1 ?_
          refine r_calli (k := 0) (idx := 129) (y := 194) (as := [.ref 60, .int ((q.2 91 v4.toNatClampNeg).toInt32), .int ((q.2 91 (v4 + (1 : Int32)).toNatClampNeg).toInt32)]) (rest := []) (L0 := [(0, .ref 60), (1, .int ((q.2 91 v4.toNatClampNeg).toInt32)), (2, .int ((q.2 91 (v4 + (1 : Int32)).toNatClampNeg).toInt32))]) gX12_tickets_133.2.2.2.2.2.1 rfl rfl rfl rfl rfl (vok_v (ob_60 hE) rfl) rfl (r_dep (by decide) (e_X12_areTicket hE q ((q.2 91 v4.toNatClampNeg).toInt32) ((q.2 91 (v4 + (1 : Int32)).toNatClampNeg).toInt32))) (fun r5 => ?_)
          refine r_if_eq (t := 163) gX12_tickets_133.2.2.2.2.2.2.1 rfl (fun h9 => ?_) (fun h9 => ?_)
          · refine r_iload (x := l4) gX12_tickets_157.2.2.1 rfl ?_
            exact r_ireturn gX12_tickets_157.2.2.2.1 rfl rfl
          · refine r_aload_n (x := 60) gX12_tickets_133.2.2.2.2.2.2.2.1 rfl ?_
            refine r_getA gX12_tickets_133.2.2.2.2.2.2.2.2.1 (fa_12_104_60 hE) ?_
            refine r_iload (x := v4) gX12_tickets_133.2.2.2.2.2.2.2.2.2.1 rfl ?_
            refine r_iconst (v := (2 : Int32)) gX12_tickets_133.2.2.2.2.2.2.2.2.2.2.1 rfl ?_
            refine r_iadd gX12_tickets_133.2.2.2.2.2.2.2.2.2.2.2.1 ?_
            refine r_laload gX12_tickets_133.2.2.2.2.2.2.2.2.2.2.2.2.1 (ar_91 hE) ?_
            refine r_l2i gX12_tickets_133.2.2.2.2.2.2.2.2.2.2.2.2.2.1 ?_
            refine r_iconst (v := (0 : Int32)) gX12_tickets_133.2.2.2.2.2.2.2.2.2.2.2.2.2.2.1 rfl ?_
            refine r_iconst (v := (4 : Int32)) gX12_tickets_133.2.2.2.2.2.2.2.2.2.2.2.2.2.2.2.1 rfl ?_
            refine r_calli (k := 2) (idx := 118) (y := 189) (as := [.int ((q.2 91 (v4 + (2 : Int32)).toNatClampNeg).toInt32), .int (0 : Int32), .int (4 : Int32)]) (rest := []) (L0 := [(0, .int ((q.2 91 (v4 + (2 : Int32)).toNatClampNeg).toInt32)), (1, .int (0 : Int32)), (2, .int (4 : Int32))]) gX12_tickets_157.1 rfl rfl rfl rfl rfl vok_s rfl (r_dep (by decide) (e_X12_in hE q ((q.2 91 (v4 + (2 : Int32)).toNatClampNeg).toInt32) (0 : Int32) (4 : Int32))) (fun r6 => ?_)
            refine r_if_ne (t := 166) gX12_tickets_157.2.1 rfl (fun h8 => ?_) (fun h8 => ?_)
            · refine r_iload (x := l4) gX12_tickets_157.2.2.1 rfl ?_
              exact r_ireturn gX12_tickets_157.2.2.2.1 rfl rfl
            · refine r_aload_n (x := 60) gX12_tickets_157.2.2.2.2.1 rfl ?_
              refine r_aload_n (x := 60) gX12_tickets_157.2.2.2.2.2.1 rfl ?_
              refine r_getA gX12_tickets_157.2.2.2.2.2.2.1 (fa_12_104_60 hE) ?_
              refine r_iload (x := v4) gX12_tickets_157.2.2.2.2.2.2.2.1 rfl ?_
              refine r_laload gX12_tickets_157.2.2.2.2.2.2.2.2.1 (ar_91 hE) ?_
              refine r_l2i gX12_tickets_157.2.2.2.2.2.2.2.2.2.1 ?_
              refine r_aload_n (x := 60) gX12_tickets_157.2.2.2.2.2.2.2.2.2.2.1 rfl ?_
              refine r_getA gX12_tickets_157.2.2.2.2.2.2.2.2.2.2.2.1 (fa_12_104_60 hE) ?_
              refine r_iload (x := v4) gX12_tickets_157.2.2.2.2.2.2.2.2.2.2.2.2.1 rfl ?_
              refine r_iconst (v := (1 : Int32)) gX12_tickets_157.2.2.2.2.2.2.2.2.2.2.2.2.2.1 rfl ?_
              refine r_iadd gX12_tickets_157.2.2.2.2.2.2.2.2.2.2.2.2.2.2.1 ?_
              refine r_laload gX12_tickets_157.2.2.2.2.2.2.2.2.2.2.2.2.2.2.2.1 (ar_91 hE) ?_
              refine r_l2i gX12_tickets_184.1 ?_
              refine r_aload_n (x := 60) gX12_tickets_184.2.1 rfl ?_
              refine r_getA gX12_tickets_184.2.2.1 (fa_12_104_60 hE) ?_
              refine r_iload (x := v4) gX12_tickets_184.2.2.2.1 rfl ?_
              refine r_iconst (v := (2 : Int32)) gX12_tickets_184.2.2.2.2.1 rfl ?_
              refine r_iadd gX12_tickets_184.2.2.2.2.2.1 ?_
              refine r_laload gX12_tickets_184.2.2.2.2.2.2.1 (ar_91 hE) ?_
              refine r_l2i gX12_tickets_184.2.2.2.2.2.2.2.1 ?_
              refine r_callI (k := 0) (idx := 133) (y := 195) (as := [.ref 60, .int ((q.2 91 v4.toNatClampNeg).toInt32), .int ((q.2 91 (v4 + (1 : Int32)).toNatClampNeg).toInt32), .int ((q.2 91 (v4 + (2 : Int32)).toNatClampNeg).toInt32)]) (rest := []) (L0 := [(0, .ref 60), (1, .int ((q.2 91 v4.toNatClampNeg).toInt32)), (2, .int ((q.2 91 (v4 + (1 : Int32)).toNatClampNeg).toInt32)), (3, .int ((q.2 91 (v4 + (2 : Int32)).toNatClampNeg).toInt32))]) gX12_tickets_184.2.2.2.2.2.2.2.2.1 rfl rfl rfl rfl rfl (vok_v (ob_60 hE) rfl) rfl (r_dep (by decide) (e_X12_addTicket hE q ((q.2 91 v4.toNatClampNeg).toInt32) ((q.2 91 (v4 + (1 : Int32)).toNatClampNeg).toInt32) ((q.2 91 (v4 + (2 : Int32)).toNatClampNeg).toInt32))) (fun r7 => ?_)
              refine r_pop gX12_tickets_184.2.2.2.2.2.2.2.2.2.1 rfl ?_
              refine r_iinc (x := l4) (v := (l4 + (1 : Int32))) (L2 := [(0, .ref 60), (1, .int l1), (2, .int l2), (3, .int l3), (4, .int (l4 + (1 : Int32))), (5, .long v3), (7, .int v4)]) gX12_tickets_184.2.2.2.2.2.2.2.2.2.2.1 rfl rfl rfl rfl ?_
              refine r_goto (t := 58) gX12_tickets_184.2.2.2.2.2.2.2.2.2.2.2.1 rfl ?_
              exact r_sub (L' := [(0, .ref 60), (1, .int l1), (2, .int l2), (3, .int l3), (4, .int (l4 + (1 : Int32)))]) (sub_c rfl (sub_c rfl (sub_c rfl (sub_c rfl (sub_c rfl sub_n))))) (hrec_58 r7.2 l1 l2 l3 (l4 + (1 : Int32)))
def b_X12_tickets_43 (q : SS) (l1 : Int32) (l2 : Int32) (l3 : Int32) : Option (Int32 × SS) :=
  if vin l1 6 then
  if (q.1 89 l1.toNatClampNeg) = (-1 : Int32) then
  (some ((0 : Int32), q))
  else
  (b_X12_tickets_58 q l1 l2 l3 (0 : Int32))
  else none
theorem rb_X12_tickets_43 {E : EE} (hE : GE E) (q : SS) (l1 : Int32) (l2 : Int32) (l3 : Int32) : R E (κI E) 3 197 43 [(0, .ref 60), (1, .int l1), (2, .int l2), (3, .int l3)] [] q (b_X12_tickets_43 q l1 l2 l3) := by
  unfold b_X12_tickets_43
  refine r_aload_n (x := 60) gX12_tickets_29.2.2.2.2.2.2.2.2.1 rfl ?_
  refine r_getA gX12_tickets_29.2.2.2.2.2.2.2.2.2.1 (fa_12_98_60 hE) ?_
  refine r_iload_n (x := l1) gX12_tickets_29.2.2.2.2.2.2.2.2.2.2.1 rfl ?_
  refine r_iaload gX12_tickets_29.2.2.2.2.2.2.2.2.2.2.2.1 (ar_89 hE) ?_
  refine r_iconst (v := (-1 : Int32)) gX12_tickets_29.2.2.2.2.2.2.2.2.2.2.2.2.1 rfl ?_
  refine r_icmp_ne (t := 55) gX12_tickets_29.2.2.2.2.2.2.2.2.2.2.2.2.2.1 rfl (fun h14 => ?_) (fun h14 => ?_)
  · refine r_iconst (v := (0 : Int32)) gX12_tickets_29.2.2.2.2.2.2.2.2.2.2.2.2.2.2.1 rfl ?_
    exact r_ireturn gX12_tickets_29.2.2.2.2.2.2.2.2.2.2.2.2.2.2.2.1 rfl rfl
  · refine r_iconst (v := (0 : Int32)) gX12_tickets_55.1 rfl ?_
    refine r_istore (L2 := [(0, .ref 60), (1, .int l1), (2, .int l2), (3, .int l3), (4, .int (0 : Int32))]) gX12_tickets_55.2.1 rfl rfl ?_
    exact r_sub (L' := [(0, .ref 60), (1, .int l1), (2, .int l2), (3, .int l3), (4, .int (0 : Int32))]) (sub_c rfl (sub_c rfl (sub_c rfl (sub_c rfl (sub_c rfl sub_n))))) (rb_X12_tickets_58 hE q l1 l2 l3 (0 : Int32))
def f_X12_tickets (q : SS) (a1 : Int32) (a2 : Int32) (a3 : Int32) : Option (Int32 × SS) :=
  (f_X12_isShelf q a1).bind fun r1 =>
  if r1 = 0 then
  (some ((-1 : Int32), q))
  else
  ((f_X12_in q a3 (1 : Int32) (12 : Int32)).bind fun r2 =>
  if r2 = 0 then
  (some ((-1 : Int32), q))
  else
  (if vin a1 6 then
  if (q.1 89 a1.toNatClampNeg) = (-1 : Int32) then
  (b_X12_tickets_43 q a1 a2 a3)
  else
  (if vin a1 6 then
  if (q.1 89 a1.toNatClampNeg) = (-2 : Int32) then
  (b_X12_tickets_43 q a1 a2 a3)
  else
  (some ((-12 : Int32), q))
  else none)
  else none))
theorem e_X12_tickets {E : EE} (hE : GE E) (q : SS) (a1 : Int32) (a2 : Int32) (a3 : Int32) : R E (κI E) 3 197 0 [(0, .ref 60), (1, .int a1), (2, .int a2), (3, .int a3)] [] q (f_X12_tickets q a1 a2 a3) := by
  unfold f_X12_tickets
  refine r_iload_n (x := a1) gX12_tickets_0.1 rfl ?_
  refine r_calli (k := 2) (idx := 137) (y := 288) (as := [.int a1]) (rest := []) (L0 := [(0, .int a1)]) gX12_tickets_0.2.1 rfl rfl rfl rfl rfl vok_s rfl (r_dep (by decide) (e_X12_isShelf hE q a1)) (fun r1 => ?_)
  refine r_if_eq (t := 17) gX12_tickets_0.2.2.1 rfl (fun h18 => ?_) (fun h18 => ?_)
  · refine r_iconst (v := (-1 : Int32)) gX12_tickets_0.2.2.2.2.2.2.2.2.1 rfl ?_
    exact r_ireturn gX12_tickets_0.2.2.2.2.2.2.2.2.2.1 rfl rfl
  · refine r_iload_n (x := a3) gX12_tickets_0.2.2.2.1 rfl ?_
    refine r_iconst (v := (1 : Int32)) gX12_tickets_0.2.2.2.2.1 rfl ?_
    refine r_bipush (v := (12 : Int32)) gX12_tickets_0.2.2.2.2.2.1 rfl ?_
    refine r_calli (k := 2) (idx := 118) (y := 189) (as := [.int a3, .int (1 : Int32), .int (12 : Int32)]) (rest := []) (L0 := [(0, .int a3), (1, .int (1 : Int32)), (2, .int (12 : Int32))]) gX12_tickets_0.2.2.2.2.2.2.1 rfl rfl rfl rfl rfl vok_s rfl (r_dep (by decide) (e_X12_in hE q a3 (1 : Int32) (12 : Int32))) (fun r2 => ?_)
    refine r_if_ne (t := 19) gX12_tickets_0.2.2.2.2.2.2.2.1 rfl (fun h17 => ?_) (fun h17 => ?_)
    · refine r_iconst (v := (-1 : Int32)) gX12_tickets_0.2.2.2.2.2.2.2.2.1 rfl ?_
      exact r_ireturn gX12_tickets_0.2.2.2.2.2.2.2.2.2.1 rfl rfl
    · refine r_aload_n (x := 60) gX12_tickets_0.2.2.2.2.2.2.2.2.2.2.1 rfl ?_
      refine r_getA gX12_tickets_0.2.2.2.2.2.2.2.2.2.2.2.1 (fa_12_98_60 hE) ?_
      refine r_iload_n (x := a1) gX12_tickets_0.2.2.2.2.2.2.2.2.2.2.2.2.1 rfl ?_
      refine r_iaload gX12_tickets_0.2.2.2.2.2.2.2.2.2.2.2.2.2.1 (ar_89 hE) ?_
      refine r_iconst (v := (-1 : Int32)) gX12_tickets_0.2.2.2.2.2.2.2.2.2.2.2.2.2.2.1 rfl ?_
      refine r_icmp_eq (t := 43) gX12_tickets_0.2.2.2.2.2.2.2.2.2.2.2.2.2.2.2.1 rfl (fun h16 => ?_) (fun h16 => ?_)
      · exact r_sub (L' := [(0, .ref 60), (1, .int a1), (2, .int a2), (3, .int a3)]) (sub_c rfl (sub_c rfl (sub_c rfl (sub_c rfl sub_n)))) (rb_X12_tickets_43 hE q a1 a2 a3)
      · refine r_aload_n (x := 60) gX12_tickets_29.1 rfl ?_
        refine r_getA gX12_tickets_29.2.1 (fa_12_98_60 hE) ?_
        refine r_iload_n (x := a1) gX12_tickets_29.2.2.1 rfl ?_
        refine r_iaload gX12_tickets_29.2.2.2.1 (ar_89 hE) ?_
        refine r_bipush (v := (-2 : Int32)) gX12_tickets_29.2.2.2.2.1 rfl ?_
        refine r_icmp_eq (t := 43) gX12_tickets_29.2.2.2.2.2.1 rfl (fun h15 => ?_) (fun h15 => ?_)
        · exact r_sub (L' := [(0, .ref 60), (1, .int a1), (2, .int a2), (3, .int a3)]) (sub_c rfl (sub_c rfl (sub_c rfl (sub_c rfl sub_n)))) (rb_X12_tickets_43 hE q a1 a2 a3)
        · refine r_bipush (v := (-12 : Int32)) gX12_tickets_29.2.2.2.2.2.2.1 rfl ?_
          exact r_ireturn gX12_tickets_29.2.2.2.2.2.2.2.1 rfl rfl
def f_X11_ticket (q : SS) (a1 : Int32) (a2 : Int32) : Option (Int32 × SS) :=
  (f_X10_mayBe q (4 : Int32) a1).bind fun r1 =>
  if r1 = 0 then
  (some ((-1 : Int32), q))
  else
  ((f_X10_mayBe q (5 : Int32) a2).bind fun r2 =>
  if r2 = 0 then
  (some ((-1 : Int32), q))
  else
  ((f_X10_addTicket q a1 a2 (0 : Int32)).bind fun r3 =>
  some (r3.1, r3.2)))
theorem e_X11_ticket {E : EE} (hE : GE E) (q : SS) (a1 : Int32) (a2 : Int32) : R E (κI E) 3 140 0 [(0, .ref 0), (1, .int a1), (2, .int a2)] [] q (f_X11_ticket q a1 a2) := by
  unfold f_X11_ticket
  refine r_aload_n (x := 0) gX11_ticket_0.1 rfl ?_
  refine r_getA gX11_ticket_0.2.1 (fa_11_10_0 hE) ?_
  refine r_iconst (v := (4 : Int32)) gX11_ticket_0.2.2.1 rfl ?_
  refine r_iload_n (x := a1) gX11_ticket_0.2.2.2.1 rfl ?_
  refine r_calli (k := 0) (idx := 94) (y := 133) (as := [.ref 1, .int (4 : Int32), .int a1]) (rest := []) (L0 := [(0, .ref 1), (1, .int (4 : Int32)), (2, .int a1)]) gX11_ticket_0.2.2.2.2.1 rfl rfl rfl rfl rfl (vok_v (ob_1 hE) rfl) rfl (r_dep (by decide) (e_X10_mayBe hE q (4 : Int32) a1)) (fun r1 => ?_)
  refine r_if_eq (t := 24) gX11_ticket_0.2.2.2.2.2.1 rfl (fun h5 => ?_) (fun h5 => ?_)
  · refine r_iconst (v := (-1 : Int32)) gX11_ticket_0.2.2.2.2.2.2.2.2.2.2.2.2.1 rfl ?_
    exact r_ireturn gX11_ticket_0.2.2.2.2.2.2.2.2.2.2.2.2.2.1 rfl rfl
  · refine r_aload_n (x := 0) gX11_ticket_0.2.2.2.2.2.2.1 rfl ?_
    refine r_getA gX11_ticket_0.2.2.2.2.2.2.2.1 (fa_11_10_0 hE) ?_
    refine r_iconst (v := (5 : Int32)) gX11_ticket_0.2.2.2.2.2.2.2.2.1 rfl ?_
    refine r_iload_n (x := a2) gX11_ticket_0.2.2.2.2.2.2.2.2.2.1 rfl ?_
    refine r_calli (k := 0) (idx := 94) (y := 133) (as := [.ref 1, .int (5 : Int32), .int a2]) (rest := []) (L0 := [(0, .ref 1), (1, .int (5 : Int32)), (2, .int a2)]) gX11_ticket_0.2.2.2.2.2.2.2.2.2.2.1 rfl rfl rfl rfl rfl (vok_v (ob_1 hE) rfl) rfl (r_dep (by decide) (e_X10_mayBe hE q (5 : Int32) a2)) (fun r2 => ?_)
    refine r_if_ne (t := 26) gX11_ticket_0.2.2.2.2.2.2.2.2.2.2.2.1 rfl (fun h4 => ?_) (fun h4 => ?_)
    · refine r_iconst (v := (-1 : Int32)) gX11_ticket_0.2.2.2.2.2.2.2.2.2.2.2.2.1 rfl ?_
      exact r_ireturn gX11_ticket_0.2.2.2.2.2.2.2.2.2.2.2.2.2.1 rfl rfl
    · refine r_aload_n (x := 0) gX11_ticket_0.2.2.2.2.2.2.2.2.2.2.2.2.2.2.1 rfl ?_
      refine r_getA gX11_ticket_0.2.2.2.2.2.2.2.2.2.2.2.2.2.2.2.1 (fa_11_10_0 hE) ?_
      refine r_iload_n (x := a1) gX11_ticket_30.1 rfl ?_
      refine r_iload_n (x := a2) gX11_ticket_30.2.1 rfl ?_
      refine r_iconst (v := (0 : Int32)) gX11_ticket_30.2.2.1 rfl ?_
      refine r_callI (k := 0) (idx := 102) (y := 137) (as := [.ref 1, .int a1, .int a2, .int (0 : Int32)]) (rest := []) (L0 := [(0, .ref 1), (1, .int a1), (2, .int a2), (3, .int (0 : Int32))]) gX11_ticket_30.2.2.2.1 rfl rfl rfl rfl rfl (vok_v (ob_1 hE) rfl) rfl (r_dep (by decide) (e_X10_addTicket hE q a1 a2 (0 : Int32))) (fun r3 => ?_)
      exact r_ireturn gX11_ticket_30.2.2.2.2.1 rfl rfl
def f_X12_ticket (q : SS) (a1 : Int32) (a2 : Int32) : Option (Int32 × SS) :=
  (f_X12_areTicket q a1 a2).bind fun r1 =>
  if r1 = 0 then
  (some ((-1 : Int32), q))
  else
  (if (q.1 60 6) = (12 : Int32) then
  (some ((-3 : Int32), q))
  else
  ((f_X12_addTicket q a1 a2 (0 : Int32)).bind fun r2 =>
  some (r2.1, r2.2)))
theorem e_X12_ticket {E : EE} (hE : GE E) (q : SS) (a1 : Int32) (a2 : Int32) : R E (κI E) 3 196 0 [(0, .ref 60), (1, .int a1), (2, .int a2)] [] q (f_X12_ticket q a1 a2) := by
  unfold f_X12_ticket
  refine r_aload_n (x := 60) gX12_ticket_0.1 rfl ?_
  refine r_iload_n (x := a1) gX12_ticket_0.2.1 rfl ?_
  refine r_iload_n (x := a2) gX12_ticket_0.2.2.1 rfl ?_
  refine r_calli (k := 0) (idx := 129) (y := 194) (as := [.ref 60, .int a1, .int a2]) (rest := []) (L0 := [(0, .ref 60), (1, .int a1), (2, .int a2)]) gX12_ticket_0.2.2.2.1 rfl rfl rfl rfl rfl (vok_v (ob_60 hE) rfl) rfl (r_dep (by decide) (e_X12_areTicket hE q a1 a2)) (fun r1 => ?_)
  refine r_if_ne (t := 11) gX12_ticket_0.2.2.2.2.1 rfl (fun h4 => ?_) (fun h4 => ?_)
  · refine r_iconst (v := (-1 : Int32)) gX12_ticket_0.2.2.2.2.2.1 rfl ?_
    exact r_ireturn gX12_ticket_0.2.2.2.2.2.2.1 rfl rfl
  · refine r_aload_n (x := 60) gX12_ticket_0.2.2.2.2.2.2.2.1 rfl ?_
    refine r_getI gX12_ticket_0.2.2.2.2.2.2.2.2.1 (ff_12_122_60 hE) (by decide) ?_
    refine r_bipush (v := (12 : Int32)) gX12_ticket_0.2.2.2.2.2.2.2.2.2.1 rfl ?_
    refine r_icmp_ne (t := 25) gX12_ticket_0.2.2.2.2.2.2.2.2.2.2.1 rfl (fun h3 => ?_) (fun h3 => ?_)
    · refine r_bipush (v := (-3 : Int32)) gX12_ticket_0.2.2.2.2.2.2.2.2.2.2.2.1 rfl ?_
      refine r_goto (t := 32) gX12_ticket_0.2.2.2.2.2.2.2.2.2.2.2.2.1 rfl ?_
      exact r_ireturn gX12_ticket_28.2.2.1 rfl rfl
    · refine r_aload_n (x := 60) gX12_ticket_0.2.2.2.2.2.2.2.2.2.2.2.2.2.1 rfl ?_
      refine r_iload_n (x := a1) gX12_ticket_0.2.2.2.2.2.2.2.2.2.2.2.2.2.2.1 rfl ?_
      refine r_iload_n (x := a2) gX12_ticket_0.2.2.2.2.2.2.2.2.2.2.2.2.2.2.2.1 rfl ?_
      refine r_iconst (v := (0 : Int32)) gX12_ticket_28.1 rfl ?_
      refine r_callI (k := 0) (idx := 133) (y := 195) (as := [.ref 60, .int a1, .int a2, .int (0 : Int32)]) (rest := []) (L0 := [(0, .ref 60), (1, .int a1), (2, .int a2), (3, .int (0 : Int32))]) gX12_ticket_28.2.1 rfl rfl rfl rfl rfl (vok_v (ob_60 hE) rfl) rfl (r_dep (by decide) (e_X12_addTicket hE q a1 a2 (0 : Int32))) (fun r2 => ?_)
      exact r_ireturn gX12_ticket_28.2.2.1 rfl rfl
def f_X10_addPerson (q : SS) (a1 : Int32) : Option (Int32 × SS) :=
  if (q.1 1 1) < (6 : Int32) then
  (nm (sI q 1 1 ((q.1 1 1) + (1 : Int32))) fun q1 =>
  (f_X10_set q1 (0 : Int32) ((q1.1 1 1) - (1 : Int32)) a1).bind fun r2 =>
  some (((r2.1 1 1) - (1 : Int32)), r2))
  else
  (some ((-3 : Int32), q))
theorem e_X10_addPerson {E : EE} (hE : GE E) (q : SS) (a1 : Int32) : R E (κI E) 2 136 0 [(0, .ref 1), (1, .int a1)] [] q (f_X10_addPerson q a1) := by
  unfold f_X10_addPerson
  refine r_aload_n (x := 1) gX10_addPerson_0.1 rfl ?_
  refine r_getI gX10_addPerson_0.2.1 (ff_10_16_1 hE) (by decide) ?_
  refine r_bipush (v := (6 : Int32)) gX10_addPerson_0.2.2.1 rfl ?_
  refine r_icmp_lt (t := 12) gX10_addPerson_0.2.2.2.1 rfl (fun h3 => ?_) (fun h3 => ?_)
  · refine r_aload_n (x := 1) gX10_addPerson_0.2.2.2.2.2.2.1 rfl ?_
    refine r_dup gX10_addPerson_0.2.2.2.2.2.2.2.1 rfl ?_
    refine r_getI gX10_addPerson_0.2.2.2.2.2.2.2.2.1 (ff_10_16_1 hE) (by decide) ?_
    refine r_iconst (v := (1 : Int32)) gX10_addPerson_0.2.2.2.2.2.2.2.2.2.1 rfl ?_
    refine r_iadd gX10_addPerson_0.2.2.2.2.2.2.2.2.2.2.1 ?_
    refine r_putI gX10_addPerson_0.2.2.2.2.2.2.2.2.2.2.2.1 (ff_10_16_1 hE) ?_
    refine r_nmS fun q1 _ => ?_
    refine r_aload_n (x := 1) gX10_addPerson_0.2.2.2.2.2.2.2.2.2.2.2.2.1 rfl ?_
    refine r_iconst (v := (0 : Int32)) gX10_addPerson_0.2.2.2.2.2.2.2.2.2.2.2.2.2.1 rfl ?_
    refine r_aload_n (x := 1) gX10_addPerson_0.2.2.2.2.2.2.2.2.2.2.2.2.2.2.1 rfl ?_
    refine r_getI gX10_addPerson_0.2.2.2.2.2.2.2.2.2.2.2.2.2.2.2.1 (ff_10_16_1 hE) (by decide) ?_
    refine r_iconst (v := (1 : Int32)) gX10_addPerson_28.1 rfl ?_
    refine r_isub gX10_addPerson_28.2.1 ?_
    refine r_iload_n (x := a1) gX10_addPerson_28.2.2.1 rfl ?_
    refine r_callV (k := 0) (idx := 42) (y := 135) (as := [.ref 1, .int (0 : Int32), .int ((q1.1 1 1) - (1 : Int32)), .int a1]) (rest := []) (L0 := [(0, .ref 1), (1, .int (0 : Int32)), (2, .int ((q1.1 1 1) - (1 : Int32))), (3, .int a1)]) gX10_addPerson_28.2.2.2.1 rfl rfl rfl rfl rfl (vok_v (ob_1 hE) rfl) rfl (r_dep (by decide) (e_X10_set hE q1 (0 : Int32) ((q1.1 1 1) - (1 : Int32)) a1)) (fun r2 => ?_)
    refine r_aload_n (x := 1) gX10_addPerson_28.2.2.2.2.1 rfl ?_
    refine r_getI gX10_addPerson_28.2.2.2.2.2.1 (ff_10_16_1 hE) (by decide) ?_
    refine r_iconst (v := (1 : Int32)) gX10_addPerson_28.2.2.2.2.2.2.1 rfl ?_
    refine r_isub gX10_addPerson_28.2.2.2.2.2.2.2.1 ?_
    exact r_ireturn gX10_addPerson_28.2.2.2.2.2.2.2.2.1 rfl rfl
  · refine r_bipush (v := (-3 : Int32)) gX10_addPerson_0.2.2.2.2.1 rfl ?_
    exact r_ireturn gX10_addPerson_0.2.2.2.2.2.1 rfl rfl
def f_X11_person (q : SS) (a1 : Int32) : Option (Int32 × SS) :=
  (f_X10_mayBe q (0 : Int32) a1).bind fun r1 =>
  if r1 = 0 then
  (some ((-1 : Int32), q))
  else
  ((f_X10_addPerson q a1).bind fun r2 =>
  some (r2.1, r2.2))
theorem e_X11_person {E : EE} (hE : GE E) (q : SS) (a1 : Int32) : R E (κI E) 3 139 0 [(0, .ref 0), (1, .int a1)] [] q (f_X11_person q a1) := by
  unfold f_X11_person
  refine r_aload_n (x := 0) gX11_person_0.1 rfl ?_
  refine r_getA gX11_person_0.2.1 (fa_11_10_0 hE) ?_
  refine r_iconst (v := (0 : Int32)) gX11_person_0.2.2.1 rfl ?_
  refine r_iload_n (x := a1) gX11_person_0.2.2.2.1 rfl ?_
  refine r_calli (k := 0) (idx := 94) (y := 133) (as := [.ref 1, .int (0 : Int32), .int a1]) (rest := []) (L0 := [(0, .ref 1), (1, .int (0 : Int32)), (2, .int a1)]) gX11_person_0.2.2.2.2.1 rfl rfl rfl rfl rfl (vok_v (ob_1 hE) rfl) rfl (r_dep (by decide) (e_X10_mayBe hE q (0 : Int32) a1)) (fun r1 => ?_)
  refine r_if_ne (t := 14) gX11_person_0.2.2.2.2.2.1 rfl (fun h3 => ?_) (fun h3 => ?_)
  · refine r_iconst (v := (-1 : Int32)) gX11_person_0.2.2.2.2.2.2.1 rfl ?_
    exact r_ireturn gX11_person_0.2.2.2.2.2.2.2.1 rfl rfl
  · refine r_aload_n (x := 0) gX11_person_0.2.2.2.2.2.2.2.2.1 rfl ?_
    refine r_getA gX11_person_0.2.2.2.2.2.2.2.2.2.1 (fa_11_10_0 hE) ?_
    refine r_iload_n (x := a1) gX11_person_0.2.2.2.2.2.2.2.2.2.2.1 rfl ?_
    refine r_callI (k := 0) (idx := 98) (y := 136) (as := [.ref 1, .int a1]) (rest := []) (L0 := [(0, .ref 1), (1, .int a1)]) gX11_person_0.2.2.2.2.2.2.2.2.2.2.2.1 rfl rfl rfl rfl rfl (vok_v (ob_1 hE) rfl) rfl (r_dep (by decide) (e_X10_addPerson hE q a1)) (fun r2 => ?_)
    exact r_ireturn gX11_person_0.2.2.2.2.2.2.2.2.2.2.2.2.1 rfl rfl
def f_X12_person (q : SS) (a1 : Int32) : Option (Int32 × SS) :=
  (f_X12_in q a1 (0 : Int32) (12 : Int32)).bind fun r1 =>
  if r1 = 0 then
  (some ((-1 : Int32), q))
  else
  (if (q.1 60 1) = (6 : Int32) then
  (some ((-3 : Int32), q))
  else
  (if vin (q.1 60 1) 6 then
  nm (sI q 61 (q.1 60 1).toNatClampNeg a1) fun q2 =>
  if vin (q2.1 60 1) 6 then
  nm (sI q2 62 (q2.1 60 1).toNatClampNeg (0 : Int32)) fun q3 =>
  if vin (q3.1 60 1) 6 then
  nm (sI q3 63 (q3.1 60 1).toNatClampNeg (10 : Int32)) fun q4 =>
  if vin (q4.1 60 1) 6 then
  nm (sI q4 64 (q4.1 60 1).toNatClampNeg (0 : Int32)) fun q5 =>
  nm (sI q5 60 1 ((q5.1 60 1) + (1 : Int32))) fun q6 =>
  some (((q6.1 60 1) - (1 : Int32)), q6)
  else none
  else none
  else none
  else none))
theorem e_X12_person {E : EE} (hE : GE E) (q : SS) (a1 : Int32) : R E (κI E) 1 193 0 [(0, .ref 60), (1, .int a1)] [] q (f_X12_person q a1) := by
  unfold f_X12_person
  refine r_iload_n (x := a1) gX12_person_0.1 rfl ?_
  refine r_iconst (v := (0 : Int32)) gX12_person_0.2.1 rfl ?_
  refine r_bipush (v := (12 : Int32)) gX12_person_0.2.2.1 rfl ?_
  refine r_calli (k := 2) (idx := 118) (y := 189) (as := [.int a1, .int (0 : Int32), .int (12 : Int32)]) (rest := []) (L0 := [(0, .int a1), (1, .int (0 : Int32)), (2, .int (12 : Int32))]) gX12_person_0.2.2.2.1 rfl rfl rfl rfl rfl vok_s rfl (r_dep (by decide) (e_X12_in hE q a1 (0 : Int32) (12 : Int32))) (fun r1 => ?_)
  refine r_if_ne (t := 12) gX12_person_0.2.2.2.2.1 rfl (fun h8 => ?_) (fun h8 => ?_)
  · refine r_iconst (v := (-1 : Int32)) gX12_person_0.2.2.2.2.2.1 rfl ?_
    exact r_ireturn gX12_person_0.2.2.2.2.2.2.1 rfl rfl
  · refine r_aload_n (x := 60) gX12_person_0.2.2.2.2.2.2.2.1 rfl ?_
    refine r_getI gX12_person_0.2.2.2.2.2.2.2.2.1 (ff_12_115_60 hE) (by decide) ?_
    refine r_bipush (v := (6 : Int32)) gX12_person_0.2.2.2.2.2.2.2.2.2.1 rfl ?_
    refine r_icmp_ne (t := 24) gX12_person_0.2.2.2.2.2.2.2.2.2.2.1 rfl (fun h7 => ?_) (fun h7 => ?_)
    · refine r_bipush (v := (-3 : Int32)) gX12_person_0.2.2.2.2.2.2.2.2.2.2.2.1 rfl ?_
      exact r_ireturn gX12_person_0.2.2.2.2.2.2.2.2.2.2.2.2.1 rfl rfl
    · refine r_aload_n (x := 60) gX12_person_0.2.2.2.2.2.2.2.2.2.2.2.2.2.1 rfl ?_
      refine r_getA gX12_person_0.2.2.2.2.2.2.2.2.2.2.2.2.2.2.1 (fa_12_9_60 hE) ?_
      refine r_aload_n (x := 60) gX12_person_0.2.2.2.2.2.2.2.2.2.2.2.2.2.2.2.1 rfl ?_
      refine r_getI gX12_person_29.1 (ff_12_115_60 hE) (by decide) ?_
      refine r_iload_n (x := a1) gX12_person_29.2.1 rfl ?_
      refine r_iastore gX12_person_29.2.2.1 (ar_61 hE) ?_
      refine r_nmS fun q2 _ => ?_
      refine r_aload_n (x := 60) gX12_person_29.2.2.2.1 rfl ?_
      refine r_getA gX12_person_29.2.2.2.2.1 (fa_12_15_60 hE) ?_
      refine r_aload_n (x := 60) gX12_person_29.2.2.2.2.2.1 rfl ?_
      refine r_getI gX12_person_29.2.2.2.2.2.2.1 (ff_12_115_60 hE) (by decide) ?_
      refine r_iconst (v := (0 : Int32)) gX12_person_29.2.2.2.2.2.2.2.1 rfl ?_
      refine r_iastore gX12_person_29.2.2.2.2.2.2.2.2.1 (ar_62 hE) ?_
      refine r_nmS fun q3 _ => ?_
      refine r_aload_n (x := 60) gX12_person_29.2.2.2.2.2.2.2.2.2.1 rfl ?_
      refine r_getA gX12_person_29.2.2.2.2.2.2.2.2.2.2.1 (fa_12_18_60 hE) ?_
      refine r_aload_n (x := 60) gX12_person_29.2.2.2.2.2.2.2.2.2.2.2.1 rfl ?_
      refine r_getI gX12_person_29.2.2.2.2.2.2.2.2.2.2.2.2.1 (ff_12_115_60 hE) (by decide) ?_
      refine r_bipush (v := (10 : Int32)) gX12_person_29.2.2.2.2.2.2.2.2.2.2.2.2.2.1 rfl ?_
      refine r_iastore gX12_person_29.2.2.2.2.2.2.2.2.2.2.2.2.2.2.1 (ar_63 hE) ?_
      refine r_nmS fun q4 _ => ?_
      refine r_aload_n (x := 60) gX12_person_29.2.2.2.2.2.2.2.2.2.2.2.2.2.2.2.1 rfl ?_
      refine r_getA gX12_person_56.1 (fa_12_21_60 hE) ?_
      refine r_aload_n (x := 60) gX12_person_56.2.1 rfl ?_
      refine r_getI gX12_person_56.2.2.1 (ff_12_115_60 hE) (by decide) ?_
      refine r_iconst (v := (0 : Int32)) gX12_person_56.2.2.2.1 rfl ?_
      refine r_iastore gX12_person_56.2.2.2.2.1 (ar_64 hE) ?_
      refine r_nmS fun q5 _ => ?_
      refine r_aload_n (x := 60) gX12_person_56.2.2.2.2.2.1 rfl ?_
      refine r_dup gX12_person_56.2.2.2.2.2.2.1 rfl ?_
      refine r_getI gX12_person_56.2.2.2.2.2.2.2.1 (ff_12_115_60 hE) (by decide) ?_
      refine r_iconst (v := (1 : Int32)) gX12_person_56.2.2.2.2.2.2.2.2.1 rfl ?_
      refine r_iadd gX12_person_56.2.2.2.2.2.2.2.2.2.1 ?_
      refine r_putI gX12_person_56.2.2.2.2.2.2.2.2.2.2.1 (ff_12_115_60 hE) ?_
      refine r_nmS fun q6 _ => ?_
      refine r_aload_n (x := 60) gX12_person_56.2.2.2.2.2.2.2.2.2.2.2.1 rfl ?_
      refine r_getI gX12_person_56.2.2.2.2.2.2.2.2.2.2.2.2.1 (ff_12_115_60 hE) (by decide) ?_
      refine r_iconst (v := (1 : Int32)) gX12_person_56.2.2.2.2.2.2.2.2.2.2.2.2.2.1 rfl ?_
      refine r_isub gX12_person_56.2.2.2.2.2.2.2.2.2.2.2.2.2.2.1 ?_
      exact r_ireturn gX12_person_56.2.2.2.2.2.2.2.2.2.2.2.2.2.2.2.1 rfl rfl
def b_L_law_1513 (Ls : Nat) (xs : Nat → Int32) (rec_18 : SS → Int32 → Option (Int32 × SS)) (q : SS) (l3 : Int32) : Option (Int32 × SS) :=
  rec_18 q (l3 + (6 : Int32))
theorem rb_L_law_1513 {E : EE} (hE : GE E) {rec_18 : SS → Int32 → Option (Int32 × SS)} (hrec_18 : ∀ (yq : SS) (yl3 : Int32), R E (κI E) 906 NM 18 [(0, .retAddr 0), (1, .ref 0), (2, .ref 60), (3, .int yl3)] [] yq (rec_18 yq yl3)) (q : SS) (l3 : Int32) : R E (κI E) 906 NM 1513 [(0, .retAddr 0), (1, .ref 0), (2, .ref 60), (3, .int l3)] [] q (b_L_law_1513 E.1 E.2.1 rec_18 q l3) := by
  unfold b_L_law_1513
  refine r_iinc (x := l3) (v := (l3 + (6 : Int32))) (L2 := [(0, .retAddr 0), (1, .ref 0), (2, .ref 60), (3, .int (l3 + (6 : Int32)))]) gL_law_1492.2.2.2.2.2.2.2.2.2.2.2.2.2.2.2.1 rfl rfl rfl rfl ?_
  refine r_goto (t := 18) gL_law_1516.1 rfl ?_
  exact r_sub (L' := [(0, .retAddr 0), (1, .ref 0), (2, .ref 60), (3, .int (l3 + (6 : Int32)))]) (sub_c rfl (sub_c rfl (sub_c rfl (sub_c rfl sub_n)))) (hrec_18 q (l3 + (6 : Int32)))
def b_L_law_18 (Ls : Nat) (xs : Nat → Int32) : SS → Int32 → Option (Int32 × SS) :=
  fx2 (fun (rec_18 : SS → Int32 → Option (Int32 × SS)) (q : SS) (l3 : Int32) =>
  if ((Int32.ofNat Ls) - (6 : Int32)) < l3 then
  (some ((1 : Int32), q))
  else
  (if vin l3 Ls then
  nm ((xs l3.toNatClampNeg) &&& (63 : Int32)) fun v1 =>
  sw v1 [(0, (if vin (l3 + (1 : Int32)) Ls then
  (f_X11_person q (xs (l3 + (1 : Int32)).toNatClampNeg)).bind fun r3 =>
  if vin (l3 + (1 : Int32)) Ls then
  (f_X12_person r3.2 (xs (l3 + (1 : Int32)).toNatClampNeg)).bind fun r4 =>
  b_L_law_1513 Ls xs rec_18 r4.2 l3
  else none
  else none)), (1, (if vin (l3 + (1 : Int32)) Ls then
  if vin (l3 + (2 : Int32)) Ls then
  (f_X11_ticket q (xs (l3 + (1 : Int32)).toNatClampNeg) (xs (l3 + (2 : Int32)).toNatClampNeg)).bind fun r6 =>
  if vin (l3 + (1 : Int32)) Ls then
  if vin (l3 + (2 : Int32)) Ls then
  (f_X12_ticket r6.2 (xs (l3 + (1 : Int32)).toNatClampNeg) (xs (l3 + (2 : Int32)).toNatClampNeg)).bind fun r7 =>
  b_L_law_1513 Ls xs rec_18 r7.2 l3
  else none
  else none
  else none
  else none)), (2, (if vin (l3 + (1 : Int32)) Ls then
  if vin (l3 + (2 : Int32)) Ls then
  if vin (l3 + (3 : Int32)) Ls then
  (f_X11_tickets q (xs (l3 + (1 : Int32)).toNatClampNeg) (xs (l3 + (2 : Int32)).toNatClampNeg) (xs (l3 + (3 : Int32)).toNatClampNeg)).bind fun r9 =>
  if vin (l3 + (1 : Int32)) Ls then
  if vin (l3 + (2 : Int32)) Ls then
  if vin (l3 + (3 : Int32)) Ls then
  (f_X12_tickets r9.2 (xs (l3 + (1 : Int32)).toNatClampNeg) (xs (l3 + (2 : Int32)).toNatClampNeg) (xs (l3 + (3 : Int32)).toNatClampNeg)).bind fun r10 =>
  b_L_law_1513 Ls xs rec_18 r10.2 l3
  else none
  else none
  else none
  else none
  else none
  else none)), (3, (if vin (l3 + (1 : Int32)) Ls then
  if vin (l3 + (2 : Int32)) Ls then
  if vin (l3 + (3 : Int32)) Ls then
  (f_X11_mend q (xs (l3 + (1 : Int32)).toNatClampNeg) (xs (l3 + (2 : Int32)).toNatClampNeg) (xs (l3 + (3 : Int32)).toNatClampNeg)).bind fun r12 =>
  if vin (l3 + (1 : Int32)) Ls then
  if vin (l3 + (2 : Int32)) Ls then
  if vin (l3 + (3 : Int32)) Ls then
  (f_X12_mend r12.2 (xs (l3 + (1 : Int32)).toNatClampNeg) (xs (l3 + (2 : Int32)).toNatClampNeg) (xs (l3 + (3 : Int32)).toNatClampNeg)).bind fun r13 =>
  b_L_law_1513 Ls xs rec_18 r13.2 l3
  else none
  else none
  else none
  else none
  else none
  else none)), (4, (if vin (l3 + (1 : Int32)) Ls then
  if vin (l3 + (2 : Int32)) Ls then
  (f_X11_of q (xs (l3 + (1 : Int32)).toNatClampNeg) (xs (l3 + (2 : Int32)).toNatClampNeg)).bind fun r15 =>
  if vin (l3 + (1 : Int32)) Ls then
  if vin (l3 + (2 : Int32)) Ls then
  (f_X12_of r15.2 (xs (l3 + (1 : Int32)).toNatClampNeg) (xs (l3 + (2 : Int32)).toNatClampNeg)).bind fun r16 =>
  b_L_law_1513 Ls xs rec_18 r16.2 l3
  else none
  else none
  else none
  else none)), (5, (if vin (l3 + (1 : Int32)) Ls then
  (f_X11_feed q (xs (l3 + (1 : Int32)).toNatClampNeg)).bind fun r18 =>
  if vin (l3 + (1 : Int32)) Ls then
  (f_X12_feed r18.2 (xs (l3 + (1 : Int32)).toNatClampNeg)).bind fun r19 =>
  b_L_law_1513 Ls xs rec_18 r19.2 l3
  else none
  else none)), (6, ((f_X11_law q).bind fun r21 =>
  (f_X12_law r21.2).bind fun r22 =>
  b_L_law_1513 Ls xs rec_18 r22.2 l3)), (7, (if vin (l3 + (1 : Int32)) Ls then
  (f_X11_odds q (xs (l3 + (1 : Int32)).toNatClampNeg)).bind fun r24 =>
  if vin (l3 + (1 : Int32)) Ls then
  (f_X12_odds r24.2 (xs (l3 + (1 : Int32)).toNatClampNeg)).bind fun r25 =>
  b_L_law_1513 Ls xs rec_18 r25.2 l3
  else none
  else none)), (8, (if vin (l3 + (1 : Int32)) Ls then
  if vin (l3 + (2 : Int32)) Ls then
  if vin (l3 + (3 : Int32)) Ls then
  (f_X11_later q (xs (l3 + (1 : Int32)).toNatClampNeg) (xs (l3 + (2 : Int32)).toNatClampNeg) (xs (l3 + (3 : Int32)).toNatClampNeg)).bind fun r27 =>
  if vin (l3 + (1 : Int32)) Ls then
  if vin (l3 + (2 : Int32)) Ls then
  if vin (l3 + (3 : Int32)) Ls then
  (f_X12_later r27.2 (xs (l3 + (1 : Int32)).toNatClampNeg) (xs (l3 + (2 : Int32)).toNatClampNeg) (xs (l3 + (3 : Int32)).toNatClampNeg)).bind fun r28 =>
  b_L_law_1513 Ls xs rec_18 r28.2 l3
  else none
  else none
  else none
  else none
  else none
  else none)), (9, (if vin (l3 + (1 : Int32)) Ls then
  if vin (l3 + (2 : Int32)) Ls then
  if vin (l3 + (3 : Int32)) Ls then
  (f_X11_eve q (xs (l3 + (1 : Int32)).toNatClampNeg) (xs (l3 + (2 : Int32)).toNatClampNeg) (xs (l3 + (3 : Int32)).toNatClampNeg)).bind fun r30 =>
  if vin (l3 + (1 : Int32)) Ls then
  if vin (l3 + (2 : Int32)) Ls then
  if vin (l3 + (3 : Int32)) Ls then
  (f_X12_eve r30.2 (xs (l3 + (1 : Int32)).toNatClampNeg) (xs (l3 + (2 : Int32)).toNatClampNeg) (xs (l3 + (3 : Int32)).toNatClampNeg)).bind fun r31 =>
  b_L_law_1513 Ls xs rec_18 r31.2 l3
  else none
  else none
  else none
  else none
  else none
  else none)), (10, (if vin (l3 + (1 : Int32)) Ls then
  if vin (l3 + (2 : Int32)) Ls then
  if vin (l3 + (3 : Int32)) Ls then
  (f_X11_likely q (xs (l3 + (1 : Int32)).toNatClampNeg) (xs (l3 + (2 : Int32)).toNatClampNeg) (xs (l3 + (3 : Int32)).toNatClampNeg)).bind fun r33 =>
  if vin (l3 + (1 : Int32)) Ls then
  if vin (l3 + (2 : Int32)) Ls then
  if vin (l3 + (3 : Int32)) Ls then
  (f_X12_likely r33.2 (xs (l3 + (1 : Int32)).toNatClampNeg) (xs (l3 + (2 : Int32)).toNatClampNeg) (xs (l3 + (3 : Int32)).toNatClampNeg)).bind fun r34 =>
  b_L_law_1513 Ls xs rec_18 r34.2 l3
  else none
  else none
  else none
  else none
  else none
  else none)), (11, (if vin (l3 + (1 : Int32)) Ls then
  if vin (l3 + (2 : Int32)) Ls then
  (f_X11_all q (xs (l3 + (1 : Int32)).toNatClampNeg) (xs (l3 + (2 : Int32)).toNatClampNeg)).bind fun r36 =>
  if vin (l3 + (1 : Int32)) Ls then
  if vin (l3 + (2 : Int32)) Ls then
  (f_X12_all r36.2 (xs (l3 + (1 : Int32)).toNatClampNeg) (xs (l3 + (2 : Int32)).toNatClampNeg)).bind fun r37 =>
  b_L_law_1513 Ls xs rec_18 r37.2 l3
  else none
  else none
  else none
  else none)), (12, (if vin (l3 + (1 : Int32)) Ls then
  if vin (l3 + (2 : Int32)) Ls then
  (f_X11_king q (xs (l3 + (1 : Int32)).toNatClampNeg) (xs (l3 + (2 : Int32)).toNatClampNeg)).bind fun r39 =>
  if vin (l3 + (1 : Int32)) Ls then
  if vin (l3 + (2 : Int32)) Ls then
  (f_X12_king r39.2 (xs (l3 + (1 : Int32)).toNatClampNeg) (xs (l3 + (2 : Int32)).toNatClampNeg)).bind fun r40 =>
  b_L_law_1513 Ls xs rec_18 r40.2 l3
  else none
  else none
  else none
  else none)), (13, ((f_X11_safe q).bind fun r42 =>
  (f_X12_safe r42.2).bind fun r43 =>
  b_L_law_1513 Ls xs rec_18 r43.2 l3)), (14, ((f_X11_likeliest q).bind fun r45 =>
  (f_X12_likeliest r45.2).bind fun r46 =>
  b_L_law_1513 Ls xs rec_18 r46.2 l3)), (15, (if vin (l3 + (1 : Int32)) Ls then
  (f_X11_watch q (xs (l3 + (1 : Int32)).toNatClampNeg)).bind fun r48 =>
  if vin (l3 + (1 : Int32)) Ls then
  (f_X12_watch r48.2 (xs (l3 + (1 : Int32)).toNatClampNeg)).bind fun r49 =>
  b_L_law_1513 Ls xs rec_18 r49.2 l3
  else none
  else none)), (16, (if vin (l3 + (1 : Int32)) Ls then
  if vin (l3 + (2 : Int32)) Ls then
  if vin (l3 + (3 : Int32)) Ls then
  (f_X11_rid q (xs (l3 + (1 : Int32)).toNatClampNeg) (xs (l3 + (2 : Int32)).toNatClampNeg) (xs (l3 + (3 : Int32)).toNatClampNeg)).bind fun r51 =>
  if vin (l3 + (1 : Int32)) Ls then
  if vin (l3 + (2 : Int32)) Ls then
  if vin (l3 + (3 : Int32)) Ls then
  (f_X12_rid r51.2 (xs (l3 + (1 : Int32)).toNatClampNeg) (xs (l3 + (2 : Int32)).toNatClampNeg) (xs (l3 + (3 : Int32)).toNatClampNeg)).bind fun r52 =>
  b_L_law_1513 Ls xs rec_18 r52.2 l3
  else none
  else none
  else none
  else none
  else none
  else none)), (17, (if vin (l3 + (1 : Int32)) Ls then
  if vin (l3 + (2 : Int32)) Ls then
  (f_X11_first q (xs (l3 + (1 : Int32)).toNatClampNeg) (xs (l3 + (2 : Int32)).toNatClampNeg)).bind fun r54 =>
  if vin (l3 + (1 : Int32)) Ls then
  if vin (l3 + (2 : Int32)) Ls then
  (f_X12_first r54.2 (xs (l3 + (1 : Int32)).toNatClampNeg) (xs (l3 + (2 : Int32)).toNatClampNeg)).bind fun r55 =>
  b_L_law_1513 Ls xs rec_18 r55.2 l3
  else none
  else none
  else none
  else none)), (18, (if vin (l3 + (1 : Int32)) Ls then
  if vin (l3 + (2 : Int32)) Ls then
  if vin (l3 + (3 : Int32)) Ls then
  (f_X11_hire q (xs (l3 + (1 : Int32)).toNatClampNeg) (xs (l3 + (2 : Int32)).toNatClampNeg) (xs (l3 + (3 : Int32)).toNatClampNeg)).bind fun r57 =>
  if vin (l3 + (1 : Int32)) Ls then
  if vin (l3 + (2 : Int32)) Ls then
  if vin (l3 + (3 : Int32)) Ls then
  (f_X12_hire r57.2 (xs (l3 + (1 : Int32)).toNatClampNeg) (xs (l3 + (2 : Int32)).toNatClampNeg) (xs (l3 + (3 : Int32)).toNatClampNeg)).bind fun r58 =>
  b_L_law_1513 Ls xs rec_18 r58.2 l3
  else none
  else none
  else none
  else none
  else none
  else none)), (19, (if vin (l3 + (1 : Int32)) Ls then
  if vin (l3 + (2 : Int32)) Ls then
  (f_X11_friend q (xs (l3 + (1 : Int32)).toNatClampNeg) (xs (l3 + (2 : Int32)).toNatClampNeg)).bind fun r60 =>
  if vin (l3 + (1 : Int32)) Ls then
  if vin (l3 + (2 : Int32)) Ls then
  (f_X12_friend r60.2 (xs (l3 + (1 : Int32)).toNatClampNeg) (xs (l3 + (2 : Int32)).toNatClampNeg)).bind fun r61 =>
  b_L_law_1513 Ls xs rec_18 r61.2 l3
  else none
  else none
  else none
  else none)), (20, (if vin (l3 + (1 : Int32)) Ls then
  if vin (l3 + (2 : Int32)) Ls then
  (f_X11_share q (xs (l3 + (1 : Int32)).toNatClampNeg) (xs (l3 + (2 : Int32)).toNatClampNeg)).bind fun r63 =>
  if vin (l3 + (1 : Int32)) Ls then
  if vin (l3 + (2 : Int32)) Ls then
  (f_X12_share r63.2 (xs (l3 + (1 : Int32)).toNatClampNeg) (xs (l3 + (2 : Int32)).toNatClampNeg)).bind fun r64 =>
  b_L_law_1513 Ls xs rec_18 r64.2 l3
  else none
  else none
  else none
  else none)), (21, ((f_X11_half q).bind fun r66 =>
  (f_X12_half r66.2).bind fun r67 =>
  b_L_law_1513 Ls xs rec_18 r67.2 l3)), (22, (if vin (l3 + (1 : Int32)) Ls then
  if vin (l3 + (2 : Int32)) Ls then
  if vin (l3 + (3 : Int32)) Ls then
  (f_X11_behind q (xs (l3 + (1 : Int32)).toNatClampNeg) (xs (l3 + (2 : Int32)).toNatClampNeg) (xs (l3 + (3 : Int32)).toNatClampNeg)).bind fun r69 =>
  if vin (l3 + (1 : Int32)) Ls then
  if vin (l3 + (2 : Int32)) Ls then
  if vin (l3 + (3 : Int32)) Ls then
  (f_X12_behind r69.2 (xs (l3 + (1 : Int32)).toNatClampNeg) (xs (l3 + (2 : Int32)).toNatClampNeg) (xs (l3 + (3 : Int32)).toNatClampNeg)).bind fun r70 =>
  b_L_law_1513 Ls xs rec_18 r70.2 l3
  else none
  else none
  else none
  else none
  else none
  else none)), (23, (if vin (l3 + (1 : Int32)) Ls then
  if vin (l3 + (2 : Int32)) Ls then
  if vin (l3 + (3 : Int32)) Ls then
  (f_X11_drawn q (xs (l3 + (1 : Int32)).toNatClampNeg) (xs (l3 + (2 : Int32)).toNatClampNeg) (xs (l3 + (3 : Int32)).toNatClampNeg)).bind fun r72 =>
  if vin (l3 + (1 : Int32)) Ls then
  if vin (l3 + (2 : Int32)) Ls then
  if vin (l3 + (3 : Int32)) Ls then
  (f_X12_drawn r72.2 (xs (l3 + (1 : Int32)).toNatClampNeg) (xs (l3 + (2 : Int32)).toNatClampNeg) (xs (l3 + (3 : Int32)).toNatClampNeg)).bind fun r73 =>
  b_L_law_1513 Ls xs rec_18 r73.2 l3
  else none
  else none
  else none
  else none
  else none
  else none)), (24, (if vin (l3 + (1 : Int32)) Ls then
  if vin (l3 + (2 : Int32)) Ls then
  (f_X11_slip q (xs (l3 + (1 : Int32)).toNatClampNeg) (xs (l3 + (2 : Int32)).toNatClampNeg)).bind fun r75 =>
  if vin (l3 + (1 : Int32)) Ls then
  if vin (l3 + (2 : Int32)) Ls then
  (f_X12_slip r75.2 (xs (l3 + (1 : Int32)).toNatClampNeg) (xs (l3 + (2 : Int32)).toNatClampNeg)).bind fun r76 =>
  b_L_law_1513 Ls xs rec_18 r76.2 l3
  else none
  else none
  else none
  else none)), (25, (if vin (l3 + (1 : Int32)) Ls then
  (f_X11_fold q (xs (l3 + (1 : Int32)).toNatClampNeg)).bind fun r78 =>
  if vin (l3 + (1 : Int32)) Ls then
  (f_X12_fold r78.2 (xs (l3 + (1 : Int32)).toNatClampNeg)).bind fun r79 =>
  b_L_law_1513 Ls xs rec_18 r79.2 l3
  else none
  else none)), (26, ((f_X11_hour q).bind fun r81 =>
  (f_X12_hour r81.2).bind fun r82 =>
  b_L_law_1513 Ls xs rec_18 r82.2 l3)), (27, (if vin (l3 + (1 : Int32)) Ls then
  (f_X11_led q (xs (l3 + (1 : Int32)).toNatClampNeg)).bind fun r84 =>
  if vin (l3 + (1 : Int32)) Ls then
  (f_X12_led q (xs (l3 + (1 : Int32)).toNatClampNeg)).bind fun r85 =>
  b_L_law_1513 Ls xs rec_18 q l3
  else none
  else none)), (28, ((f_X11_image q).bind fun r87 =>
  (f_X12_image r87.2).bind fun r88 =>
  b_L_law_1513 Ls xs rec_18 r88.2 l3)), (29, ((f_X11_back q).bind fun r90 =>
  (f_X12_back r90.2).bind fun r91 =>
  b_L_law_1513 Ls xs rec_18 r91.2 l3)), (30, ((f_X11_undo q).bind fun r93 =>
  (f_X12_undo r93.2).bind fun r94 =>
  b_L_law_1513 Ls xs rec_18 r94.2 l3)), (31, ((f_X11_redo q).bind fun r96 =>
  (f_X12_redo r96.2).bind fun r97 =>
  b_L_law_1513 Ls xs rec_18 r97.2 l3)), (32, (if vin (l3 + (1 : Int32)) Ls then
  (f_X11_body q (xs (l3 + (1 : Int32)).toNatClampNeg)).bind fun r99 =>
  if vin (l3 + (1 : Int32)) Ls then
  (f_X12_body r99.2 (xs (l3 + (1 : Int32)).toNatClampNeg)).bind fun r100 =>
  b_L_law_1513 Ls xs rec_18 r100.2 l3
  else none
  else none)), (33, (if vin (l3 + (1 : Int32)) Ls then
  if vin (l3 + (2 : Int32)) Ls then
  if vin (l3 + (3 : Int32)) Ls then
  (f_X11_act q (xs (l3 + (1 : Int32)).toNatClampNeg) (xs (l3 + (2 : Int32)).toNatClampNeg) (xs (l3 + (3 : Int32)).toNatClampNeg)).bind fun r102 =>
  if vin (l3 + (1 : Int32)) Ls then
  if vin (l3 + (2 : Int32)) Ls then
  if vin (l3 + (3 : Int32)) Ls then
  (f_X12_act r102.2 (xs (l3 + (1 : Int32)).toNatClampNeg) (xs (l3 + (2 : Int32)).toNatClampNeg) (xs (l3 + (3 : Int32)).toNatClampNeg)).bind fun r103 =>
  b_L_law_1513 Ls xs rec_18 r103.2 l3
  else none
  else none
  else none
  else none
  else none
  else none)), (34, (if vin (l3 + (1 : Int32)) Ls then
  (f_X11_trace q (xs (l3 + (1 : Int32)).toNatClampNeg)).bind fun r105 =>
  if vin (l3 + (1 : Int32)) Ls then
  (f_X12_trace q (xs (l3 + (1 : Int32)).toNatClampNeg)).bind fun r106 =>
  b_L_law_1513 Ls xs rec_18 q l3
  else none
  else none)), (35, (if vin (l3 + (1 : Int32)) Ls then
  if vin (l3 + (2 : Int32)) Ls then
  (f_X11_keep q (xs (l3 + (1 : Int32)).toNatClampNeg) (xs (l3 + (2 : Int32)).toNatClampNeg)).bind fun r108 =>
  if vin (l3 + (1 : Int32)) Ls then
  if vin (l3 + (2 : Int32)) Ls then
  (f_X12_keep r108.2 (xs (l3 + (1 : Int32)).toNatClampNeg) (xs (l3 + (2 : Int32)).toNatClampNeg)).bind fun r109 =>
  b_L_law_1513 Ls xs rec_18 r109.2 l3
  else none
  else none
  else none
  else none)), (36, (if vin (l3 + (1 : Int32)) Ls then
  if vin (l3 + (2 : Int32)) Ls then
  if vin (l3 + (3 : Int32)) Ls then
  (f_X11_row q (xs (l3 + (1 : Int32)).toNatClampNeg) (xs (l3 + (2 : Int32)).toNatClampNeg) (xs (l3 + (3 : Int32)).toNatClampNeg)).bind fun r111 =>
  if vin (l3 + (1 : Int32)) Ls then
  if vin (l3 + (2 : Int32)) Ls then
  if vin (l3 + (3 : Int32)) Ls then
  (f_X12_row r111.2 (xs (l3 + (1 : Int32)).toNatClampNeg) (xs (l3 + (2 : Int32)).toNatClampNeg) (xs (l3 + (3 : Int32)).toNatClampNeg)).bind fun r112 =>
  b_L_law_1513 Ls xs rec_18 r112.2 l3
  else none
  else none
  else none
  else none
  else none
  else none)), (37, (if vin (l3 + (1 : Int32)) Ls then
  if vin (l3 + (2 : Int32)) Ls then
  if vin (l3 + (3 : Int32)) Ls then
  if vin (l3 + (4 : Int32)) Ls then
  (f_X11_put q (xs (l3 + (1 : Int32)).toNatClampNeg) (xs (l3 + (2 : Int32)).toNatClampNeg) ((jlshl ((xs (l3 + (3 : Int32)).toNatClampNeg).toInt64) (32 : Int32)) ||| (((xs (l3 + (4 : Int32)).toNatClampNeg).toInt64) &&& (4294967295 : Int64)))).bind fun r114 =>
  if vin (l3 + (1 : Int32)) Ls then
  if vin (l3 + (2 : Int32)) Ls then
  if vin (l3 + (3 : Int32)) Ls then
  if vin (l3 + (4 : Int32)) Ls then
  (f_X12_put r114.2 (xs (l3 + (1 : Int32)).toNatClampNeg) (xs (l3 + (2 : Int32)).toNatClampNeg) ((jlshl ((xs (l3 + (3 : Int32)).toNatClampNeg).toInt64) (32 : Int32)) ||| (((xs (l3 + (4 : Int32)).toNatClampNeg).toInt64) &&& (4294967295 : Int64)))).bind fun r115 =>
  b_L_law_1513 Ls xs rec_18 r115.2 l3
  else none
  else none
  else none
  else none
  else none
  else none
  else none
  else none)), (38, (if vin (l3 + (1 : Int32)) Ls then
  if vin (l3 + (2 : Int32)) Ls then
  (f_X11_element q (xs (l3 + (1 : Int32)).toNatClampNeg) (xs (l3 + (2 : Int32)).toNatClampNeg)).bind fun r117 =>
  if vin (l3 + (1 : Int32)) Ls then
  if vin (l3 + (2 : Int32)) Ls then
  (f_X12_element q (xs (l3 + (1 : Int32)).toNatClampNeg) (xs (l3 + (2 : Int32)).toNatClampNeg)).bind fun r118 =>
  if (lg_cmp r117 r118) = 0 then
  (b_L_law_1513 Ls xs rec_18 q l3)
  else
  (some ((0 : Int32), q))
  else none
  else none
  else none
  else none)), (39, (if vin (l3 + (1 : Int32)) Ls then
  if vin (l3 + (2 : Int32)) Ls then
  if vin (l3 + (3 : Int32)) Ls then
  if vin (l3 + (4 : Int32)) Ls then
  if vin (l3 + (5 : Int32)) Ls then
  (f_X11_shift q (xs (l3 + (1 : Int32)).toNatClampNeg) (xs (l3 + (2 : Int32)).toNatClampNeg) (xs (l3 + (3 : Int32)).toNatClampNeg) (xs (l3 + (4 : Int32)).toNatClampNeg) (xs (l3 + (5 : Int32)).toNatClampNeg)).bind fun r121 =>
  if vin (l3 + (1 : Int32)) Ls then
  if vin (l3 + (2 : Int32)) Ls then
  if vin (l3 + (3 : Int32)) Ls then
  if vin (l3 + (4 : Int32)) Ls then
  if vin (l3 + (5 : Int32)) Ls then
  (f_X12_shift r121.2 (xs (l3 + (1 : Int32)).toNatClampNeg) (xs (l3 + (2 : Int32)).toNatClampNeg) (xs (l3 + (3 : Int32)).toNatClampNeg) (xs (l3 + (4 : Int32)).toNatClampNeg) (xs (l3 + (5 : Int32)).toNatClampNeg)).bind fun r122 =>
  b_L_law_1513 Ls xs rec_18 r122.2 l3
  else none
  else none
  else none
  else none
  else none
  else none
  else none
  else none
  else none
  else none)), (40, (if vin (l3 + (1 : Int32)) Ls then
  if vin (l3 + (2 : Int32)) Ls then
  (f_X11_taken q (xs (l3 + (1 : Int32)).toNatClampNeg) (xs (l3 + (2 : Int32)).toNatClampNeg)).bind fun r124 =>
  if vin (l3 + (1 : Int32)) Ls then
  if vin (l3 + (2 : Int32)) Ls then
  (f_X12_taken q (xs (l3 + (1 : Int32)).toNatClampNeg) (xs (l3 + (2 : Int32)).toNatClampNeg)).bind fun r125 =>
  b_L_law_1513 Ls xs rec_18 q l3
  else none
  else none
  else none
  else none)), (41, (if vin (l3 + (1 : Int32)) Ls then
  (f_X11_count q (xs (l3 + (1 : Int32)).toNatClampNeg)).bind fun r127 =>
  if vin (l3 + (1 : Int32)) Ls then
  (f_X12_count q (xs (l3 + (1 : Int32)).toNatClampNeg)).bind fun r128 =>
  b_L_law_1513 Ls xs rec_18 q l3
  else none
  else none))]
  (b_L_law_1513 Ls xs rec_18 q l3)
  else none)) FU
theorem rb_L_law_18 {E : EE} (hE : GE E) (q : SS) (l3 : Int32) : R E (κI E) 906 NM 18 [(0, .retAddr 0), (1, .ref 0), (2, .ref 60), (3, .int l3)] [] q (b_L_law_18 E.1 E.2.1 q l3) := by
  unfold b_L_law_18
  refine fx2_ok (P := fun q l3 o => R E (κI E) 906 NM 18 [(0, .retAddr 0), (1, .ref 0), (2, .ref 60), (3, .int l3)] [] q o) (fun _ _ => r_no) (fun rec_18 hrec_18 q l3 => ?_) _ _ _
  refine r_iload_n (x := l3) gL_law_0.2.2.2.2.2.2.2.2.2.2.1 rfl ?_
  refine r_roload_n (x := 0) gL_law_0.2.2.2.2.2.2.2.2.2.2.2.1 rfl ?_
  refine r_sclen gL_law_0.2.2.2.2.2.2.2.2.2.2.2.2.1 ?_
  refine r_bipush (v := (6 : Int32)) gL_law_0.2.2.2.2.2.2.2.2.2.2.2.2.2.1 rfl ?_
  refine r_isub gL_law_0.2.2.2.2.2.2.2.2.2.2.2.2.2.2.1 ?_
  refine r_icmp_gt (t := 1519) gL_law_0.2.2.2.2.2.2.2.2.2.2.2.2.2.2.2.1 rfl (fun h130 => ?_) (fun h130 => ?_)
  · refine r_iconst (v := (1 : Int32)) gL_law_1516.2.1 rfl ?_
    exact r_ireturn gL_law_1516.2.2.1 rfl rfl
  · refine r_roload_n (x := 0) gL_law_27.1 rfl ?_
    refine r_iload_n (x := l3) gL_law_27.2.1 rfl ?_
    refine r_scload gL_law_27.2.2.1 ?_
    refine r_bipush (v := (63 : Int32)) gL_law_27.2.2.2.1 rfl ?_
    refine r_iand gL_law_27.2.2.2.2.1 ?_
    refine r_nmI fun v1 _ => ?_
    refine r_sw1 (fun h2 => ?_) (fun h2 => ?_)
    · refine r_jmp (t := 216) dL_law_33 rfl (by rw [h2]; rfl) ?_
      refine r_aload_n (x := 0) gL_law_216.1 rfl ?_
      refine r_roload_n (x := 0) gL_law_216.2.1 rfl ?_
      refine r_iload_n (x := l3) gL_law_216.2.2.1 rfl ?_
      refine r_iconst (v := (1 : Int32)) gL_law_216.2.2.2.1 rfl ?_
      refine r_iadd gL_law_216.2.2.2.2.1 ?_
      refine r_scload gL_law_216.2.2.2.2.2.1 ?_
      refine r_callI (k := 0) (idx := 13) (y := 139) (as := [.ref 0, .int (E.2.1 (l3 + (1 : Int32)).toNatClampNeg)]) (rest := []) (L0 := [(0, .ref 0), (1, .int (E.2.1 (l3 + (1 : Int32)).toNatClampNeg))]) gL_law_216.2.2.2.2.2.2.1 rfl rfl rfl rfl rfl (vok_v (ob_0 hE) rfl) rfl (r_dep (by decide) (e_X11_person hE q (E.2.1 (l3 + (1 : Int32)).toNatClampNeg))) (fun r3 => ?_)
      refine r_pop gL_law_216.2.2.2.2.2.2.2.1 rfl ?_
      refine r_aload_n (x := 60) gL_law_216.2.2.2.2.2.2.2.2.1 rfl ?_
      refine r_roload_n (x := 0) gL_law_216.2.2.2.2.2.2.2.2.2.1 rfl ?_
      refine r_iload_n (x := l3) gL_law_216.2.2.2.2.2.2.2.2.2.2.1 rfl ?_
      refine r_iconst (v := (1 : Int32)) gL_law_216.2.2.2.2.2.2.2.2.2.2.2.1 rfl ?_
      refine r_iadd gL_law_216.2.2.2.2.2.2.2.2.2.2.2.2.1 ?_
      refine r_scload gL_law_216.2.2.2.2.2.2.2.2.2.2.2.2.2.1 ?_
      refine r_callI (k := 0) (idx := 17) (y := 193) (as := [.ref 60, .int (E.2.1 (l3 + (1 : Int32)).toNatClampNeg)]) (rest := []) (L0 := [(0, .ref 60), (1, .int (E.2.1 (l3 + (1 : Int32)).toNatClampNeg))]) gL_law_216.2.2.2.2.2.2.2.2.2.2.2.2.2.2.1 rfl rfl rfl rfl rfl (vok_v (ob_60 hE) rfl) rfl (r_dep (by decide) (e_X12_person hE r3.2 (E.2.1 (l3 + (1 : Int32)).toNatClampNeg))) (fun r4 => ?_)
      refine r_pop gL_law_216.2.2.2.2.2.2.2.2.2.2.2.2.2.2.2.1 rfl ?_
      refine r_goto (t := 1513) gL_law_236.1 rfl ?_
      exact r_sub (L' := [(0, .retAddr 0), (1, .ref 0), (2, .ref 60), (3, .int l3)]) (sub_c rfl (sub_c rfl (sub_c rfl (sub_c rfl sub_n)))) (rb_L_law_1513 hE hrec_18 r4.2 l3)
    refine r_sw1 (fun h5 => ?_) (fun h5 => ?_)
    · refine r_jmp (t := 239) dL_law_33 rfl (by rw [h5]; rfl) ?_
      refine r_aload_n (x := 0) gL_law_236.2.1 rfl ?_
      refine r_roload_n (x := 0) gL_law_236.2.2.1 rfl ?_
      refine r_iload_n (x := l3) gL_law_236.2.2.2.1 rfl ?_
      refine r_iconst (v := (1 : Int32)) gL_law_236.2.2.2.2.1 rfl ?_
      refine r_iadd gL_law_236.2.2.2.2.2.1 ?_
      refine r_scload gL_law_236.2.2.2.2.2.2.1 ?_
      refine r_roload_n (x := 0) gL_law_236.2.2.2.2.2.2.2.1 rfl ?_
      refine r_iload_n (x := l3) gL_law_236.2.2.2.2.2.2.2.2.1 rfl ?_
      refine r_iconst (v := (2 : Int32)) gL_law_236.2.2.2.2.2.2.2.2.2.1 rfl ?_
      refine r_iadd gL_law_236.2.2.2.2.2.2.2.2.2.2.1 ?_
      refine r_scload gL_law_236.2.2.2.2.2.2.2.2.2.2.2.1 ?_
      refine r_callI (k := 0) (idx := 18) (y := 140) (as := [.ref 0, .int (E.2.1 (l3 + (1 : Int32)).toNatClampNeg), .int (E.2.1 (l3 + (2 : Int32)).toNatClampNeg)]) (rest := []) (L0 := [(0, .ref 0), (1, .int (E.2.1 (l3 + (1 : Int32)).toNatClampNeg)), (2, .int (E.2.1 (l3 + (2 : Int32)).toNatClampNeg))]) gL_law_236.2.2.2.2.2.2.2.2.2.2.2.2.1 rfl rfl rfl rfl rfl (vok_v (ob_0 hE) rfl) rfl (r_dep (by decide) (e_X11_ticket hE q (E.2.1 (l3 + (1 : Int32)).toNatClampNeg) (E.2.1 (l3 + (2 : Int32)).toNatClampNeg))) (fun r6 => ?_)
      refine r_pop gL_law_236.2.2.2.2.2.2.2.2.2.2.2.2.2.1 rfl ?_
      refine r_aload_n (x := 60) gL_law_236.2.2.2.2.2.2.2.2.2.2.2.2.2.2.1 rfl ?_
      refine r_roload_n (x := 0) gL_law_236.2.2.2.2.2.2.2.2.2.2.2.2.2.2.2.1 rfl ?_
      refine r_iload_n (x := l3) gL_law_256.1 rfl ?_
      refine r_iconst (v := (1 : Int32)) gL_law_256.2.1 rfl ?_
      refine r_iadd gL_law_256.2.2.1 ?_
      refine r_scload gL_law_256.2.2.2.1 ?_
      refine r_roload_n (x := 0) gL_law_256.2.2.2.2.1 rfl ?_
      refine r_iload_n (x := l3) gL_law_256.2.2.2.2.2.1 rfl ?_
      refine r_iconst (v := (2 : Int32)) gL_law_256.2.2.2.2.2.2.1 rfl ?_
      refine r_iadd gL_law_256.2.2.2.2.2.2.2.1 ?_
      refine r_scload gL_law_256.2.2.2.2.2.2.2.2.1 ?_
      refine r_callI (k := 0) (idx := 22) (y := 196) (as := [.ref 60, .int (E.2.1 (l3 + (1 : Int32)).toNatClampNeg), .int (E.2.1 (l3 + (2 : Int32)).toNatClampNeg)]) (rest := []) (L0 := [(0, .ref 60), (1, .int (E.2.1 (l3 + (1 : Int32)).toNatClampNeg)), (2, .int (E.2.1 (l3 + (2 : Int32)).toNatClampNeg))]) gL_law_256.2.2.2.2.2.2.2.2.2.1 rfl rfl rfl rfl rfl (vok_v (ob_60 hE) rfl) rfl (r_dep (by decide) (e_X12_ticket hE r6.2 (E.2.1 (l3 + (1 : Int32)).toNatClampNeg) (E.2.1 (l3 + (2 : Int32)).toNatClampNeg))) (fun r7 => ?_)
      refine r_pop gL_law_256.2.2.2.2.2.2.2.2.2.2.1 rfl ?_
      refine r_goto (t := 1513) gL_law_256.2.2.2.2.2.2.2.2.2.2.2.1 rfl ?_
      exact r_sub (L' := [(0, .retAddr 0), (1, .ref 0), (2, .ref 60), (3, .int l3)]) (sub_c rfl (sub_c rfl (sub_c rfl (sub_c rfl sub_n)))) (rb_L_law_1513 hE hrec_18 r7.2 l3)
    refine r_sw1 (fun h8 => ?_) (fun h8 => ?_)
    · refine r_jmp (t := 272) dL_law_33 rfl (by rw [h8]; rfl) ?_
      refine r_aload_n (x := 0) gL_law_256.2.2.2.2.2.2.2.2.2.2.2.2.1 rfl ?_
      refine r_roload_n (x := 0) gL_law_256.2.2.2.2.2.2.2.2.2.2.2.2.2.1 rfl ?_
      refine r_iload_n (x := l3) gL_law_256.2.2.2.2.2.2.2.2.2.2.2.2.2.2.1 rfl ?_
      refine r_iconst (v := (1 : Int32)) gL_law_256.2.2.2.2.2.2.2.2.2.2.2.2.2.2.2.1 rfl ?_
      refine r_iadd gL_law_276.1 ?_
      refine r_scload gL_law_276.2.1 ?_
      refine r_roload_n (x := 0) gL_law_276.2.2.1 rfl ?_
      refine r_iload_n (x := l3) gL_law_276.2.2.2.1 rfl ?_
      refine r_iconst (v := (2 : Int32)) gL_law_276.2.2.2.2.1 rfl ?_
      refine r_iadd gL_law_276.2.2.2.2.2.1 ?_
      refine r_scload gL_law_276.2.2.2.2.2.2.1 ?_
      refine r_roload_n (x := 0) gL_law_276.2.2.2.2.2.2.2.1 rfl ?_
      refine r_iload_n (x := l3) gL_law_276.2.2.2.2.2.2.2.2.1 rfl ?_
      refine r_iconst (v := (3 : Int32)) gL_law_276.2.2.2.2.2.2.2.2.2.1 rfl ?_
      refine r_iadd gL_law_276.2.2.2.2.2.2.2.2.2.2.1 ?_
      refine r_scload gL_law_276.2.2.2.2.2.2.2.2.2.2.2.1 ?_
      refine r_callI (k := 0) (idx := 23) (y := 141) (as := [.ref 0, .int (E.2.1 (l3 + (1 : Int32)).toNatClampNeg), .int (E.2.1 (l3 + (2 : Int32)).toNatClampNeg), .int (E.2.1 (l3 + (3 : Int32)).toNatClampNeg)]) (rest := []) (L0 := [(0, .ref 0), (1, .int (E.2.1 (l3 + (1 : Int32)).toNatClampNeg)), (2, .int (E.2.1 (l3 + (2 : Int32)).toNatClampNeg)), (3, .int (E.2.1 (l3 + (3 : Int32)).toNatClampNeg))]) gL_law_276.2.2.2.2.2.2.2.2.2.2.2.2.1 rfl rfl rfl rfl rfl (vok_v (ob_0 hE) rfl) rfl (r_dep (by decide) (e_X11_tickets hE q (E.2.1 (l3 + (1 : Int32)).toNatClampNeg) (E.2.1 (l3 + (2 : Int32)).toNatClampNeg) (E.2.1 (l3 + (3 : Int32)).toNatClampNeg))) (fun r9 => ?_)
      refine r_pop gL_law_276.2.2.2.2.2.2.2.2.2.2.2.2.2.1 rfl ?_
      refine r_aload_n (x := 60) gL_law_276.2.2.2.2.2.2.2.2.2.2.2.2.2.2.1 rfl ?_
      refine r_roload_n (x := 0) gL_law_276.2.2.2.2.2.2.2.2.2.2.2.2.2.2.2.1 rfl ?_
      refine r_iload_n (x := l3) gL_law_294.1 rfl ?_
      refine r_iconst (v := (1 : Int32)) gL_law_294.2.1 rfl ?_
      refine r_iadd gL_law_294.2.2.1 ?_
      refine r_scload gL_law_294.2.2.2.1 ?_
      refine r_roload_n (x := 0) gL_law_294.2.2.2.2.1 rfl ?_
      refine r_iload_n (x := l3) gL_law_294.2.2.2.2.2.1 rfl ?_
      refine r_iconst (v := (2 : Int32)) gL_law_294.2.2.2.2.2.2.1 rfl ?_
      refine r_iadd gL_law_294.2.2.2.2.2.2.2.1 ?_
      refine r_scload gL_law_294.2.2.2.2.2.2.2.2.1 ?_
      refine r_roload_n (x := 0) gL_law_294.2.2.2.2.2.2.2.2.2.1 rfl ?_
      refine r_iload_n (x := l3) gL_law_294.2.2.2.2.2.2.2.2.2.2.1 rfl ?_
      refine r_iconst (v := (3 : Int32)) gL_law_294.2.2.2.2.2.2.2.2.2.2.2.1 rfl ?_
      refine r_iadd gL_law_294.2.2.2.2.2.2.2.2.2.2.2.2.1 ?_
      refine r_scload gL_law_294.2.2.2.2.2.2.2.2.2.2.2.2.2.1 ?_
      refine r_callI (k := 0) (idx := 27) (y := 197) (as := [.ref 60, .int (E.2.1 (l3 + (1 : Int32)).toNatClampNeg), .int (E.2.1 (l3 + (2 : Int32)).toNatClampNeg), .int (E.2.1 (l3 + (3 : Int32)).toNatClampNeg)]) (rest := []) (L0 := [(0, .ref 60), (1, .int (E.2.1 (l3 + (1 : Int32)).toNatClampNeg)), (2, .int (E.2.1 (l3 + (2 : Int32)).toNatClampNeg)), (3, .int (E.2.1 (l3 + (3 : Int32)).toNatClampNeg))]) gL_law_294.2.2.2.2.2.2.2.2.2.2.2.2.2.2.1 rfl rfl rfl rfl rfl (vok_v (ob_60 hE) rfl) rfl (r_dep (by decide) (e_X12_tickets hE r9.2 (E.2.1 (l3 + (1 : Int32)).toNatClampNeg) (E.2.1 (l3 + (2 : Int32)).toNatClampNeg) (E.2.1 (l3 + (3 : Int32)).toNatClampNeg))) (fun r10 => ?_)
      refine r_pop gL_law_294.2.2.2.2.2.2.2.2.2.2.2.2.2.2.2.1 rfl ?_
      refine r_goto (t := 1513) gL_law_312.1 rfl ?_
      exact r_sub (L' := [(0, .retAddr 0), (1, .ref 0), (2, .ref 60), (3, .int l3)]) (sub_c rfl (sub_c rfl (sub_c rfl (sub_c rfl sub_n)))) (rb_L_law_1513 hE hrec_18 r10.2 l3)
    refine r_sw1 (fun h11 => ?_) (fun h11 => ?_)
    · refine r_jmp (t := 315) dL_law_33 rfl (by rw [h11]; rfl) ?_
      refine r_aload_n (x := 0) gL_law_312.2.1 rfl ?_
      refine r_roload_n (x := 0) gL_law_312.2.2.1 rfl ?_
      refine r_iload_n (x := l3) gL_law_312.2.2.2.1 rfl ?_
      refine r_iconst (v := (1 : Int32)) gL_law_312.2.2.2.2.1 rfl ?_
      refine r_iadd gL_law_312.2.2.2.2.2.1 ?_
      refine r_scload gL_law_312.2.2.2.2.2.2.1 ?_
      refine r_roload_n (x := 0) gL_law_312.2.2.2.2.2.2.2.1 rfl ?_
      refine r_iload_n (x := l3) gL_law_312.2.2.2.2.2.2.2.2.1 rfl ?_
      refine r_iconst (v := (2 : Int32)) gL_law_312.2.2.2.2.2.2.2.2.2.1 rfl ?_
      refine r_iadd gL_law_312.2.2.2.2.2.2.2.2.2.2.1 ?_
      refine r_scload gL_law_312.2.2.2.2.2.2.2.2.2.2.2.1 ?_
      refine r_roload_n (x := 0) gL_law_312.2.2.2.2.2.2.2.2.2.2.2.2.1 rfl ?_
      refine r_iload_n (x := l3) gL_law_312.2.2.2.2.2.2.2.2.2.2.2.2.2.1 rfl ?_
      refine r_iconst (v := (3 : Int32)) gL_law_312.2.2.2.2.2.2.2.2.2.2.2.2.2.2.1 rfl ?_
      refine r_iadd gL_law_312.2.2.2.2.2.2.2.2.2.2.2.2.2.2.2.1 ?_
      refine r_scload gL_law_330.1 ?_
      refine r_callI (k := 0) (idx := 28) (y := 143) (as := [.ref 0, .int (E.2.1 (l3 + (1 : Int32)).toNatClampNeg), .int (E.2.1 (l3 + (2 : Int32)).toNatClampNeg), .int (E.2.1 (l3 + (3 : Int32)).toNatClampNeg)]) (rest := []) (L0 := [(0, .ref 0), (1, .int (E.2.1 (l3 + (1 : Int32)).toNatClampNeg)), (2, .int (E.2.1 (l3 + (2 : Int32)).toNatClampNeg)), (3, .int (E.2.1 (l3 + (3 : Int32)).toNatClampNeg))]) gL_law_330.2.1 rfl rfl rfl rfl rfl (vok_v (ob_0 hE) rfl) rfl (r_dep (by decide) (e_X11_mend hE q (E.2.1 (l3 + (1 : Int32)).toNatClampNeg) (E.2.1 (l3 + (2 : Int32)).toNatClampNeg) (E.2.1 (l3 + (3 : Int32)).toNatClampNeg))) (fun r12 => ?_)
      refine r_pop gL_law_330.2.2.1 rfl ?_
      refine r_aload_n (x := 60) gL_law_330.2.2.2.1 rfl ?_
      refine r_roload_n (x := 0) gL_law_330.2.2.2.2.1 rfl ?_
      refine r_iload_n (x := l3) gL_law_330.2.2.2.2.2.1 rfl ?_
      refine r_iconst (v := (1 : Int32)) gL_law_330.2.2.2.2.2.2.1 rfl ?_
      refine r_iadd gL_law_330.2.2.2.2.2.2.2.1 ?_
      refine r_scload gL_law_330.2.2.2.2.2.2.2.2.1 ?_
      refine r_roload_n (x := 0) gL_law_330.2.2.2.2.2.2.2.2.2.1 rfl ?_
      refine r_iload_n (x := l3) gL_law_330.2.2.2.2.2.2.2.2.2.2.1 rfl ?_
      refine r_iconst (v := (2 : Int32)) gL_law_330.2.2.2.2.2.2.2.2.2.2.2.1 rfl ?_
      refine r_iadd gL_law_330.2.2.2.2.2.2.2.2.2.2.2.2.1 ?_
      refine r_scload gL_law_330.2.2.2.2.2.2.2.2.2.2.2.2.2.1 ?_
      refine r_roload_n (x := 0) gL_law_330.2.2.2.2.2.2.2.2.2.2.2.2.2.2.1 rfl ?_
      refine r_iload_n (x := l3) gL_law_330.2.2.2.2.2.2.2.2.2.2.2.2.2.2.2.1 rfl ?_
      refine r_iconst (v := (3 : Int32)) gL_law_348.1 rfl ?_
      refine r_iadd gL_law_348.2.1 ?_
      refine r_scload gL_law_348.2.2.1 ?_
      refine r_callI (k := 0) (idx := 31) (y := 205) (as := [.ref 60, .int (E.2.1 (l3 + (1 : Int32)).toNatClampNeg), .int (E.2.1 (l3 + (2 : Int32)).toNatClampNeg), .int (E.2.1 (l3 + (3 : Int32)).toNatClampNeg)]) (rest := []) (L0 := [(0, .ref 60), (1, .int (E.2.1 (l3 + (1 : Int32)).toNatClampNeg)), (2, .int (E.2.1 (l3 + (2 : Int32)).toNatClampNeg)), (3, .int (E.2.1 (l3 + (3 : Int32)).toNatClampNeg))]) gL_law_348.2.2.2.1 rfl rfl rfl rfl rfl (vok_v (ob_60 hE) rfl) rfl (r_dep (by decide) (e_X12_mend hE r12.2 (E.2.1 (l3 + (1 : Int32)).toNatClampNeg) (E.2.1 (l3 + (2 : Int32)).toNatClampNeg) (E.2.1 (l3 + (3 : Int32)).toNatClampNeg))) (fun r13 => ?_)
      refine r_pop gL_law_348.2.2.2.2.1 rfl ?_
      refine r_goto (t := 1513) gL_law_348.2.2.2.2.2.1 rfl ?_
      exact r_sub (L' := [(0, .retAddr 0), (1, .ref 0), (2, .ref 60), (3, .int l3)]) (sub_c rfl (sub_c rfl (sub_c rfl (sub_c rfl sub_n)))) (rb_L_law_1513 hE hrec_18 r13.2 l3)
    refine r_sw1 (fun h14 => ?_) (fun h14 => ?_)
    · refine r_jmp (t := 358) dL_law_33 rfl (by rw [h14]; rfl) ?_
      refine r_aload_n (x := 0) gL_law_348.2.2.2.2.2.2.1 rfl ?_
      refine r_roload_n (x := 0) gL_law_348.2.2.2.2.2.2.2.1 rfl ?_
      refine r_iload_n (x := l3) gL_law_348.2.2.2.2.2.2.2.2.1 rfl ?_
      refine r_iconst (v := (1 : Int32)) gL_law_348.2.2.2.2.2.2.2.2.2.1 rfl ?_
      refine r_iadd gL_law_348.2.2.2.2.2.2.2.2.2.2.1 ?_
      refine r_scload gL_law_348.2.2.2.2.2.2.2.2.2.2.2.1 ?_
      refine r_roload_n (x := 0) gL_law_348.2.2.2.2.2.2.2.2.2.2.2.2.1 rfl ?_
      refine r_iload_n (x := l3) gL_law_348.2.2.2.2.2.2.2.2.2.2.2.2.2.1 rfl ?_
      refine r_iconst (v := (2 : Int32)) gL_law_348.2.2.2.2.2.2.2.2.2.2.2.2.2.2.1 rfl ?_
      refine r_iadd gL_law_348.2.2.2.2.2.2.2.2.2.2.2.2.2.2.2.1 ?_
      refine r_scload gL_law_368.1 ?_
      refine r_callI (k := 0) (idx := 32) (y := 144) (as := [.ref 0, .int (E.2.1 (l3 + (1 : Int32)).toNatClampNeg), .int (E.2.1 (l3 + (2 : Int32)).toNatClampNeg)]) (rest := []) (L0 := [(0, .ref 0), (1, .int (E.2.1 (l3 + (1 : Int32)).toNatClampNeg)), (2, .int (E.2.1 (l3 + (2 : Int32)).toNatClampNeg))]) gL_law_368.2.1 rfl rfl rfl rfl rfl (vok_v (ob_0 hE) rfl) rfl (r_dep (by decide) (e_X11_of hE q (E.2.1 (l3 + (1 : Int32)).toNatClampNeg) (E.2.1 (l3 + (2 : Int32)).toNatClampNeg))) (fun r15 => ?_)
      refine r_pop gL_law_368.2.2.1 rfl ?_
      refine r_aload_n (x := 60) gL_law_368.2.2.2.1 rfl ?_
      refine r_roload_n (x := 0) gL_law_368.2.2.2.2.1 rfl ?_
      refine r_iload_n (x := l3) gL_law_368.2.2.2.2.2.1 rfl ?_
      refine r_iconst (v := (1 : Int32)) gL_law_368.2.2.2.2.2.2.1 rfl ?_
      refine r_iadd gL_law_368.2.2.2.2.2.2.2.1 ?_
      refine r_scload gL_law_368.2.2.2.2.2.2.2.2.1 ?_
      refine r_roload_n (x := 0) gL_law_368.2.2.2.2.2.2.2.2.2.1 rfl ?_
      refine r_iload_n (x := l3) gL_law_368.2.2.2.2.2.2.2.2.2.2.1 rfl ?_
      refine r_iconst (v := (2 : Int32)) gL_law_368.2.2.2.2.2.2.2.2.2.2.2.1 rfl ?_
      refine r_iadd gL_law_368.2.2.2.2.2.2.2.2.2.2.2.2.1 ?_
      refine r_scload gL_law_368.2.2.2.2.2.2.2.2.2.2.2.2.2.1 ?_
      refine r_callI (k := 0) (idx := 35) (y := 206) (as := [.ref 60, .int (E.2.1 (l3 + (1 : Int32)).toNatClampNeg), .int (E.2.1 (l3 + (2 : Int32)).toNatClampNeg)]) (rest := []) (L0 := [(0, .ref 60), (1, .int (E.2.1 (l3 + (1 : Int32)).toNatClampNeg)), (2, .int (E.2.1 (l3 + (2 : Int32)).toNatClampNeg))]) gL_law_368.2.2.2.2.2.2.2.2.2.2.2.2.2.2.1 rfl rfl rfl rfl rfl (vok_v (ob_60 hE) rfl) rfl (r_dep (by decide) (e_X12_of hE r15.2 (E.2.1 (l3 + (1 : Int32)).toNatClampNeg) (E.2.1 (l3 + (2 : Int32)).toNatClampNeg))) (fun r16 => ?_)
      refine r_pop gL_law_368.2.2.2.2.2.2.2.2.2.2.2.2.2.2.2.1 rfl ?_
      refine r_goto (t := 1513) gL_law_388.1 rfl ?_
      exact r_sub (L' := [(0, .retAddr 0), (1, .ref 0), (2, .ref 60), (3, .int l3)]) (sub_c rfl (sub_c rfl (sub_c rfl (sub_c rfl sub_n)))) (rb_L_law_1513 hE hrec_18 r16.2 l3)
    refine r_sw1 (fun h17 => ?_) (fun h17 => ?_)
    · refine r_jmp (t := 391) dL_law_33 rfl (by rw [h17]; rfl) ?_
      refine r_aload_n (x := 0) gL_law_388.2.1 rfl ?_
      refine r_roload_n (x := 0) gL_law_388.2.2.1 rfl ?_
      refine r_iload_n (x := l3) gL_law_388.2.2.2.1 rfl ?_
      refine r_iconst (v := (1 : Int32)) gL_law_388.2.2.2.2.1 rfl ?_
      refine r_iadd gL_law_388.2.2.2.2.2.1 ?_
      refine r_scload gL_law_388.2.2.2.2.2.2.1 ?_
      refine r_callI (k := 0) (idx := 36) (y := 145) (as := [.ref 0, .int (E.2.1 (l3 + (1 : Int32)).toNatClampNeg)]) (rest := []) (L0 := [(0, .ref 0), (1, .int (E.2.1 (l3 + (1 : Int32)).toNatClampNeg))]) gL_law_388.2.2.2.2.2.2.2.1 rfl rfl rfl rfl rfl (vok_v (ob_0 hE) rfl) rfl (r_dep (by decide) (e_X11_feed hE q (E.2.1 (l3 + (1 : Int32)).toNatClampNeg))) (fun r18 => ?_)
      refine r_pop gL_law_388.2.2.2.2.2.2.2.2.1 rfl ?_
      refine r_aload_n (x := 60) gL_law_388.2.2.2.2.2.2.2.2.2.1 rfl ?_
      refine r_roload_n (x := 0) gL_law_388.2.2.2.2.2.2.2.2.2.2.1 rfl ?_
      refine r_iload_n (x := l3) gL_law_388.2.2.2.2.2.2.2.2.2.2.2.1 rfl ?_
      refine r_iconst (v := (1 : Int32)) gL_law_388.2.2.2.2.2.2.2.2.2.2.2.2.1 rfl ?_
      refine r_iadd gL_law_388.2.2.2.2.2.2.2.2.2.2.2.2.2.1 ?_
      refine r_scload gL_law_388.2.2.2.2.2.2.2.2.2.2.2.2.2.2.1 ?_
      refine r_callI (k := 0) (idx := 39) (y := 207) (as := [.ref 60, .int (E.2.1 (l3 + (1 : Int32)).toNatClampNeg)]) (rest := []) (L0 := [(0, .ref 60), (1, .int (E.2.1 (l3 + (1 : Int32)).toNatClampNeg))]) gL_law_388.2.2.2.2.2.2.2.2.2.2.2.2.2.2.2.1 rfl rfl rfl rfl rfl (vok_v (ob_60 hE) rfl) rfl (r_dep (by decide) (e_X12_feed hE r18.2 (E.2.1 (l3 + (1 : Int32)).toNatClampNeg))) (fun r19 => ?_)
      refine r_pop gL_law_410.1 rfl ?_
      refine r_goto (t := 1513) gL_law_410.2.1 rfl ?_
      exact r_sub (L' := [(0, .retAddr 0), (1, .ref 0), (2, .ref 60), (3, .int l3)]) (sub_c rfl (sub_c rfl (sub_c rfl (sub_c rfl sub_n)))) (rb_L_law_1513 hE hrec_18 r19.2 l3)
    refine r_sw1 (fun h20 => ?_) (fun h20 => ?_)
    · refine r_jmp (t := 414) dL_law_33 rfl (by rw [h20]; rfl) ?_
      refine r_aload_n (x := 0) gL_law_410.2.2.1 rfl ?_
      refine r_callI (k := 0) (idx := 40) (y := 146) (as := [.ref 0]) (rest := []) (L0 := [(0, .ref 0)]) gL_law_410.2.2.2.1 rfl rfl rfl rfl rfl (vok_v (ob_0 hE) rfl) rfl (r_dep (by decide) (e_X11_law hE q)) (fun r21 => ?_)
      refine r_pop gL_law_410.2.2.2.2.1 rfl ?_
      refine r_aload_n (x := 60) gL_law_410.2.2.2.2.2.1 rfl ?_
      refine r_callI (k := 0) (idx := 44) (y := 225) (as := [.ref 60]) (rest := []) (L0 := [(0, .ref 60)]) gL_law_410.2.2.2.2.2.2.1 rfl rfl rfl rfl rfl (vok_v (ob_60 hE) rfl) rfl (r_dep (by decide) (e_X12_law hE r21.2)) (fun r22 => ?_)
      refine r_pop gL_law_410.2.2.2.2.2.2.2.1 rfl ?_
      refine r_goto (t := 1513) gL_law_410.2.2.2.2.2.2.2.2.1 rfl ?_
      exact r_sub (L' := [(0, .retAddr 0), (1, .ref 0), (2, .ref 60), (3, .int l3)]) (sub_c rfl (sub_c rfl (sub_c rfl (sub_c rfl sub_n)))) (rb_L_law_1513 hE hrec_18 r22.2 l3)
    refine r_sw1 (fun h23 => ?_) (fun h23 => ?_)
    · refine r_jmp (t := 427) dL_law_33 rfl (by rw [h23]; rfl) ?_
      refine r_aload_n (x := 0) gL_law_410.2.2.2.2.2.2.2.2.2.1 rfl ?_
      refine r_roload_n (x := 0) gL_law_410.2.2.2.2.2.2.2.2.2.2.1 rfl ?_
      refine r_iload_n (x := l3) gL_law_410.2.2.2.2.2.2.2.2.2.2.2.1 rfl ?_
      refine r_iconst (v := (1 : Int32)) gL_law_410.2.2.2.2.2.2.2.2.2.2.2.2.1 rfl ?_
      refine r_iadd gL_law_410.2.2.2.2.2.2.2.2.2.2.2.2.2.1 ?_
      refine r_scload gL_law_410.2.2.2.2.2.2.2.2.2.2.2.2.2.2.1 ?_
      refine r_callI (k := 0) (idx := 45) (y := 147) (as := [.ref 0, .int (E.2.1 (l3 + (1 : Int32)).toNatClampNeg)]) (rest := []) (L0 := [(0, .ref 0), (1, .int (E.2.1 (l3 + (1 : Int32)).toNatClampNeg))]) gL_law_410.2.2.2.2.2.2.2.2.2.2.2.2.2.2.2.1 rfl rfl rfl rfl rfl (vok_v (ob_0 hE) rfl) rfl (r_dep (by decide) (e_X11_odds hE q (E.2.1 (l3 + (1 : Int32)).toNatClampNeg))) (fun r24 => ?_)
      refine r_pop gL_law_436.1 rfl ?_
      refine r_aload_n (x := 60) gL_law_436.2.1 rfl ?_
      refine r_roload_n (x := 0) gL_law_436.2.2.1 rfl ?_
      refine r_iload_n (x := l3) gL_law_436.2.2.2.1 rfl ?_
      refine r_iconst (v := (1 : Int32)) gL_law_436.2.2.2.2.1 rfl ?_
      refine r_iadd gL_law_436.2.2.2.2.2.1 ?_
      refine r_scload gL_law_436.2.2.2.2.2.2.1 ?_
      refine r_callI (k := 0) (idx := 48) (y := 233) (as := [.ref 60, .int (E.2.1 (l3 + (1 : Int32)).toNatClampNeg)]) (rest := []) (L0 := [(0, .ref 60), (1, .int (E.2.1 (l3 + (1 : Int32)).toNatClampNeg))]) gL_law_436.2.2.2.2.2.2.2.1 rfl rfl rfl rfl rfl (vok_v (ob_60 hE) rfl) rfl (r_dep (by decide) (e_X12_odds hE r24.2 (E.2.1 (l3 + (1 : Int32)).toNatClampNeg))) (fun r25 => ?_)
      refine r_pop gL_law_436.2.2.2.2.2.2.2.2.1 rfl ?_
      refine r_goto (t := 1513) gL_law_436.2.2.2.2.2.2.2.2.2.1 rfl ?_
      exact r_sub (L' := [(0, .retAddr 0), (1, .ref 0), (2, .ref 60), (3, .int l3)]) (sub_c rfl (sub_c rfl (sub_c rfl (sub_c rfl sub_n)))) (rb_L_law_1513 hE hrec_18 r25.2 l3)
    refine r_sw1 (fun h26 => ?_) (fun h26 => ?_)
    · refine r_jmp (t := 450) dL_law_33 rfl (by rw [h26]; rfl) ?_
      refine r_aload_n (x := 0) gL_law_436.2.2.2.2.2.2.2.2.2.2.1 rfl ?_
      refine r_roload_n (x := 0) gL_law_436.2.2.2.2.2.2.2.2.2.2.2.1 rfl ?_
      refine r_iload_n (x := l3) gL_law_436.2.2.2.2.2.2.2.2.2.2.2.2.1 rfl ?_
      refine r_iconst (v := (1 : Int32)) gL_law_436.2.2.2.2.2.2.2.2.2.2.2.2.2.1 rfl ?_
      refine r_iadd gL_law_436.2.2.2.2.2.2.2.2.2.2.2.2.2.2.1 ?_
      refine r_scload gL_law_436.2.2.2.2.2.2.2.2.2.2.2.2.2.2.2.1 ?_
      refine r_roload_n (x := 0) gL_law_456.1 rfl ?_
      refine r_iload_n (x := l3) gL_law_456.2.1 rfl ?_
      refine r_iconst (v := (2 : Int32)) gL_law_456.2.2.1 rfl ?_
      refine r_iadd gL_law_456.2.2.2.1 ?_
      refine r_scload gL_law_456.2.2.2.2.1 ?_
      refine r_roload_n (x := 0) gL_law_456.2.2.2.2.2.1 rfl ?_
      refine r_iload_n (x := l3) gL_law_456.2.2.2.2.2.2.1 rfl ?_
      refine r_iconst (v := (3 : Int32)) gL_law_456.2.2.2.2.2.2.2.1 rfl ?_
      refine r_iadd gL_law_456.2.2.2.2.2.2.2.2.1 ?_
      refine r_scload gL_law_456.2.2.2.2.2.2.2.2.2.1 ?_
      refine r_callI (k := 0) (idx := 49) (y := 149) (as := [.ref 0, .int (E.2.1 (l3 + (1 : Int32)).toNatClampNeg), .int (E.2.1 (l3 + (2 : Int32)).toNatClampNeg), .int (E.2.1 (l3 + (3 : Int32)).toNatClampNeg)]) (rest := []) (L0 := [(0, .ref 0), (1, .int (E.2.1 (l3 + (1 : Int32)).toNatClampNeg)), (2, .int (E.2.1 (l3 + (2 : Int32)).toNatClampNeg)), (3, .int (E.2.1 (l3 + (3 : Int32)).toNatClampNeg))]) gL_law_456.2.2.2.2.2.2.2.2.2.2.1 rfl rfl rfl rfl rfl (vok_v (ob_0 hE) rfl) rfl (r_dep (by decide) (e_X11_later hE q (E.2.1 (l3 + (1 : Int32)).toNatClampNeg) (E.2.1 (l3 + (2 : Int32)).toNatClampNeg) (E.2.1 (l3 + (3 : Int32)).toNatClampNeg))) (fun r27 => ?_)
      refine r_pop gL_law_456.2.2.2.2.2.2.2.2.2.2.2.1 rfl ?_
      refine r_aload_n (x := 60) gL_law_456.2.2.2.2.2.2.2.2.2.2.2.2.1 rfl ?_
      refine r_roload_n (x := 0) gL_law_456.2.2.2.2.2.2.2.2.2.2.2.2.2.1 rfl ?_
      refine r_iload_n (x := l3) gL_law_456.2.2.2.2.2.2.2.2.2.2.2.2.2.2.1 rfl ?_
      refine r_iconst (v := (1 : Int32)) gL_law_456.2.2.2.2.2.2.2.2.2.2.2.2.2.2.2.1 rfl ?_
      refine r_iadd gL_law_474.1 ?_
      refine r_scload gL_law_474.2.1 ?_
      refine r_roload_n (x := 0) gL_law_474.2.2.1 rfl ?_
      refine r_iload_n (x := l3) gL_law_474.2.2.2.1 rfl ?_
      refine r_iconst (v := (2 : Int32)) gL_law_474.2.2.2.2.1 rfl ?_
      refine r_iadd gL_law_474.2.2.2.2.2.1 ?_
      refine r_scload gL_law_474.2.2.2.2.2.2.1 ?_
      refine r_roload_n (x := 0) gL_law_474.2.2.2.2.2.2.2.1 rfl ?_
      refine r_iload_n (x := l3) gL_law_474.2.2.2.2.2.2.2.2.1 rfl ?_
      refine r_iconst (v := (3 : Int32)) gL_law_474.2.2.2.2.2.2.2.2.2.1 rfl ?_
      refine r_iadd gL_law_474.2.2.2.2.2.2.2.2.2.2.1 ?_
      refine r_scload gL_law_474.2.2.2.2.2.2.2.2.2.2.2.1 ?_
      refine r_callI (k := 0) (idx := 52) (y := 239) (as := [.ref 60, .int (E.2.1 (l3 + (1 : Int32)).toNatClampNeg), .int (E.2.1 (l3 + (2 : Int32)).toNatClampNeg), .int (E.2.1 (l3 + (3 : Int32)).toNatClampNeg)]) (rest := []) (L0 := [(0, .ref 60), (1, .int (E.2.1 (l3 + (1 : Int32)).toNatClampNeg)), (2, .int (E.2.1 (l3 + (2 : Int32)).toNatClampNeg)), (3, .int (E.2.1 (l3 + (3 : Int32)).toNatClampNeg))]) gL_law_474.2.2.2.2.2.2.2.2.2.2.2.2.1 rfl rfl rfl rfl rfl (vok_v (ob_60 hE) rfl) rfl (r_dep (by decide) (e_X12_later hE r27.2 (E.2.1 (l3 + (1 : Int32)).toNatClampNeg) (E.2.1 (l3 + (2 : Int32)).toNatClampNeg) (E.2.1 (l3 + (3 : Int32)).toNatClampNeg))) (fun r28 => ?_)
      refine r_pop gL_law_474.2.2.2.2.2.2.2.2.2.2.2.2.2.1 rfl ?_
      refine r_goto (t := 1513) gL_law_474.2.2.2.2.2.2.2.2.2.2.2.2.2.2.1 rfl ?_
      exact r_sub (L' := [(0, .retAddr 0), (1, .ref 0), (2, .ref 60), (3, .int l3)]) (sub_c rfl (sub_c rfl (sub_c rfl (sub_c rfl sub_n)))) (rb_L_law_1513 hE hrec_18 r28.2 l3)
    refine r_sw1 (fun h29 => ?_) (fun h29 => ?_)
    · refine r_jmp (t := 493) dL_law_33 rfl (by rw [h29]; rfl) ?_
      refine r_aload_n (x := 0) gL_law_474.2.2.2.2.2.2.2.2.2.2.2.2.2.2.2.1 rfl ?_
      refine r_roload_n (x := 0) gL_law_494.1 rfl ?_
      refine r_iload_n (x := l3) gL_law_494.2.1 rfl ?_
      refine r_iconst (v := (1 : Int32)) gL_law_494.2.2.1 rfl ?_
      refine r_iadd gL_law_494.2.2.2.1 ?_
      refine r_scload gL_law_494.2.2.2.2.1 ?_
      refine r_roload_n (x := 0) gL_law_494.2.2.2.2.2.1 rfl ?_
      refine r_iload_n (x := l3) gL_law_494.2.2.2.2.2.2.1 rfl ?_
      refine r_iconst (v := (2 : Int32)) gL_law_494.2.2.2.2.2.2.2.1 rfl ?_
      refine r_iadd gL_law_494.2.2.2.2.2.2.2.2.1 ?_
      refine r_scload gL_law_494.2.2.2.2.2.2.2.2.2.1 ?_
      refine r_roload_n (x := 0) gL_law_494.2.2.2.2.2.2.2.2.2.2.1 rfl ?_
      refine r_iload_n (x := l3) gL_law_494.2.2.2.2.2.2.2.2.2.2.2.1 rfl ?_
      refine r_iconst (v := (3 : Int32)) gL_law_494.2.2.2.2.2.2.2.2.2.2.2.2.1 rfl ?_
      refine r_iadd gL_law_494.2.2.2.2.2.2.2.2.2.2.2.2.2.1 ?_
      refine r_scload gL_law_494.2.2.2.2.2.2.2.2.2.2.2.2.2.2.1 ?_
      refine r_callI (k := 0) (idx := 53) (y := 150) (as := [.ref 0, .int (E.2.1 (l3 + (1 : Int32)).toNatClampNeg), .int (E.2.1 (l3 + (2 : Int32)).toNatClampNeg), .int (E.2.1 (l3 + (3 : Int32)).toNatClampNeg)]) (rest := []) (L0 := [(0, .ref 0), (1, .int (E.2.1 (l3 + (1 : Int32)).toNatClampNeg)), (2, .int (E.2.1 (l3 + (2 : Int32)).toNatClampNeg)), (3, .int (E.2.1 (l3 + (3 : Int32)).toNatClampNeg))]) gL_law_494.2.2.2.2.2.2.2.2.2.2.2.2.2.2.2.1 rfl rfl rfl rfl rfl (vok_v (ob_0 hE) rfl) rfl (r_dep (by decide) (e_X11_eve hE q (E.2.1 (l3 + (1 : Int32)).toNatClampNeg) (E.2.1 (l3 + (2 : Int32)).toNatClampNeg) (E.2.1 (l3 + (3 : Int32)).toNatClampNeg))) (fun r30 => ?_)
      refine r_pop gL_law_512.1 rfl ?_
      refine r_aload_n (x := 60) gL_law_512.2.1 rfl ?_
      refine r_roload_n (x := 0) gL_law_512.2.2.1 rfl ?_
      refine r_iload_n (x := l3) gL_law_512.2.2.2.1 rfl ?_
      refine r_iconst (v := (1 : Int32)) gL_law_512.2.2.2.2.1 rfl ?_
      refine r_iadd gL_law_512.2.2.2.2.2.1 ?_
      refine r_scload gL_law_512.2.2.2.2.2.2.1 ?_
      refine r_roload_n (x := 0) gL_law_512.2.2.2.2.2.2.2.1 rfl ?_
      refine r_iload_n (x := l3) gL_law_512.2.2.2.2.2.2.2.2.1 rfl ?_
      refine r_iconst (v := (2 : Int32)) gL_law_512.2.2.2.2.2.2.2.2.2.1 rfl ?_
      refine r_iadd gL_law_512.2.2.2.2.2.2.2.2.2.2.1 ?_
      refine r_scload gL_law_512.2.2.2.2.2.2.2.2.2.2.2.1 ?_
      refine r_roload_n (x := 0) gL_law_512.2.2.2.2.2.2.2.2.2.2.2.2.1 rfl ?_
      refine r_iload_n (x := l3) gL_law_512.2.2.2.2.2.2.2.2.2.2.2.2.2.1 rfl ?_
      refine r_iconst (v := (3 : Int32)) gL_law_512.2.2.2.2.2.2.2.2.2.2.2.2.2.2.1 rfl ?_
      refine r_iadd gL_law_512.2.2.2.2.2.2.2.2.2.2.2.2.2.2.2.1 ?_
      refine r_scload gL_law_528.1 ?_
      refine r_callI (k := 0) (idx := 56) (y := 240) (as := [.ref 60, .int (E.2.1 (l3 + (1 : Int32)).toNatClampNeg), .int (E.2.1 (l3 + (2 : Int32)).toNatClampNeg), .int (E.2.1 (l3 + (3 : Int32)).toNatClampNeg)]) (rest := []) (L0 := [(0, .ref 60), (1, .int (E.2.1 (l3 + (1 : Int32)).toNatClampNeg)), (2, .int (E.2.1 (l3 + (2 : Int32)).toNatClampNeg)), (3, .int (E.2.1 (l3 + (3 : Int32)).toNatClampNeg))]) gL_law_528.2.1 rfl rfl rfl rfl rfl (vok_v (ob_60 hE) rfl) rfl (r_dep (by decide) (e_X12_eve hE r30.2 (E.2.1 (l3 + (1 : Int32)).toNatClampNeg) (E.2.1 (l3 + (2 : Int32)).toNatClampNeg) (E.2.1 (l3 + (3 : Int32)).toNatClampNeg))) (fun r31 => ?_)
      refine r_pop gL_law_528.2.2.1 rfl ?_
      refine r_goto (t := 1513) gL_law_528.2.2.2.1 rfl ?_
      exact r_sub (L' := [(0, .retAddr 0), (1, .ref 0), (2, .ref 60), (3, .int l3)]) (sub_c rfl (sub_c rfl (sub_c rfl (sub_c rfl sub_n)))) (rb_L_law_1513 hE hrec_18 r31.2 l3)
    refine r_sw1 (fun h32 => ?_) (fun h32 => ?_)
    · refine r_jmp (t := 536) dL_law_33 rfl (by rw [h32]; rfl) ?_
      refine r_aload_n (x := 0) gL_law_528.2.2.2.2.1 rfl ?_
      refine r_roload_n (x := 0) gL_law_528.2.2.2.2.2.1 rfl ?_
      refine r_iload_n (x := l3) gL_law_528.2.2.2.2.2.2.1 rfl ?_
      refine r_iconst (v := (1 : Int32)) gL_law_528.2.2.2.2.2.2.2.1 rfl ?_
      refine r_iadd gL_law_528.2.2.2.2.2.2.2.2.1 ?_
      refine r_scload gL_law_528.2.2.2.2.2.2.2.2.2.1 ?_
      refine r_roload_n (x := 0) gL_law_528.2.2.2.2.2.2.2.2.2.2.1 rfl ?_
      refine r_iload_n (x := l3) gL_law_528.2.2.2.2.2.2.2.2.2.2.2.1 rfl ?_
      refine r_iconst (v := (2 : Int32)) gL_law_528.2.2.2.2.2.2.2.2.2.2.2.2.1 rfl ?_
      refine r_iadd gL_law_528.2.2.2.2.2.2.2.2.2.2.2.2.2.1 ?_
      refine r_scload gL_law_528.2.2.2.2.2.2.2.2.2.2.2.2.2.2.1 ?_
      refine r_roload_n (x := 0) gL_law_528.2.2.2.2.2.2.2.2.2.2.2.2.2.2.2.1 rfl ?_
      refine r_iload_n (x := l3) gL_law_548.1 rfl ?_
      refine r_iconst (v := (3 : Int32)) gL_law_548.2.1 rfl ?_
      refine r_iadd gL_law_548.2.2.1 ?_
      refine r_scload gL_law_548.2.2.2.1 ?_
      refine r_callL (k := 0) (idx := 57) (y := 151) (as := [.ref 0, .int (E.2.1 (l3 + (1 : Int32)).toNatClampNeg), .int (E.2.1 (l3 + (2 : Int32)).toNatClampNeg), .int (E.2.1 (l3 + (3 : Int32)).toNatClampNeg)]) (rest := []) (L0 := [(0, .ref 0), (1, .int (E.2.1 (l3 + (1 : Int32)).toNatClampNeg)), (2, .int (E.2.1 (l3 + (2 : Int32)).toNatClampNeg)), (3, .int (E.2.1 (l3 + (3 : Int32)).toNatClampNeg))]) gL_law_548.2.2.2.2.1 rfl rfl rfl rfl rfl (vok_v (ob_0 hE) rfl) rfl (r_dep (by decide) (e_X11_likely hE q (E.2.1 (l3 + (1 : Int32)).toNatClampNeg) (E.2.1 (l3 + (2 : Int32)).toNatClampNeg) (E.2.1 (l3 + (3 : Int32)).toNatClampNeg))) (fun r33 => ?_)
      refine r_pop2 gL_law_548.2.2.2.2.2.1 ?_
      refine r_aload_n (x := 60) gL_law_548.2.2.2.2.2.2.1 rfl ?_
      refine r_roload_n (x := 0) gL_law_548.2.2.2.2.2.2.2.1 rfl ?_
      refine r_iload_n (x := l3) gL_law_548.2.2.2.2.2.2.2.2.1 rfl ?_
      refine r_iconst (v := (1 : Int32)) gL_law_548.2.2.2.2.2.2.2.2.2.1 rfl ?_
      refine r_iadd gL_law_548.2.2.2.2.2.2.2.2.2.2.1 ?_
      refine r_scload gL_law_548.2.2.2.2.2.2.2.2.2.2.2.1 ?_
      refine r_roload_n (x := 0) gL_law_548.2.2.2.2.2.2.2.2.2.2.2.2.1 rfl ?_
      refine r_iload_n (x := l3) gL_law_548.2.2.2.2.2.2.2.2.2.2.2.2.2.1 rfl ?_
      refine r_iconst (v := (2 : Int32)) gL_law_548.2.2.2.2.2.2.2.2.2.2.2.2.2.2.1 rfl ?_
      refine r_iadd gL_law_548.2.2.2.2.2.2.2.2.2.2.2.2.2.2.2.1 ?_
      refine r_scload gL_law_566.1 ?_
      refine r_roload_n (x := 0) gL_law_566.2.1 rfl ?_
      refine r_iload_n (x := l3) gL_law_566.2.2.1 rfl ?_
      refine r_iconst (v := (3 : Int32)) gL_law_566.2.2.2.1 rfl ?_
      refine r_iadd gL_law_566.2.2.2.2.1 ?_
      refine r_scload gL_law_566.2.2.2.2.2.1 ?_
      refine r_callL (k := 0) (idx := 61) (y := 242) (as := [.ref 60, .int (E.2.1 (l3 + (1 : Int32)).toNatClampNeg), .int (E.2.1 (l3 + (2 : Int32)).toNatClampNeg), .int (E.2.1 (l3 + (3 : Int32)).toNatClampNeg)]) (rest := []) (L0 := [(0, .ref 60), (1, .int (E.2.1 (l3 + (1 : Int32)).toNatClampNeg)), (2, .int (E.2.1 (l3 + (2 : Int32)).toNatClampNeg)), (3, .int (E.2.1 (l3 + (3 : Int32)).toNatClampNeg))]) gL_law_566.2.2.2.2.2.2.1 rfl rfl rfl rfl rfl (vok_v (ob_60 hE) rfl) rfl (r_dep (by decide) (e_X12_likely hE r33.2 (E.2.1 (l3 + (1 : Int32)).toNatClampNeg) (E.2.1 (l3 + (2 : Int32)).toNatClampNeg) (E.2.1 (l3 + (3 : Int32)).toNatClampNeg))) (fun r34 => ?_)
      refine r_pop2 gL_law_566.2.2.2.2.2.2.2.1 ?_
      refine r_goto (t := 1513) gL_law_566.2.2.2.2.2.2.2.2.1 rfl ?_
      exact r_sub (L' := [(0, .retAddr 0), (1, .ref 0), (2, .ref 60), (3, .int l3)]) (sub_c rfl (sub_c rfl (sub_c rfl (sub_c rfl sub_n)))) (rb_L_law_1513 hE hrec_18 r34.2 l3)
    refine r_sw1 (fun h35 => ?_) (fun h35 => ?_)
    · refine r_jmp (t := 579) dL_law_33 rfl (by rw [h35]; rfl) ?_
      refine r_aload_n (x := 0) gL_law_566.2.2.2.2.2.2.2.2.2.1 rfl ?_
      refine r_roload_n (x := 0) gL_law_566.2.2.2.2.2.2.2.2.2.2.1 rfl ?_
      refine r_iload_n (x := l3) gL_law_566.2.2.2.2.2.2.2.2.2.2.2.1 rfl ?_
      refine r_iconst (v := (1 : Int32)) gL_law_566.2.2.2.2.2.2.2.2.2.2.2.2.1 rfl ?_
      refine r_iadd gL_law_566.2.2.2.2.2.2.2.2.2.2.2.2.2.1 ?_
      refine r_scload gL_law_566.2.2.2.2.2.2.2.2.2.2.2.2.2.2.1 ?_
      refine r_roload_n (x := 0) gL_law_566.2.2.2.2.2.2.2.2.2.2.2.2.2.2.2.1 rfl ?_
      refine r_iload_n (x := l3) gL_law_586.1 rfl ?_
      refine r_iconst (v := (2 : Int32)) gL_law_586.2.1 rfl ?_
      refine r_iadd gL_law_586.2.2.1 ?_
      refine r_scload gL_law_586.2.2.2.1 ?_
      refine r_callL (k := 0) (idx := 62) (y := 152) (as := [.ref 0, .int (E.2.1 (l3 + (1 : Int32)).toNatClampNeg), .int (E.2.1 (l3 + (2 : Int32)).toNatClampNeg)]) (rest := []) (L0 := [(0, .ref 0), (1, .int (E.2.1 (l3 + (1 : Int32)).toNatClampNeg)), (2, .int (E.2.1 (l3 + (2 : Int32)).toNatClampNeg))]) gL_law_586.2.2.2.2.1 rfl rfl rfl rfl rfl (vok_v (ob_0 hE) rfl) rfl (r_dep (by decide) (e_X11_all hE q (E.2.1 (l3 + (1 : Int32)).toNatClampNeg) (E.2.1 (l3 + (2 : Int32)).toNatClampNeg))) (fun r36 => ?_)
      refine r_pop2 gL_law_586.2.2.2.2.2.1 ?_
      refine r_aload_n (x := 60) gL_law_586.2.2.2.2.2.2.1 rfl ?_
      refine r_roload_n (x := 0) gL_law_586.2.2.2.2.2.2.2.1 rfl ?_
      refine r_iload_n (x := l3) gL_law_586.2.2.2.2.2.2.2.2.1 rfl ?_
      refine r_iconst (v := (1 : Int32)) gL_law_586.2.2.2.2.2.2.2.2.2.1 rfl ?_
      refine r_iadd gL_law_586.2.2.2.2.2.2.2.2.2.2.1 ?_
      refine r_scload gL_law_586.2.2.2.2.2.2.2.2.2.2.2.1 ?_
      refine r_roload_n (x := 0) gL_law_586.2.2.2.2.2.2.2.2.2.2.2.2.1 rfl ?_
      refine r_iload_n (x := l3) gL_law_586.2.2.2.2.2.2.2.2.2.2.2.2.2.1 rfl ?_
      refine r_iconst (v := (2 : Int32)) gL_law_586.2.2.2.2.2.2.2.2.2.2.2.2.2.2.1 rfl ?_
      refine r_iadd gL_law_586.2.2.2.2.2.2.2.2.2.2.2.2.2.2.2.1 ?_
      refine r_scload gL_law_604.1 ?_
      refine r_callL (k := 0) (idx := 66) (y := 243) (as := [.ref 60, .int (E.2.1 (l3 + (1 : Int32)).toNatClampNeg), .int (E.2.1 (l3 + (2 : Int32)).toNatClampNeg)]) (rest := []) (L0 := [(0, .ref 60), (1, .int (E.2.1 (l3 + (1 : Int32)).toNatClampNeg)), (2, .int (E.2.1 (l3 + (2 : Int32)).toNatClampNeg))]) gL_law_604.2.1 rfl rfl rfl rfl rfl (vok_v (ob_60 hE) rfl) rfl (r_dep (by decide) (e_X12_all hE r36.2 (E.2.1 (l3 + (1 : Int32)).toNatClampNeg) (E.2.1 (l3 + (2 : Int32)).toNatClampNeg))) (fun r37 => ?_)
      refine r_pop2 gL_law_604.2.2.1 ?_
      refine r_goto (t := 1513) gL_law_604.2.2.2.1 rfl ?_
      exact r_sub (L' := [(0, .retAddr 0), (1, .ref 0), (2, .ref 60), (3, .int l3)]) (sub_c rfl (sub_c rfl (sub_c rfl (sub_c rfl sub_n)))) (rb_L_law_1513 hE hrec_18 r37.2 l3)
    refine r_sw1 (fun h38 => ?_) (fun h38 => ?_)
    · refine r_jmp (t := 612) dL_law_33 rfl (by rw [h38]; rfl) ?_
      refine r_aload_n (x := 0) gL_law_604.2.2.2.2.1 rfl ?_
      refine r_roload_n (x := 0) gL_law_604.2.2.2.2.2.1 rfl ?_
      refine r_iload_n (x := l3) gL_law_604.2.2.2.2.2.2.1 rfl ?_
      refine r_iconst (v := (1 : Int32)) gL_law_604.2.2.2.2.2.2.2.1 rfl ?_
      refine r_iadd gL_law_604.2.2.2.2.2.2.2.2.1 ?_
      refine r_scload gL_law_604.2.2.2.2.2.2.2.2.2.1 ?_
      refine r_roload_n (x := 0) gL_law_604.2.2.2.2.2.2.2.2.2.2.1 rfl ?_
      refine r_iload_n (x := l3) gL_law_604.2.2.2.2.2.2.2.2.2.2.2.1 rfl ?_
      refine r_iconst (v := (2 : Int32)) gL_law_604.2.2.2.2.2.2.2.2.2.2.2.2.1 rfl ?_
      refine r_iadd gL_law_604.2.2.2.2.2.2.2.2.2.2.2.2.2.1 ?_
      refine r_scload gL_law_604.2.2.2.2.2.2.2.2.2.2.2.2.2.2.1 ?_
      refine r_callL (k := 0) (idx := 67) (y := 155) (as := [.ref 0, .int (E.2.1 (l3 + (1 : Int32)).toNatClampNeg), .int (E.2.1 (l3 + (2 : Int32)).toNatClampNeg)]) (rest := []) (L0 := [(0, .ref 0), (1, .int (E.2.1 (l3 + (1 : Int32)).toNatClampNeg)), (2, .int (E.2.1 (l3 + (2 : Int32)).toNatClampNeg))]) gL_law_604.2.2.2.2.2.2.2.2.2.2.2.2.2.2.2.1 rfl rfl rfl rfl rfl (vok_v (ob_0 hE) rfl) rfl (r_dep (by decide) (e_X11_king hE q (E.2.1 (l3 + (1 : Int32)).toNatClampNeg) (E.2.1 (l3 + (2 : Int32)).toNatClampNeg))) (fun r39 => ?_)
      refine r_pop2 gL_law_626.1 ?_
      refine r_aload_n (x := 60) gL_law_626.2.1 rfl ?_
      refine r_roload_n (x := 0) gL_law_626.2.2.1 rfl ?_
      refine r_iload_n (x := l3) gL_law_626.2.2.2.1 rfl ?_
      refine r_iconst (v := (1 : Int32)) gL_law_626.2.2.2.2.1 rfl ?_
      refine r_iadd gL_law_626.2.2.2.2.2.1 ?_
      refine r_scload gL_law_626.2.2.2.2.2.2.1 ?_
      refine r_roload_n (x := 0) gL_law_626.2.2.2.2.2.2.2.1 rfl ?_
      refine r_iload_n (x := l3) gL_law_626.2.2.2.2.2.2.2.2.1 rfl ?_
      refine r_iconst (v := (2 : Int32)) gL_law_626.2.2.2.2.2.2.2.2.2.1 rfl ?_
      refine r_iadd gL_law_626.2.2.2.2.2.2.2.2.2.2.1 ?_
      refine r_scload gL_law_626.2.2.2.2.2.2.2.2.2.2.2.1 ?_
      refine r_callL (k := 0) (idx := 70) (y := 244) (as := [.ref 60, .int (E.2.1 (l3 + (1 : Int32)).toNatClampNeg), .int (E.2.1 (l3 + (2 : Int32)).toNatClampNeg)]) (rest := []) (L0 := [(0, .ref 60), (1, .int (E.2.1 (l3 + (1 : Int32)).toNatClampNeg)), (2, .int (E.2.1 (l3 + (2 : Int32)).toNatClampNeg))]) gL_law_626.2.2.2.2.2.2.2.2.2.2.2.2.1 rfl rfl rfl rfl rfl (vok_v (ob_60 hE) rfl) rfl (r_dep (by decide) (e_X12_king hE r39.2 (E.2.1 (l3 + (1 : Int32)).toNatClampNeg) (E.2.1 (l3 + (2 : Int32)).toNatClampNeg))) (fun r40 => ?_)
      refine r_pop2 gL_law_626.2.2.2.2.2.2.2.2.2.2.2.2.2.1 ?_
      refine r_goto (t := 1513) gL_law_626.2.2.2.2.2.2.2.2.2.2.2.2.2.2.1 rfl ?_
      exact r_sub (L' := [(0, .retAddr 0), (1, .ref 0), (2, .ref 60), (3, .int l3)]) (sub_c rfl (sub_c rfl (sub_c rfl (sub_c rfl sub_n)))) (rb_L_law_1513 hE hrec_18 r40.2 l3)
    refine r_sw1 (fun h41 => ?_) (fun h41 => ?_)
    · refine r_jmp (t := 645) dL_law_33 rfl (by rw [h41]; rfl) ?_
      refine r_aload_n (x := 0) gL_law_626.2.2.2.2.2.2.2.2.2.2.2.2.2.2.2.1 rfl ?_
      refine r_callI (k := 0) (idx := 71) (y := 156) (as := [.ref 0]) (rest := []) (L0 := [(0, .ref 0)]) gL_law_646.1 rfl rfl rfl rfl rfl (vok_v (ob_0 hE) rfl) rfl (r_dep (by decide) (e_X11_safe hE q)) (fun r42 => ?_)
      refine r_pop gL_law_646.2.1 rfl ?_
      refine r_aload_n (x := 60) gL_law_646.2.2.1 rfl ?_
      refine r_callI (k := 0) (idx := 74) (y := 245) (as := [.ref 60]) (rest := []) (L0 := [(0, .ref 60)]) gL_law_646.2.2.2.1 rfl rfl rfl rfl rfl (vok_v (ob_60 hE) rfl) rfl (r_dep (by decide) (e_X12_safe hE r42.2)) (fun r43 => ?_)
      refine r_pop gL_law_646.2.2.2.2.1 rfl ?_
      refine r_goto (t := 1513) gL_law_646.2.2.2.2.2.1 rfl ?_
      exact r_sub (L' := [(0, .retAddr 0), (1, .ref 0), (2, .ref 60), (3, .int l3)]) (sub_c rfl (sub_c rfl (sub_c rfl (sub_c rfl sub_n)))) (rb_L_law_1513 hE hrec_18 r43.2 l3)
    refine r_sw1 (fun h44 => ?_) (fun h44 => ?_)
    · refine r_jmp (t := 658) dL_law_33 rfl (by rw [h44]; rfl) ?_
      refine r_aload_n (x := 0) gL_law_646.2.2.2.2.2.2.1 rfl ?_
      refine r_callI (k := 0) (idx := 75) (y := 157) (as := [.ref 0]) (rest := []) (L0 := [(0, .ref 0)]) gL_law_646.2.2.2.2.2.2.2.1 rfl rfl rfl rfl rfl (vok_v (ob_0 hE) rfl) rfl (r_dep (by decide) (e_X11_likeliest hE q)) (fun r45 => ?_)
      refine r_pop gL_law_646.2.2.2.2.2.2.2.2.1 rfl ?_
      refine r_aload_n (x := 60) gL_law_646.2.2.2.2.2.2.2.2.2.1 rfl ?_
      refine r_callI (k := 0) (idx := 78) (y := 246) (as := [.ref 60]) (rest := []) (L0 := [(0, .ref 60)]) gL_law_646.2.2.2.2.2.2.2.2.2.2.1 rfl rfl rfl rfl rfl (vok_v (ob_60 hE) rfl) rfl (r_dep (by decide) (e_X12_likeliest hE r45.2)) (fun r46 => ?_)
      refine r_pop gL_law_646.2.2.2.2.2.2.2.2.2.2.2.1 rfl ?_
      refine r_goto (t := 1513) gL_law_646.2.2.2.2.2.2.2.2.2.2.2.2.1 rfl ?_
      exact r_sub (L' := [(0, .retAddr 0), (1, .ref 0), (2, .ref 60), (3, .int l3)]) (sub_c rfl (sub_c rfl (sub_c rfl (sub_c rfl sub_n)))) (rb_L_law_1513 hE hrec_18 r46.2 l3)
    refine r_sw1 (fun h47 => ?_) (fun h47 => ?_)
    · refine r_jmp (t := 671) dL_law_33 rfl (by rw [h47]; rfl) ?_
      refine r_aload_n (x := 0) gL_law_646.2.2.2.2.2.2.2.2.2.2.2.2.2.1 rfl ?_
      refine r_roload_n (x := 0) gL_law_646.2.2.2.2.2.2.2.2.2.2.2.2.2.2.1 rfl ?_
      refine r_iload_n (x := l3) gL_law_646.2.2.2.2.2.2.2.2.2.2.2.2.2.2.2.1 rfl ?_
      refine r_iconst (v := (1 : Int32)) gL_law_674.1 rfl ?_
      refine r_iadd gL_law_674.2.1 ?_
      refine r_scload gL_law_674.2.2.1 ?_
      refine r_callI (k := 0) (idx := 79) (y := 158) (as := [.ref 0, .int (E.2.1 (l3 + (1 : Int32)).toNatClampNeg)]) (rest := []) (L0 := [(0, .ref 0), (1, .int (E.2.1 (l3 + (1 : Int32)).toNatClampNeg))]) gL_law_674.2.2.2.1 rfl rfl rfl rfl rfl (vok_v (ob_0 hE) rfl) rfl (r_dep (by decide) (e_X11_watch hE q (E.2.1 (l3 + (1 : Int32)).toNatClampNeg))) (fun r48 => ?_)
      refine r_pop gL_law_674.2.2.2.2.1 rfl ?_
      refine r_aload_n (x := 60) gL_law_674.2.2.2.2.2.1 rfl ?_
      refine r_roload_n (x := 0) gL_law_674.2.2.2.2.2.2.1 rfl ?_
      refine r_iload_n (x := l3) gL_law_674.2.2.2.2.2.2.2.1 rfl ?_
      refine r_iconst (v := (1 : Int32)) gL_law_674.2.2.2.2.2.2.2.2.1 rfl ?_
      refine r_iadd gL_law_674.2.2.2.2.2.2.2.2.2.1 ?_
      refine r_scload gL_law_674.2.2.2.2.2.2.2.2.2.2.1 ?_
      refine r_callI (k := 0) (idx := 82) (y := 247) (as := [.ref 60, .int (E.2.1 (l3 + (1 : Int32)).toNatClampNeg)]) (rest := []) (L0 := [(0, .ref 60), (1, .int (E.2.1 (l3 + (1 : Int32)).toNatClampNeg))]) gL_law_674.2.2.2.2.2.2.2.2.2.2.2.1 rfl rfl rfl rfl rfl (vok_v (ob_60 hE) rfl) rfl (r_dep (by decide) (e_X12_watch hE r48.2 (E.2.1 (l3 + (1 : Int32)).toNatClampNeg))) (fun r49 => ?_)
      refine r_pop gL_law_674.2.2.2.2.2.2.2.2.2.2.2.2.1 rfl ?_
      refine r_goto (t := 1513) gL_law_674.2.2.2.2.2.2.2.2.2.2.2.2.2.1 rfl ?_
      exact r_sub (L' := [(0, .retAddr 0), (1, .ref 0), (2, .ref 60), (3, .int l3)]) (sub_c rfl (sub_c rfl (sub_c rfl (sub_c rfl sub_n)))) (rb_L_law_1513 hE hrec_18 r49.2 l3)
    refine r_sw1 (fun h50 => ?_) (fun h50 => ?_)
    · refine r_jmp (t := 694) dL_law_33 rfl (by rw [h50]; rfl) ?_
      refine r_aload_n (x := 0) gL_law_674.2.2.2.2.2.2.2.2.2.2.2.2.2.2.1 rfl ?_
      refine r_roload_n (x := 0) gL_law_674.2.2.2.2.2.2.2.2.2.2.2.2.2.2.2.1 rfl ?_
      refine r_iload_n (x := l3) gL_law_696.1 rfl ?_
      refine r_iconst (v := (1 : Int32)) gL_law_696.2.1 rfl ?_
      refine r_iadd gL_law_696.2.2.1 ?_
      refine r_scload gL_law_696.2.2.2.1 ?_
      refine r_roload_n (x := 0) gL_law_696.2.2.2.2.1 rfl ?_
      refine r_iload_n (x := l3) gL_law_696.2.2.2.2.2.1 rfl ?_
      refine r_iconst (v := (2 : Int32)) gL_law_696.2.2.2.2.2.2.1 rfl ?_
      refine r_iadd gL_law_696.2.2.2.2.2.2.2.1 ?_
      refine r_scload gL_law_696.2.2.2.2.2.2.2.2.1 ?_
      refine r_roload_n (x := 0) gL_law_696.2.2.2.2.2.2.2.2.2.1 rfl ?_
      refine r_iload_n (x := l3) gL_law_696.2.2.2.2.2.2.2.2.2.2.1 rfl ?_
      refine r_iconst (v := (3 : Int32)) gL_law_696.2.2.2.2.2.2.2.2.2.2.2.1 rfl ?_
      refine r_iadd gL_law_696.2.2.2.2.2.2.2.2.2.2.2.2.1 ?_
      refine r_scload gL_law_696.2.2.2.2.2.2.2.2.2.2.2.2.2.1 ?_
      refine r_callL (k := 0) (idx := 83) (y := 159) (as := [.ref 0, .int (E.2.1 (l3 + (1 : Int32)).toNatClampNeg), .int (E.2.1 (l3 + (2 : Int32)).toNatClampNeg), .int (E.2.1 (l3 + (3 : Int32)).toNatClampNeg)]) (rest := []) (L0 := [(0, .ref 0), (1, .int (E.2.1 (l3 + (1 : Int32)).toNatClampNeg)), (2, .int (E.2.1 (l3 + (2 : Int32)).toNatClampNeg)), (3, .int (E.2.1 (l3 + (3 : Int32)).toNatClampNeg))]) gL_law_696.2.2.2.2.2.2.2.2.2.2.2.2.2.2.1 rfl rfl rfl rfl rfl (vok_v (ob_0 hE) rfl) rfl (r_dep (by decide) (e_X11_rid hE q (E.2.1 (l3 + (1 : Int32)).toNatClampNeg) (E.2.1 (l3 + (2 : Int32)).toNatClampNeg) (E.2.1 (l3 + (3 : Int32)).toNatClampNeg))) (fun r51 => ?_)
      refine r_pop2 gL_law_696.2.2.2.2.2.2.2.2.2.2.2.2.2.2.2.1 ?_
      refine r_aload_n (x := 60) gL_law_714.1 rfl ?_
      refine r_roload_n (x := 0) gL_law_714.2.1 rfl ?_
      refine r_iload_n (x := l3) gL_law_714.2.2.1 rfl ?_
      refine r_iconst (v := (1 : Int32)) gL_law_714.2.2.2.1 rfl ?_
      refine r_iadd gL_law_714.2.2.2.2.1 ?_
      refine r_scload gL_law_714.2.2.2.2.2.1 ?_
      refine r_roload_n (x := 0) gL_law_714.2.2.2.2.2.2.1 rfl ?_
      refine r_iload_n (x := l3) gL_law_714.2.2.2.2.2.2.2.1 rfl ?_
      refine r_iconst (v := (2 : Int32)) gL_law_714.2.2.2.2.2.2.2.2.1 rfl ?_
      refine r_iadd gL_law_714.2.2.2.2.2.2.2.2.2.1 ?_
      refine r_scload gL_law_714.2.2.2.2.2.2.2.2.2.2.1 ?_
      refine r_roload_n (x := 0) gL_law_714.2.2.2.2.2.2.2.2.2.2.2.1 rfl ?_
      refine r_iload_n (x := l3) gL_law_714.2.2.2.2.2.2.2.2.2.2.2.2.1 rfl ?_
      refine r_iconst (v := (3 : Int32)) gL_law_714.2.2.2.2.2.2.2.2.2.2.2.2.2.1 rfl ?_
      refine r_iadd gL_law_714.2.2.2.2.2.2.2.2.2.2.2.2.2.2.1 ?_
      refine r_scload gL_law_714.2.2.2.2.2.2.2.2.2.2.2.2.2.2.2.1 ?_
      refine r_callL (k := 0) (idx := 86) (y := 252) (as := [.ref 60, .int (E.2.1 (l3 + (1 : Int32)).toNatClampNeg), .int (E.2.1 (l3 + (2 : Int32)).toNatClampNeg), .int (E.2.1 (l3 + (3 : Int32)).toNatClampNeg)]) (rest := []) (L0 := [(0, .ref 60), (1, .int (E.2.1 (l3 + (1 : Int32)).toNatClampNeg)), (2, .int (E.2.1 (l3 + (2 : Int32)).toNatClampNeg)), (3, .int (E.2.1 (l3 + (3 : Int32)).toNatClampNeg))]) gL_law_730.1 rfl rfl rfl rfl rfl (vok_v (ob_60 hE) rfl) rfl (r_dep (by decide) (e_X12_rid hE r51.2 (E.2.1 (l3 + (1 : Int32)).toNatClampNeg) (E.2.1 (l3 + (2 : Int32)).toNatClampNeg) (E.2.1 (l3 + (3 : Int32)).toNatClampNeg))) (fun r52 => ?_)
      refine r_pop2 gL_law_730.2.1 ?_
      refine r_goto (t := 1513) gL_law_730.2.2.1 rfl ?_
      exact r_sub (L' := [(0, .retAddr 0), (1, .ref 0), (2, .ref 60), (3, .int l3)]) (sub_c rfl (sub_c rfl (sub_c rfl (sub_c rfl sub_n)))) (rb_L_law_1513 hE hrec_18 r52.2 l3)
    refine r_sw1 (fun h53 => ?_) (fun h53 => ?_)
    · refine r_jmp (t := 737) dL_law_33 rfl (by rw [h53]; rfl) ?_
      refine r_aload_n (x := 0) gL_law_730.2.2.2.1 rfl ?_
      refine r_roload_n (x := 0) gL_law_730.2.2.2.2.1 rfl ?_
      refine r_iload_n (x := l3) gL_law_730.2.2.2.2.2.1 rfl ?_
      refine r_iconst (v := (1 : Int32)) gL_law_730.2.2.2.2.2.2.1 rfl ?_
      refine r_iadd gL_law_730.2.2.2.2.2.2.2.1 ?_
      refine r_scload gL_law_730.2.2.2.2.2.2.2.2.1 ?_
      refine r_roload_n (x := 0) gL_law_730.2.2.2.2.2.2.2.2.2.1 rfl ?_
      refine r_iload_n (x := l3) gL_law_730.2.2.2.2.2.2.2.2.2.2.1 rfl ?_
      refine r_iconst (v := (2 : Int32)) gL_law_730.2.2.2.2.2.2.2.2.2.2.2.1 rfl ?_
      refine r_iadd gL_law_730.2.2.2.2.2.2.2.2.2.2.2.2.1 ?_
      refine r_scload gL_law_730.2.2.2.2.2.2.2.2.2.2.2.2.2.1 ?_
      refine r_callI (k := 0) (idx := 87) (y := 160) (as := [.ref 0, .int (E.2.1 (l3 + (1 : Int32)).toNatClampNeg), .int (E.2.1 (l3 + (2 : Int32)).toNatClampNeg)]) (rest := []) (L0 := [(0, .ref 0), (1, .int (E.2.1 (l3 + (1 : Int32)).toNatClampNeg)), (2, .int (E.2.1 (l3 + (2 : Int32)).toNatClampNeg))]) gL_law_730.2.2.2.2.2.2.2.2.2.2.2.2.2.2.1 rfl rfl rfl rfl rfl (vok_v (ob_0 hE) rfl) rfl (r_dep (by decide) (e_X11_first hE q (E.2.1 (l3 + (1 : Int32)).toNatClampNeg) (E.2.1 (l3 + (2 : Int32)).toNatClampNeg))) (fun r54 => ?_)
      refine r_pop gL_law_730.2.2.2.2.2.2.2.2.2.2.2.2.2.2.2.1 rfl ?_
      refine r_aload_n (x := 60) gL_law_752.1 rfl ?_
      refine r_roload_n (x := 0) gL_law_752.2.1 rfl ?_
      refine r_iload_n (x := l3) gL_law_752.2.2.1 rfl ?_
      refine r_iconst (v := (1 : Int32)) gL_law_752.2.2.2.1 rfl ?_
      refine r_iadd gL_law_752.2.2.2.2.1 ?_
      refine r_scload gL_law_752.2.2.2.2.2.1 ?_
      refine r_roload_n (x := 0) gL_law_752.2.2.2.2.2.2.1 rfl ?_
      refine r_iload_n (x := l3) gL_law_752.2.2.2.2.2.2.2.1 rfl ?_
      refine r_iconst (v := (2 : Int32)) gL_law_752.2.2.2.2.2.2.2.2.1 rfl ?_
      refine r_iadd gL_law_752.2.2.2.2.2.2.2.2.2.1 ?_
      refine r_scload gL_law_752.2.2.2.2.2.2.2.2.2.2.1 ?_
      refine r_callI (k := 0) (idx := 90) (y := 253) (as := [.ref 60, .int (E.2.1 (l3 + (1 : Int32)).toNatClampNeg), .int (E.2.1 (l3 + (2 : Int32)).toNatClampNeg)]) (rest := []) (L0 := [(0, .ref 60), (1, .int (E.2.1 (l3 + (1 : Int32)).toNatClampNeg)), (2, .int (E.2.1 (l3 + (2 : Int32)).toNatClampNeg))]) gL_law_752.2.2.2.2.2.2.2.2.2.2.2.1 rfl rfl rfl rfl rfl (vok_v (ob_60 hE) rfl) rfl (r_dep (by decide) (e_X12_first hE r54.2 (E.2.1 (l3 + (1 : Int32)).toNatClampNeg) (E.2.1 (l3 + (2 : Int32)).toNatClampNeg))) (fun r55 => ?_)
      refine r_pop gL_law_752.2.2.2.2.2.2.2.2.2.2.2.2.1 rfl ?_
      refine r_goto (t := 1513) gL_law_752.2.2.2.2.2.2.2.2.2.2.2.2.2.1 rfl ?_
      exact r_sub (L' := [(0, .retAddr 0), (1, .ref 0), (2, .ref 60), (3, .int l3)]) (sub_c rfl (sub_c rfl (sub_c rfl (sub_c rfl sub_n)))) (rb_L_law_1513 hE hrec_18 r55.2 l3)
    refine r_sw1 (fun h56 => ?_) (fun h56 => ?_)
    · refine r_jmp (t := 770) dL_law_33 rfl (by rw [h56]; rfl) ?_
      refine r_aload_n (x := 0) gL_law_752.2.2.2.2.2.2.2.2.2.2.2.2.2.2.1 rfl ?_
      refine r_roload_n (x := 0) gL_law_752.2.2.2.2.2.2.2.2.2.2.2.2.2.2.2.1 rfl ?_
      refine r_iload_n (x := l3) gL_law_772.1 rfl ?_
      refine r_iconst (v := (1 : Int32)) gL_law_772.2.1 rfl ?_
      refine r_iadd gL_law_772.2.2.1 ?_
      refine r_scload gL_law_772.2.2.2.1 ?_
      refine r_roload_n (x := 0) gL_law_772.2.2.2.2.1 rfl ?_
      refine r_iload_n (x := l3) gL_law_772.2.2.2.2.2.1 rfl ?_
      refine r_iconst (v := (2 : Int32)) gL_law_772.2.2.2.2.2.2.1 rfl ?_
      refine r_iadd gL_law_772.2.2.2.2.2.2.2.1 ?_
      refine r_scload gL_law_772.2.2.2.2.2.2.2.2.1 ?_
      refine r_roload_n (x := 0) gL_law_772.2.2.2.2.2.2.2.2.2.1 rfl ?_
      refine r_iload_n (x := l3) gL_law_772.2.2.2.2.2.2.2.2.2.2.1 rfl ?_
      refine r_iconst (v := (3 : Int32)) gL_law_772.2.2.2.2.2.2.2.2.2.2.2.1 rfl ?_
      refine r_iadd gL_law_772.2.2.2.2.2.2.2.2.2.2.2.2.1 ?_
      refine r_scload gL_law_772.2.2.2.2.2.2.2.2.2.2.2.2.2.1 ?_
      refine r_callI (k := 0) (idx := 91) (y := 161) (as := [.ref 0, .int (E.2.1 (l3 + (1 : Int32)).toNatClampNeg), .int (E.2.1 (l3 + (2 : Int32)).toNatClampNeg), .int (E.2.1 (l3 + (3 : Int32)).toNatClampNeg)]) (rest := []) (L0 := [(0, .ref 0), (1, .int (E.2.1 (l3 + (1 : Int32)).toNatClampNeg)), (2, .int (E.2.1 (l3 + (2 : Int32)).toNatClampNeg)), (3, .int (E.2.1 (l3 + (3 : Int32)).toNatClampNeg))]) gL_law_772.2.2.2.2.2.2.2.2.2.2.2.2.2.2.1 rfl rfl rfl rfl rfl (vok_v (ob_0 hE) rfl) rfl (r_dep (by decide) (e_X11_hire hE q (E.2.1 (l3 + (1 : Int32)).toNatClampNeg) (E.2.1 (l3 + (2 : Int32)).toNatClampNeg) (E.2.1 (l3 + (3 : Int32)).toNatClampNeg))) (fun r57 => ?_)
      refine r_pop gL_law_772.2.2.2.2.2.2.2.2.2.2.2.2.2.2.2.1 rfl ?_
      refine r_aload_n (x := 60) gL_law_790.1 rfl ?_
      refine r_roload_n (x := 0) gL_law_790.2.1 rfl ?_
      refine r_iload_n (x := l3) gL_law_790.2.2.1 rfl ?_
      refine r_iconst (v := (1 : Int32)) gL_law_790.2.2.2.1 rfl ?_
      refine r_iadd gL_law_790.2.2.2.2.1 ?_
      refine r_scload gL_law_790.2.2.2.2.2.1 ?_
      refine r_roload_n (x := 0) gL_law_790.2.2.2.2.2.2.1 rfl ?_
      refine r_iload_n (x := l3) gL_law_790.2.2.2.2.2.2.2.1 rfl ?_
      refine r_iconst (v := (2 : Int32)) gL_law_790.2.2.2.2.2.2.2.2.1 rfl ?_
      refine r_iadd gL_law_790.2.2.2.2.2.2.2.2.2.1 ?_
      refine r_scload gL_law_790.2.2.2.2.2.2.2.2.2.2.1 ?_
      refine r_roload_n (x := 0) gL_law_790.2.2.2.2.2.2.2.2.2.2.2.1 rfl ?_
      refine r_iload_n (x := l3) gL_law_790.2.2.2.2.2.2.2.2.2.2.2.2.1 rfl ?_
      refine r_iconst (v := (3 : Int32)) gL_law_790.2.2.2.2.2.2.2.2.2.2.2.2.2.1 rfl ?_
      refine r_iadd gL_law_790.2.2.2.2.2.2.2.2.2.2.2.2.2.2.1 ?_
      refine r_scload gL_law_790.2.2.2.2.2.2.2.2.2.2.2.2.2.2.2.1 ?_
      refine r_callI (k := 0) (idx := 94) (y := 254) (as := [.ref 60, .int (E.2.1 (l3 + (1 : Int32)).toNatClampNeg), .int (E.2.1 (l3 + (2 : Int32)).toNatClampNeg), .int (E.2.1 (l3 + (3 : Int32)).toNatClampNeg)]) (rest := []) (L0 := [(0, .ref 60), (1, .int (E.2.1 (l3 + (1 : Int32)).toNatClampNeg)), (2, .int (E.2.1 (l3 + (2 : Int32)).toNatClampNeg)), (3, .int (E.2.1 (l3 + (3 : Int32)).toNatClampNeg))]) gL_law_806.1 rfl rfl rfl rfl rfl (vok_v (ob_60 hE) rfl) rfl (r_dep (by decide) (e_X12_hire hE r57.2 (E.2.1 (l3 + (1 : Int32)).toNatClampNeg) (E.2.1 (l3 + (2 : Int32)).toNatClampNeg) (E.2.1 (l3 + (3 : Int32)).toNatClampNeg))) (fun r58 => ?_)
      refine r_pop gL_law_806.2.1 rfl ?_
      refine r_goto (t := 1513) gL_law_806.2.2.1 rfl ?_
      exact r_sub (L' := [(0, .retAddr 0), (1, .ref 0), (2, .ref 60), (3, .int l3)]) (sub_c rfl (sub_c rfl (sub_c rfl (sub_c rfl sub_n)))) (rb_L_law_1513 hE hrec_18 r58.2 l3)
    refine r_sw1 (fun h59 => ?_) (fun h59 => ?_)
    · refine r_jmp (t := 813) dL_law_33 rfl (by rw [h59]; rfl) ?_
      refine r_aload_n (x := 0) gL_law_806.2.2.2.1 rfl ?_
      refine r_roload_n (x := 0) gL_law_806.2.2.2.2.1 rfl ?_
      refine r_iload_n (x := l3) gL_law_806.2.2.2.2.2.1 rfl ?_
      refine r_iconst (v := (1 : Int32)) gL_law_806.2.2.2.2.2.2.1 rfl ?_
      refine r_iadd gL_law_806.2.2.2.2.2.2.2.1 ?_
      refine r_scload gL_law_806.2.2.2.2.2.2.2.2.1 ?_
      refine r_roload_n (x := 0) gL_law_806.2.2.2.2.2.2.2.2.2.1 rfl ?_
      refine r_iload_n (x := l3) gL_law_806.2.2.2.2.2.2.2.2.2.2.1 rfl ?_
      refine r_iconst (v := (2 : Int32)) gL_law_806.2.2.2.2.2.2.2.2.2.2.2.1 rfl ?_
      refine r_iadd gL_law_806.2.2.2.2.2.2.2.2.2.2.2.2.1 ?_
      refine r_scload gL_law_806.2.2.2.2.2.2.2.2.2.2.2.2.2.1 ?_
      refine r_callI (k := 0) (idx := 95) (y := 163) (as := [.ref 0, .int (E.2.1 (l3 + (1 : Int32)).toNatClampNeg), .int (E.2.1 (l3 + (2 : Int32)).toNatClampNeg)]) (rest := []) (L0 := [(0, .ref 0), (1, .int (E.2.1 (l3 + (1 : Int32)).toNatClampNeg)), (2, .int (E.2.1 (l3 + (2 : Int32)).toNatClampNeg))]) gL_law_806.2.2.2.2.2.2.2.2.2.2.2.2.2.2.1 rfl rfl rfl rfl rfl (vok_v (ob_0 hE) rfl) rfl (r_dep (by decide) (e_X11_friend hE q (E.2.1 (l3 + (1 : Int32)).toNatClampNeg) (E.2.1 (l3 + (2 : Int32)).toNatClampNeg))) (fun r60 => ?_)
      refine r_pop gL_law_806.2.2.2.2.2.2.2.2.2.2.2.2.2.2.2.1 rfl ?_
      refine r_aload_n (x := 60) gL_law_828.1 rfl ?_
      refine r_roload_n (x := 0) gL_law_828.2.1 rfl ?_
      refine r_iload_n (x := l3) gL_law_828.2.2.1 rfl ?_
      refine r_iconst (v := (1 : Int32)) gL_law_828.2.2.2.1 rfl ?_
      refine r_iadd gL_law_828.2.2.2.2.1 ?_
      refine r_scload gL_law_828.2.2.2.2.2.1 ?_
      refine r_roload_n (x := 0) gL_law_828.2.2.2.2.2.2.1 rfl ?_
      refine r_iload_n (x := l3) gL_law_828.2.2.2.2.2.2.2.1 rfl ?_
      refine r_iconst (v := (2 : Int32)) gL_law_828.2.2.2.2.2.2.2.2.1 rfl ?_
      refine r_iadd gL_law_828.2.2.2.2.2.2.2.2.2.1 ?_
      refine r_scload gL_law_828.2.2.2.2.2.2.2.2.2.2.1 ?_
      refine r_callI (k := 0) (idx := 98) (y := 255) (as := [.ref 60, .int (E.2.1 (l3 + (1 : Int32)).toNatClampNeg), .int (E.2.1 (l3 + (2 : Int32)).toNatClampNeg)]) (rest := []) (L0 := [(0, .ref 60), (1, .int (E.2.1 (l3 + (1 : Int32)).toNatClampNeg)), (2, .int (E.2.1 (l3 + (2 : Int32)).toNatClampNeg))]) gL_law_828.2.2.2.2.2.2.2.2.2.2.2.1 rfl rfl rfl rfl rfl (vok_v (ob_60 hE) rfl) rfl (r_dep (by decide) (e_X12_friend hE r60.2 (E.2.1 (l3 + (1 : Int32)).toNatClampNeg) (E.2.1 (l3 + (2 : Int32)).toNatClampNeg))) (fun r61 => ?_)
      refine r_pop gL_law_828.2.2.2.2.2.2.2.2.2.2.2.2.1 rfl ?_
      refine r_goto (t := 1513) gL_law_828.2.2.2.2.2.2.2.2.2.2.2.2.2.1 rfl ?_
      exact r_sub (L' := [(0, .retAddr 0), (1, .ref 0), (2, .ref 60), (3, .int l3)]) (sub_c rfl (sub_c rfl (sub_c rfl (sub_c rfl sub_n)))) (rb_L_law_1513 hE hrec_18 r61.2 l3)
    refine r_sw1 (fun h62 => ?_) (fun h62 => ?_)
    · refine r_jmp (t := 846) dL_law_33 rfl (by rw [h62]; rfl) ?_
      refine r_aload_n (x := 0) gL_law_828.2.2.2.2.2.2.2.2.2.2.2.2.2.2.1 rfl ?_
      refine r_roload_n (x := 0) gL_law_828.2.2.2.2.2.2.2.2.2.2.2.2.2.2.2.1 rfl ?_
      refine r_iload_n (x := l3) gL_law_848.1 rfl ?_
      refine r_iconst (v := (1 : Int32)) gL_law_848.2.1 rfl ?_
      refine r_iadd gL_law_848.2.2.1 ?_
      refine r_scload gL_law_848.2.2.2.1 ?_
      refine r_roload_n (x := 0) gL_law_848.2.2.2.2.1 rfl ?_
      refine r_iload_n (x := l3) gL_law_848.2.2.2.2.2.1 rfl ?_
      refine r_iconst (v := (2 : Int32)) gL_law_848.2.2.2.2.2.2.1 rfl ?_
      refine r_iadd gL_law_848.2.2.2.2.2.2.2.1 ?_
      refine r_scload gL_law_848.2.2.2.2.2.2.2.2.1 ?_
      refine r_callI (k := 0) (idx := 99) (y := 164) (as := [.ref 0, .int (E.2.1 (l3 + (1 : Int32)).toNatClampNeg), .int (E.2.1 (l3 + (2 : Int32)).toNatClampNeg)]) (rest := []) (L0 := [(0, .ref 0), (1, .int (E.2.1 (l3 + (1 : Int32)).toNatClampNeg)), (2, .int (E.2.1 (l3 + (2 : Int32)).toNatClampNeg))]) gL_law_848.2.2.2.2.2.2.2.2.2.1 rfl rfl rfl rfl rfl (vok_v (ob_0 hE) rfl) rfl (r_dep (by decide) (e_X11_share hE q (E.2.1 (l3 + (1 : Int32)).toNatClampNeg) (E.2.1 (l3 + (2 : Int32)).toNatClampNeg))) (fun r63 => ?_)
      refine r_pop gL_law_848.2.2.2.2.2.2.2.2.2.2.1 rfl ?_
      refine r_aload_n (x := 60) gL_law_848.2.2.2.2.2.2.2.2.2.2.2.1 rfl ?_
      refine r_roload_n (x := 0) gL_law_848.2.2.2.2.2.2.2.2.2.2.2.2.1 rfl ?_
      refine r_iload_n (x := l3) gL_law_848.2.2.2.2.2.2.2.2.2.2.2.2.2.1 rfl ?_
      refine r_iconst (v := (1 : Int32)) gL_law_848.2.2.2.2.2.2.2.2.2.2.2.2.2.2.1 rfl ?_
      refine r_iadd gL_law_848.2.2.2.2.2.2.2.2.2.2.2.2.2.2.2.1 ?_
      refine r_scload gL_law_866.1 ?_
      refine r_roload_n (x := 0) gL_law_866.2.1 rfl ?_
      refine r_iload_n (x := l3) gL_law_866.2.2.1 rfl ?_
      refine r_iconst (v := (2 : Int32)) gL_law_866.2.2.2.1 rfl ?_
      refine r_iadd gL_law_866.2.2.2.2.1 ?_
      refine r_scload gL_law_866.2.2.2.2.2.1 ?_
      refine r_callI (k := 0) (idx := 102) (y := 256) (as := [.ref 60, .int (E.2.1 (l3 + (1 : Int32)).toNatClampNeg), .int (E.2.1 (l3 + (2 : Int32)).toNatClampNeg)]) (rest := []) (L0 := [(0, .ref 60), (1, .int (E.2.1 (l3 + (1 : Int32)).toNatClampNeg)), (2, .int (E.2.1 (l3 + (2 : Int32)).toNatClampNeg))]) gL_law_866.2.2.2.2.2.2.1 rfl rfl rfl rfl rfl (vok_v (ob_60 hE) rfl) rfl (r_dep (by decide) (e_X12_share hE r63.2 (E.2.1 (l3 + (1 : Int32)).toNatClampNeg) (E.2.1 (l3 + (2 : Int32)).toNatClampNeg))) (fun r64 => ?_)
      refine r_pop gL_law_866.2.2.2.2.2.2.2.1 rfl ?_
      refine r_goto (t := 1513) gL_law_866.2.2.2.2.2.2.2.2.1 rfl ?_
      exact r_sub (L' := [(0, .retAddr 0), (1, .ref 0), (2, .ref 60), (3, .int l3)]) (sub_c rfl (sub_c rfl (sub_c rfl (sub_c rfl sub_n)))) (rb_L_law_1513 hE hrec_18 r64.2 l3)
    refine r_sw1 (fun h65 => ?_) (fun h65 => ?_)
    · refine r_jmp (t := 879) dL_law_33 rfl (by rw [h65]; rfl) ?_
      refine r_aload_n (x := 0) gL_law_866.2.2.2.2.2.2.2.2.2.1 rfl ?_
      refine r_callI (k := 0) (idx := 103) (y := 165) (as := [.ref 0]) (rest := []) (L0 := [(0, .ref 0)]) gL_law_866.2.2.2.2.2.2.2.2.2.2.1 rfl rfl rfl rfl rfl (vok_v (ob_0 hE) rfl) rfl (r_dep (by decide) (e_X11_half hE q)) (fun r66 => ?_)
      refine r_pop gL_law_866.2.2.2.2.2.2.2.2.2.2.2.1 rfl ?_
      refine r_aload_n (x := 60) gL_law_866.2.2.2.2.2.2.2.2.2.2.2.2.1 rfl ?_
      refine r_callI (k := 0) (idx := 106) (y := 257) (as := [.ref 60]) (rest := []) (L0 := [(0, .ref 60)]) gL_law_866.2.2.2.2.2.2.2.2.2.2.2.2.2.1 rfl rfl rfl rfl rfl (vok_v (ob_60 hE) rfl) rfl (r_dep (by decide) (e_X12_half hE r66.2)) (fun r67 => ?_)
      refine r_pop gL_law_866.2.2.2.2.2.2.2.2.2.2.2.2.2.2.1 rfl ?_
      refine r_goto (t := 1513) gL_law_866.2.2.2.2.2.2.2.2.2.2.2.2.2.2.2.1 rfl ?_
      exact r_sub (L' := [(0, .retAddr 0), (1, .ref 0), (2, .ref 60), (3, .int l3)]) (sub_c rfl (sub_c rfl (sub_c rfl (sub_c rfl sub_n)))) (rb_L_law_1513 hE hrec_18 r67.2 l3)
    refine r_sw1 (fun h68 => ?_) (fun h68 => ?_)
    · refine r_jmp (t := 892) dL_law_33 rfl (by rw [h68]; rfl) ?_
      refine r_aload_n (x := 0) gL_law_892.1 rfl ?_
      refine r_roload_n (x := 0) gL_law_892.2.1 rfl ?_
      refine r_iload_n (x := l3) gL_law_892.2.2.1 rfl ?_
      refine r_iconst (v := (1 : Int32)) gL_law_892.2.2.2.1 rfl ?_
      refine r_iadd gL_law_892.2.2.2.2.1 ?_
      refine r_scload gL_law_892.2.2.2.2.2.1 ?_
      refine r_roload_n (x := 0) gL_law_892.2.2.2.2.2.2.1 rfl ?_
      refine r_iload_n (x := l3) gL_law_892.2.2.2.2.2.2.2.1 rfl ?_
      refine r_iconst (v := (2 : Int32)) gL_law_892.2.2.2.2.2.2.2.2.1 rfl ?_
      refine r_iadd gL_law_892.2.2.2.2.2.2.2.2.2.1 ?_
      refine r_scload gL_law_892.2.2.2.2.2.2.2.2.2.2.1 ?_
      refine r_roload_n (x := 0) gL_law_892.2.2.2.2.2.2.2.2.2.2.2.1 rfl ?_
      refine r_iload_n (x := l3) gL_law_892.2.2.2.2.2.2.2.2.2.2.2.2.1 rfl ?_
      refine r_iconst (v := (3 : Int32)) gL_law_892.2.2.2.2.2.2.2.2.2.2.2.2.2.1 rfl ?_
      refine r_iadd gL_law_892.2.2.2.2.2.2.2.2.2.2.2.2.2.2.1 ?_
      refine r_scload gL_law_892.2.2.2.2.2.2.2.2.2.2.2.2.2.2.2.1 ?_
      refine r_callI (k := 0) (idx := 107) (y := 167) (as := [.ref 0, .int (E.2.1 (l3 + (1 : Int32)).toNatClampNeg), .int (E.2.1 (l3 + (2 : Int32)).toNatClampNeg), .int (E.2.1 (l3 + (3 : Int32)).toNatClampNeg)]) (rest := []) (L0 := [(0, .ref 0), (1, .int (E.2.1 (l3 + (1 : Int32)).toNatClampNeg)), (2, .int (E.2.1 (l3 + (2 : Int32)).toNatClampNeg)), (3, .int (E.2.1 (l3 + (3 : Int32)).toNatClampNeg))]) gL_law_908.1 rfl rfl rfl rfl rfl (vok_v (ob_0 hE) rfl) rfl (r_dep (by decide) (e_X11_behind hE q (E.2.1 (l3 + (1 : Int32)).toNatClampNeg) (E.2.1 (l3 + (2 : Int32)).toNatClampNeg) (E.2.1 (l3 + (3 : Int32)).toNatClampNeg))) (fun r69 => ?_)
      refine r_pop gL_law_908.2.1 rfl ?_
      refine r_aload_n (x := 60) gL_law_908.2.2.1 rfl ?_
      refine r_roload_n (x := 0) gL_law_908.2.2.2.1 rfl ?_
      refine r_iload_n (x := l3) gL_law_908.2.2.2.2.1 rfl ?_
      refine r_iconst (v := (1 : Int32)) gL_law_908.2.2.2.2.2.1 rfl ?_
      refine r_iadd gL_law_908.2.2.2.2.2.2.1 ?_
      refine r_scload gL_law_908.2.2.2.2.2.2.2.1 ?_
      refine r_roload_n (x := 0) gL_law_908.2.2.2.2.2.2.2.2.1 rfl ?_
      refine r_iload_n (x := l3) gL_law_908.2.2.2.2.2.2.2.2.2.1 rfl ?_
      refine r_iconst (v := (2 : Int32)) gL_law_908.2.2.2.2.2.2.2.2.2.2.1 rfl ?_
      refine r_iadd gL_law_908.2.2.2.2.2.2.2.2.2.2.2.1 ?_
      refine r_scload gL_law_908.2.2.2.2.2.2.2.2.2.2.2.2.1 ?_
      refine r_roload_n (x := 0) gL_law_908.2.2.2.2.2.2.2.2.2.2.2.2.2.1 rfl ?_
      refine r_iload_n (x := l3) gL_law_908.2.2.2.2.2.2.2.2.2.2.2.2.2.2.1 rfl ?_
      refine r_iconst (v := (3 : Int32)) gL_law_908.2.2.2.2.2.2.2.2.2.2.2.2.2.2.2.1 rfl ?_
      refine r_iadd gL_law_926.1 ?_
      refine r_scload gL_law_926.2.1 ?_
      refine r_callI (k := 0) (idx := 110) (y := 261) (as := [.ref 60, .int (E.2.1 (l3 + (1 : Int32)).toNatClampNeg), .int (E.2.1 (l3 + (2 : Int32)).toNatClampNeg), .int (E.2.1 (l3 + (3 : Int32)).toNatClampNeg)]) (rest := []) (L0 := [(0, .ref 60), (1, .int (E.2.1 (l3 + (1 : Int32)).toNatClampNeg)), (2, .int (E.2.1 (l3 + (2 : Int32)).toNatClampNeg)), (3, .int (E.2.1 (l3 + (3 : Int32)).toNatClampNeg))]) gL_law_926.2.2.1 rfl rfl rfl rfl rfl (vok_v (ob_60 hE) rfl) rfl (r_dep (by decide) (e_X12_behind hE r69.2 (E.2.1 (l3 + (1 : Int32)).toNatClampNeg) (E.2.1 (l3 + (2 : Int32)).toNatClampNeg) (E.2.1 (l3 + (3 : Int32)).toNatClampNeg))) (fun r70 => ?_)
      refine r_pop gL_law_926.2.2.2.1 rfl ?_
      refine r_goto (t := 1513) gL_law_926.2.2.2.2.1 rfl ?_
      exact r_sub (L' := [(0, .retAddr 0), (1, .ref 0), (2, .ref 60), (3, .int l3)]) (sub_c rfl (sub_c rfl (sub_c rfl (sub_c rfl sub_n)))) (rb_L_law_1513 hE hrec_18 r70.2 l3)
    refine r_sw1 (fun h71 => ?_) (fun h71 => ?_)
    · refine r_jmp (t := 935) dL_law_33 rfl (by rw [h71]; rfl) ?_
      refine r_aload_n (x := 0) gL_law_926.2.2.2.2.2.1 rfl ?_
      refine r_roload_n (x := 0) gL_law_926.2.2.2.2.2.2.1 rfl ?_
      refine r_iload_n (x := l3) gL_law_926.2.2.2.2.2.2.2.1 rfl ?_
      refine r_iconst (v := (1 : Int32)) gL_law_926.2.2.2.2.2.2.2.2.1 rfl ?_
      refine r_iadd gL_law_926.2.2.2.2.2.2.2.2.2.1 ?_
      refine r_scload gL_law_926.2.2.2.2.2.2.2.2.2.2.1 ?_
      refine r_roload_n (x := 0) gL_law_926.2.2.2.2.2.2.2.2.2.2.2.1 rfl ?_
      refine r_iload_n (x := l3) gL_law_926.2.2.2.2.2.2.2.2.2.2.2.2.1 rfl ?_
      refine r_iconst (v := (2 : Int32)) gL_law_926.2.2.2.2.2.2.2.2.2.2.2.2.2.1 rfl ?_
      refine r_iadd gL_law_926.2.2.2.2.2.2.2.2.2.2.2.2.2.2.1 ?_
      refine r_scload gL_law_926.2.2.2.2.2.2.2.2.2.2.2.2.2.2.2.1 ?_
      refine r_roload_n (x := 0) gL_law_946.1 rfl ?_
      refine r_iload_n (x := l3) gL_law_946.2.1 rfl ?_
      refine r_iconst (v := (3 : Int32)) gL_law_946.2.2.1 rfl ?_
      refine r_iadd gL_law_946.2.2.2.1 ?_
      refine r_scload gL_law_946.2.2.2.2.1 ?_
      refine r_callI (k := 0) (idx := 111) (y := 168) (as := [.ref 0, .int (E.2.1 (l3 + (1 : Int32)).toNatClampNeg), .int (E.2.1 (l3 + (2 : Int32)).toNatClampNeg), .int (E.2.1 (l3 + (3 : Int32)).toNatClampNeg)]) (rest := []) (L0 := [(0, .ref 0), (1, .int (E.2.1 (l3 + (1 : Int32)).toNatClampNeg)), (2, .int (E.2.1 (l3 + (2 : Int32)).toNatClampNeg)), (3, .int (E.2.1 (l3 + (3 : Int32)).toNatClampNeg))]) gL_law_946.2.2.2.2.2.1 rfl rfl rfl rfl rfl (vok_v (ob_0 hE) rfl) rfl (r_dep (by decide) (e_X11_drawn hE q (E.2.1 (l3 + (1 : Int32)).toNatClampNeg) (E.2.1 (l3 + (2 : Int32)).toNatClampNeg) (E.2.1 (l3 + (3 : Int32)).toNatClampNeg))) (fun r72 => ?_)
      refine r_pop gL_law_946.2.2.2.2.2.2.1 rfl ?_
      refine r_aload_n (x := 60) gL_law_946.2.2.2.2.2.2.2.1 rfl ?_
      refine r_roload_n (x := 0) gL_law_946.2.2.2.2.2.2.2.2.1 rfl ?_
      refine r_iload_n (x := l3) gL_law_946.2.2.2.2.2.2.2.2.2.1 rfl ?_
      refine r_iconst (v := (1 : Int32)) gL_law_946.2.2.2.2.2.2.2.2.2.2.1 rfl ?_
      refine r_iadd gL_law_946.2.2.2.2.2.2.2.2.2.2.2.1 ?_
      refine r_scload gL_law_946.2.2.2.2.2.2.2.2.2.2.2.2.1 ?_
      refine r_roload_n (x := 0) gL_law_946.2.2.2.2.2.2.2.2.2.2.2.2.2.1 rfl ?_
      refine r_iload_n (x := l3) gL_law_946.2.2.2.2.2.2.2.2.2.2.2.2.2.2.1 rfl ?_
      refine r_iconst (v := (2 : Int32)) gL_law_946.2.2.2.2.2.2.2.2.2.2.2.2.2.2.2.1 rfl ?_
      refine r_iadd gL_law_964.1 ?_
      refine r_scload gL_law_964.2.1 ?_
      refine r_roload_n (x := 0) gL_law_964.2.2.1 rfl ?_
      refine r_iload_n (x := l3) gL_law_964.2.2.2.1 rfl ?_
      refine r_iconst (v := (3 : Int32)) gL_law_964.2.2.2.2.1 rfl ?_
      refine r_iadd gL_law_964.2.2.2.2.2.1 ?_
      refine r_scload gL_law_964.2.2.2.2.2.2.1 ?_
      refine r_callI (k := 0) (idx := 114) (y := 263) (as := [.ref 60, .int (E.2.1 (l3 + (1 : Int32)).toNatClampNeg), .int (E.2.1 (l3 + (2 : Int32)).toNatClampNeg), .int (E.2.1 (l3 + (3 : Int32)).toNatClampNeg)]) (rest := []) (L0 := [(0, .ref 60), (1, .int (E.2.1 (l3 + (1 : Int32)).toNatClampNeg)), (2, .int (E.2.1 (l3 + (2 : Int32)).toNatClampNeg)), (3, .int (E.2.1 (l3 + (3 : Int32)).toNatClampNeg))]) gL_law_964.2.2.2.2.2.2.2.1 rfl rfl rfl rfl rfl (vok_v (ob_60 hE) rfl) rfl (r_dep (by decide) (e_X12_drawn hE r72.2 (E.2.1 (l3 + (1 : Int32)).toNatClampNeg) (E.2.1 (l3 + (2 : Int32)).toNatClampNeg) (E.2.1 (l3 + (3 : Int32)).toNatClampNeg))) (fun r73 => ?_)
      refine r_pop gL_law_964.2.2.2.2.2.2.2.2.1 rfl ?_
      refine r_goto (t := 1513) gL_law_964.2.2.2.2.2.2.2.2.2.1 rfl ?_
      exact r_sub (L' := [(0, .retAddr 0), (1, .ref 0), (2, .ref 60), (3, .int l3)]) (sub_c rfl (sub_c rfl (sub_c rfl (sub_c rfl sub_n)))) (rb_L_law_1513 hE hrec_18 r73.2 l3)
    refine r_sw1 (fun h74 => ?_) (fun h74 => ?_)
    · refine r_jmp (t := 978) dL_law_33 rfl (by rw [h74]; rfl) ?_
      refine r_aload_n (x := 0) gL_law_964.2.2.2.2.2.2.2.2.2.2.1 rfl ?_
      refine r_roload_n (x := 0) gL_law_964.2.2.2.2.2.2.2.2.2.2.2.1 rfl ?_
      refine r_iload_n (x := l3) gL_law_964.2.2.2.2.2.2.2.2.2.2.2.2.1 rfl ?_
      refine r_iconst (v := (1 : Int32)) gL_law_964.2.2.2.2.2.2.2.2.2.2.2.2.2.1 rfl ?_
      refine r_iadd gL_law_964.2.2.2.2.2.2.2.2.2.2.2.2.2.2.1 ?_
      refine r_scload gL_law_964.2.2.2.2.2.2.2.2.2.2.2.2.2.2.2.1 ?_
      refine r_roload_n (x := 0) gL_law_984.1 rfl ?_
      refine r_iload_n (x := l3) gL_law_984.2.1 rfl ?_
      refine r_iconst (v := (2 : Int32)) gL_law_984.2.2.1 rfl ?_
      refine r_iadd gL_law_984.2.2.2.1 ?_
      refine r_scload gL_law_984.2.2.2.2.1 ?_
      refine r_callI (k := 0) (idx := 115) (y := 170) (as := [.ref 0, .int (E.2.1 (l3 + (1 : Int32)).toNatClampNeg), .int (E.2.1 (l3 + (2 : Int32)).toNatClampNeg)]) (rest := []) (L0 := [(0, .ref 0), (1, .int (E.2.1 (l3 + (1 : Int32)).toNatClampNeg)), (2, .int (E.2.1 (l3 + (2 : Int32)).toNatClampNeg))]) gL_law_984.2.2.2.2.2.1 rfl rfl rfl rfl rfl (vok_v (ob_0 hE) rfl) rfl (r_dep (by decide) (e_X11_slip hE q (E.2.1 (l3 + (1 : Int32)).toNatClampNeg) (E.2.1 (l3 + (2 : Int32)).toNatClampNeg))) (fun r75 => ?_)
      refine r_pop gL_law_984.2.2.2.2.2.2.1 rfl ?_
      refine r_aload_n (x := 60) gL_law_984.2.2.2.2.2.2.2.1 rfl ?_
      refine r_roload_n (x := 0) gL_law_984.2.2.2.2.2.2.2.2.1 rfl ?_
      refine r_iload_n (x := l3) gL_law_984.2.2.2.2.2.2.2.2.2.1 rfl ?_
      refine r_iconst (v := (1 : Int32)) gL_law_984.2.2.2.2.2.2.2.2.2.2.1 rfl ?_
      refine r_iadd gL_law_984.2.2.2.2.2.2.2.2.2.2.2.1 ?_
      refine r_scload gL_law_984.2.2.2.2.2.2.2.2.2.2.2.2.1 ?_
      refine r_roload_n (x := 0) gL_law_984.2.2.2.2.2.2.2.2.2.2.2.2.2.1 rfl ?_
      refine r_iload_n (x := l3) gL_law_984.2.2.2.2.2.2.2.2.2.2.2.2.2.2.1 rfl ?_
      refine r_iconst (v := (2 : Int32)) gL_law_984.2.2.2.2.2.2.2.2.2.2.2.2.2.2.2.1 rfl ?_
      refine r_iadd gL_law_1002.1 ?_
      refine r_scload gL_law_1002.2.1 ?_
      refine r_callI (k := 0) (idx := 118) (y := 264) (as := [.ref 60, .int (E.2.1 (l3 + (1 : Int32)).toNatClampNeg), .int (E.2.1 (l3 + (2 : Int32)).toNatClampNeg)]) (rest := []) (L0 := [(0, .ref 60), (1, .int (E.2.1 (l3 + (1 : Int32)).toNatClampNeg)), (2, .int (E.2.1 (l3 + (2 : Int32)).toNatClampNeg))]) gL_law_1002.2.2.1 rfl rfl rfl rfl rfl (vok_v (ob_60 hE) rfl) rfl (r_dep (by decide) (e_X12_slip hE r75.2 (E.2.1 (l3 + (1 : Int32)).toNatClampNeg) (E.2.1 (l3 + (2 : Int32)).toNatClampNeg))) (fun r76 => ?_)
      refine r_pop gL_law_1002.2.2.2.1 rfl ?_
      refine r_goto (t := 1513) gL_law_1002.2.2.2.2.1 rfl ?_
      exact r_sub (L' := [(0, .retAddr 0), (1, .ref 0), (2, .ref 60), (3, .int l3)]) (sub_c rfl (sub_c rfl (sub_c rfl (sub_c rfl sub_n)))) (rb_L_law_1513 hE hrec_18 r76.2 l3)
    refine r_sw1 (fun h77 => ?_) (fun h77 => ?_)
    · refine r_jmp (t := 1011) dL_law_33 rfl (by rw [h77]; rfl) ?_
      refine r_aload_n (x := 0) gL_law_1002.2.2.2.2.2.1 rfl ?_
      refine r_roload_n (x := 0) gL_law_1002.2.2.2.2.2.2.1 rfl ?_
      refine r_iload_n (x := l3) gL_law_1002.2.2.2.2.2.2.2.1 rfl ?_
      refine r_iconst (v := (1 : Int32)) gL_law_1002.2.2.2.2.2.2.2.2.1 rfl ?_
      refine r_iadd gL_law_1002.2.2.2.2.2.2.2.2.2.1 ?_
      refine r_scload gL_law_1002.2.2.2.2.2.2.2.2.2.2.1 ?_
      refine r_callI (k := 0) (idx := 119) (y := 171) (as := [.ref 0, .int (E.2.1 (l3 + (1 : Int32)).toNatClampNeg)]) (rest := []) (L0 := [(0, .ref 0), (1, .int (E.2.1 (l3 + (1 : Int32)).toNatClampNeg))]) gL_law_1002.2.2.2.2.2.2.2.2.2.2.2.1 rfl rfl rfl rfl rfl (vok_v (ob_0 hE) rfl) rfl (r_dep (by decide) (e_X11_fold hE q (E.2.1 (l3 + (1 : Int32)).toNatClampNeg))) (fun r78 => ?_)
      refine r_pop gL_law_1002.2.2.2.2.2.2.2.2.2.2.2.2.1 rfl ?_
      refine r_aload_n (x := 60) gL_law_1002.2.2.2.2.2.2.2.2.2.2.2.2.2.1 rfl ?_
      refine r_roload_n (x := 0) gL_law_1002.2.2.2.2.2.2.2.2.2.2.2.2.2.2.1 rfl ?_
      refine r_iload_n (x := l3) gL_law_1002.2.2.2.2.2.2.2.2.2.2.2.2.2.2.2.1 rfl ?_
      refine r_iconst (v := (1 : Int32)) gL_law_1024.1 rfl ?_
      refine r_iadd gL_law_1024.2.1 ?_
      refine r_scload gL_law_1024.2.2.1 ?_
      refine r_callI (k := 0) (idx := 122) (y := 265) (as := [.ref 60, .int (E.2.1 (l3 + (1 : Int32)).toNatClampNeg)]) (rest := []) (L0 := [(0, .ref 60), (1, .int (E.2.1 (l3 + (1 : Int32)).toNatClampNeg))]) gL_law_1024.2.2.2.1 rfl rfl rfl rfl rfl (vok_v (ob_60 hE) rfl) rfl (r_dep (by decide) (e_X12_fold hE r78.2 (E.2.1 (l3 + (1 : Int32)).toNatClampNeg))) (fun r79 => ?_)
      refine r_pop gL_law_1024.2.2.2.2.1 rfl ?_
      refine r_goto (t := 1513) gL_law_1024.2.2.2.2.2.1 rfl ?_
      exact r_sub (L' := [(0, .retAddr 0), (1, .ref 0), (2, .ref 60), (3, .int l3)]) (sub_c rfl (sub_c rfl (sub_c rfl (sub_c rfl sub_n)))) (rb_L_law_1513 hE hrec_18 r79.2 l3)
    refine r_sw1 (fun h80 => ?_) (fun h80 => ?_)
    · refine r_jmp (t := 1034) dL_law_33 rfl (by rw [h80]; rfl) ?_
      refine r_aload_n (x := 0) gL_law_1024.2.2.2.2.2.2.1 rfl ?_
      refine r_callI (k := 0) (idx := 123) (y := 172) (as := [.ref 0]) (rest := []) (L0 := [(0, .ref 0)]) gL_law_1024.2.2.2.2.2.2.2.1 rfl rfl rfl rfl rfl (vok_v (ob_0 hE) rfl) rfl (r_dep (by decide) (e_X11_hour hE q)) (fun r81 => ?_)
      refine r_pop gL_law_1024.2.2.2.2.2.2.2.2.1 rfl ?_
      refine r_aload_n (x := 60) gL_law_1024.2.2.2.2.2.2.2.2.2.1 rfl ?_
      refine r_callI (k := 0) (idx := 126) (y := 266) (as := [.ref 60]) (rest := []) (L0 := [(0, .ref 60)]) gL_law_1024.2.2.2.2.2.2.2.2.2.2.1 rfl rfl rfl rfl rfl (vok_v (ob_60 hE) rfl) rfl (r_dep (by decide) (e_X12_hour hE r81.2)) (fun r82 => ?_)
      refine r_pop gL_law_1024.2.2.2.2.2.2.2.2.2.2.2.1 rfl ?_
      refine r_goto (t := 1513) gL_law_1024.2.2.2.2.2.2.2.2.2.2.2.2.1 rfl ?_
      exact r_sub (L' := [(0, .retAddr 0), (1, .ref 0), (2, .ref 60), (3, .int l3)]) (sub_c rfl (sub_c rfl (sub_c rfl (sub_c rfl sub_n)))) (rb_L_law_1513 hE hrec_18 r82.2 l3)
    refine r_sw1 (fun h83 => ?_) (fun h83 => ?_)
    · refine r_jmp (t := 1047) dL_law_33 rfl (by rw [h83]; rfl) ?_
      refine r_aload_n (x := 0) gL_law_1024.2.2.2.2.2.2.2.2.2.2.2.2.2.1 rfl ?_
      refine r_roload_n (x := 0) gL_law_1024.2.2.2.2.2.2.2.2.2.2.2.2.2.2.1 rfl ?_
      refine r_iload_n (x := l3) gL_law_1024.2.2.2.2.2.2.2.2.2.2.2.2.2.2.2.1 rfl ?_
      refine r_iconst (v := (1 : Int32)) gL_law_1050.1 rfl ?_
      refine r_iadd gL_law_1050.2.1 ?_
      refine r_scload gL_law_1050.2.2.1 ?_
      refine r_calli (k := 0) (idx := 127) (y := 173) (as := [.ref 0, .int (E.2.1 (l3 + (1 : Int32)).toNatClampNeg)]) (rest := []) (L0 := [(0, .ref 0), (1, .int (E.2.1 (l3 + (1 : Int32)).toNatClampNeg))]) gL_law_1050.2.2.2.1 rfl rfl rfl rfl rfl (vok_v (ob_0 hE) rfl) rfl (r_dep (by decide) (e_X11_led hE q (E.2.1 (l3 + (1 : Int32)).toNatClampNeg))) (fun r84 => ?_)
      refine r_pop gL_law_1050.2.2.2.2.1 rfl ?_
      refine r_aload_n (x := 60) gL_law_1050.2.2.2.2.2.1 rfl ?_
      refine r_roload_n (x := 0) gL_law_1050.2.2.2.2.2.2.1 rfl ?_
      refine r_iload_n (x := l3) gL_law_1050.2.2.2.2.2.2.2.1 rfl ?_
      refine r_iconst (v := (1 : Int32)) gL_law_1050.2.2.2.2.2.2.2.2.1 rfl ?_
      refine r_iadd gL_law_1050.2.2.2.2.2.2.2.2.2.1 ?_
      refine r_scload gL_law_1050.2.2.2.2.2.2.2.2.2.2.1 ?_
      refine r_calli (k := 0) (idx := 130) (y := 267) (as := [.ref 60, .int (E.2.1 (l3 + (1 : Int32)).toNatClampNeg)]) (rest := []) (L0 := [(0, .ref 60), (1, .int (E.2.1 (l3 + (1 : Int32)).toNatClampNeg))]) gL_law_1050.2.2.2.2.2.2.2.2.2.2.2.1 rfl rfl rfl rfl rfl (vok_v (ob_60 hE) rfl) rfl (r_dep (by decide) (e_X12_led hE q (E.2.1 (l3 + (1 : Int32)).toNatClampNeg))) (fun r85 => ?_)
      refine r_pop gL_law_1050.2.2.2.2.2.2.2.2.2.2.2.2.1 rfl ?_
      refine r_goto (t := 1513) gL_law_1050.2.2.2.2.2.2.2.2.2.2.2.2.2.1 rfl ?_
      exact r_sub (L' := [(0, .retAddr 0), (1, .ref 0), (2, .ref 60), (3, .int l3)]) (sub_c rfl (sub_c rfl (sub_c rfl (sub_c rfl sub_n)))) (rb_L_law_1513 hE hrec_18 q l3)
    refine r_sw1 (fun h86 => ?_) (fun h86 => ?_)
    · refine r_jmp (t := 1070) dL_law_33 rfl (by rw [h86]; rfl) ?_
      refine r_aload_n (x := 0) gL_law_1050.2.2.2.2.2.2.2.2.2.2.2.2.2.2.1 rfl ?_
      refine r_callI (k := 0) (idx := 131) (y := 174) (as := [.ref 0]) (rest := []) (L0 := [(0, .ref 0)]) gL_law_1050.2.2.2.2.2.2.2.2.2.2.2.2.2.2.2.1 rfl rfl rfl rfl rfl (vok_v (ob_0 hE) rfl) rfl (r_dep (by decide) (e_X11_image hE q)) (fun r87 => ?_)
      refine r_pop gL_law_1074.1 rfl ?_
      refine r_aload_n (x := 60) gL_law_1074.2.1 rfl ?_
      refine r_callI (k := 0) (idx := 134) (y := 268) (as := [.ref 60]) (rest := []) (L0 := [(0, .ref 60)]) gL_law_1074.2.2.1 rfl rfl rfl rfl rfl (vok_v (ob_60 hE) rfl) rfl (r_dep (by decide) (e_X12_image hE r87.2)) (fun r88 => ?_)
      refine r_pop gL_law_1074.2.2.2.1 rfl ?_
      refine r_goto (t := 1513) gL_law_1074.2.2.2.2.1 rfl ?_
      exact r_sub (L' := [(0, .retAddr 0), (1, .ref 0), (2, .ref 60), (3, .int l3)]) (sub_c rfl (sub_c rfl (sub_c rfl (sub_c rfl sub_n)))) (rb_L_law_1513 hE hrec_18 r88.2 l3)
    refine r_sw1 (fun h89 => ?_) (fun h89 => ?_)
    · refine r_jmp (t := 1083) dL_law_33 rfl (by rw [h89]; rfl) ?_
      refine r_aload_n (x := 0) gL_law_1074.2.2.2.2.2.1 rfl ?_
      refine r_callI (k := 0) (idx := 135) (y := 175) (as := [.ref 0]) (rest := []) (L0 := [(0, .ref 0)]) gL_law_1074.2.2.2.2.2.2.1 rfl rfl rfl rfl rfl (vok_v (ob_0 hE) rfl) rfl (r_dep (by decide) (e_X11_back hE q)) (fun r90 => ?_)
      refine r_pop gL_law_1074.2.2.2.2.2.2.2.1 rfl ?_
      refine r_aload_n (x := 60) gL_law_1074.2.2.2.2.2.2.2.2.1 rfl ?_
      refine r_callI (k := 0) (idx := 138) (y := 269) (as := [.ref 60]) (rest := []) (L0 := [(0, .ref 60)]) gL_law_1074.2.2.2.2.2.2.2.2.2.1 rfl rfl rfl rfl rfl (vok_v (ob_60 hE) rfl) rfl (r_dep (by decide) (e_X12_back hE r90.2)) (fun r91 => ?_)
      refine r_pop gL_law_1074.2.2.2.2.2.2.2.2.2.2.1 rfl ?_
      refine r_goto (t := 1513) gL_law_1074.2.2.2.2.2.2.2.2.2.2.2.1 rfl ?_
      exact r_sub (L' := [(0, .retAddr 0), (1, .ref 0), (2, .ref 60), (3, .int l3)]) (sub_c rfl (sub_c rfl (sub_c rfl (sub_c rfl sub_n)))) (rb_L_law_1513 hE hrec_18 r91.2 l3)
    refine r_sw1 (fun h92 => ?_) (fun h92 => ?_)
    · refine r_jmp (t := 1096) dL_law_33 rfl (by rw [h92]; rfl) ?_
      refine r_aload_n (x := 0) gL_law_1074.2.2.2.2.2.2.2.2.2.2.2.2.1 rfl ?_
      refine r_callI (k := 0) (idx := 139) (y := 176) (as := [.ref 0]) (rest := []) (L0 := [(0, .ref 0)]) gL_law_1074.2.2.2.2.2.2.2.2.2.2.2.2.2.1 rfl rfl rfl rfl rfl (vok_v (ob_0 hE) rfl) rfl (r_dep (by decide) (e_X11_undo hE q)) (fun r93 => ?_)
      refine r_pop gL_law_1074.2.2.2.2.2.2.2.2.2.2.2.2.2.2.1 rfl ?_
      refine r_aload_n (x := 60) gL_law_1074.2.2.2.2.2.2.2.2.2.2.2.2.2.2.2.1 rfl ?_
      refine r_callI (k := 0) (idx := 142) (y := 201) (as := [.ref 60]) (rest := []) (L0 := [(0, .ref 60)]) gL_law_1102.1 rfl rfl rfl rfl rfl (vok_v (ob_60 hE) rfl) rfl (r_dep (by decide) (e_X12_undo hE r93.2)) (fun r94 => ?_)
      refine r_pop gL_law_1102.2.1 rfl ?_
      refine r_goto (t := 1513) gL_law_1102.2.2.1 rfl ?_
      exact r_sub (L' := [(0, .retAddr 0), (1, .ref 0), (2, .ref 60), (3, .int l3)]) (sub_c rfl (sub_c rfl (sub_c rfl (sub_c rfl sub_n)))) (rb_L_law_1513 hE hrec_18 r94.2 l3)
    refine r_sw1 (fun h95 => ?_) (fun h95 => ?_)
    · refine r_jmp (t := 1109) dL_law_33 rfl (by rw [h95]; rfl) ?_
      refine r_aload_n (x := 0) gL_law_1102.2.2.2.1 rfl ?_
      refine r_callI (k := 0) (idx := 143) (y := 177) (as := [.ref 0]) (rest := []) (L0 := [(0, .ref 0)]) gL_law_1102.2.2.2.2.1 rfl rfl rfl rfl rfl (vok_v (ob_0 hE) rfl) rfl (r_dep (by decide) (e_X11_redo hE q)) (fun r96 => ?_)
      refine r_pop gL_law_1102.2.2.2.2.2.1 rfl ?_
      refine r_aload_n (x := 60) gL_law_1102.2.2.2.2.2.2.1 rfl ?_
      refine r_callI (k := 0) (idx := 146) (y := 202) (as := [.ref 60]) (rest := []) (L0 := [(0, .ref 60)]) gL_law_1102.2.2.2.2.2.2.2.1 rfl rfl rfl rfl rfl (vok_v (ob_60 hE) rfl) rfl (r_dep (by decide) (e_X12_redo hE r96.2)) (fun r97 => ?_)
      refine r_pop gL_law_1102.2.2.2.2.2.2.2.2.1 rfl ?_
      refine r_goto (t := 1513) gL_law_1102.2.2.2.2.2.2.2.2.2.1 rfl ?_
      exact r_sub (L' := [(0, .retAddr 0), (1, .ref 0), (2, .ref 60), (3, .int l3)]) (sub_c rfl (sub_c rfl (sub_c rfl (sub_c rfl sub_n)))) (rb_L_law_1513 hE hrec_18 r97.2 l3)
    refine r_sw1 (fun h98 => ?_) (fun h98 => ?_)
    · refine r_jmp (t := 1122) dL_law_33 rfl (by rw [h98]; rfl) ?_
      refine r_aload_n (x := 0) gL_law_1102.2.2.2.2.2.2.2.2.2.2.1 rfl ?_
      refine r_roload_n (x := 0) gL_law_1102.2.2.2.2.2.2.2.2.2.2.2.1 rfl ?_
      refine r_iload_n (x := l3) gL_law_1102.2.2.2.2.2.2.2.2.2.2.2.2.1 rfl ?_
      refine r_iconst (v := (1 : Int32)) gL_law_1102.2.2.2.2.2.2.2.2.2.2.2.2.2.1 rfl ?_
      refine r_iadd gL_law_1102.2.2.2.2.2.2.2.2.2.2.2.2.2.2.1 ?_
      refine r_scload gL_law_1102.2.2.2.2.2.2.2.2.2.2.2.2.2.2.2.1 ?_
      refine r_callI (k := 0) (idx := 147) (y := 178) (as := [.ref 0, .int (E.2.1 (l3 + (1 : Int32)).toNatClampNeg)]) (rest := []) (L0 := [(0, .ref 0), (1, .int (E.2.1 (l3 + (1 : Int32)).toNatClampNeg))]) gL_law_1128.1 rfl rfl rfl rfl rfl (vok_v (ob_0 hE) rfl) rfl (r_dep (by decide) (e_X11_body hE q (E.2.1 (l3 + (1 : Int32)).toNatClampNeg))) (fun r99 => ?_)
      refine r_pop gL_law_1128.2.1 rfl ?_
      refine r_aload_n (x := 60) gL_law_1128.2.2.1 rfl ?_
      refine r_roload_n (x := 0) gL_law_1128.2.2.2.1 rfl ?_
      refine r_iload_n (x := l3) gL_law_1128.2.2.2.2.1 rfl ?_
      refine r_iconst (v := (1 : Int32)) gL_law_1128.2.2.2.2.2.1 rfl ?_
      refine r_iadd gL_law_1128.2.2.2.2.2.2.1 ?_
      refine r_scload gL_law_1128.2.2.2.2.2.2.2.1 ?_
      refine r_callI (k := 0) (idx := 150) (y := 273) (as := [.ref 60, .int (E.2.1 (l3 + (1 : Int32)).toNatClampNeg)]) (rest := []) (L0 := [(0, .ref 60), (1, .int (E.2.1 (l3 + (1 : Int32)).toNatClampNeg))]) gL_law_1128.2.2.2.2.2.2.2.2.1 rfl rfl rfl rfl rfl (vok_v (ob_60 hE) rfl) rfl (r_dep (by decide) (e_X12_body hE r99.2 (E.2.1 (l3 + (1 : Int32)).toNatClampNeg))) (fun r100 => ?_)
      refine r_pop gL_law_1128.2.2.2.2.2.2.2.2.2.1 rfl ?_
      refine r_goto (t := 1513) gL_law_1128.2.2.2.2.2.2.2.2.2.2.1 rfl ?_
      exact r_sub (L' := [(0, .retAddr 0), (1, .ref 0), (2, .ref 60), (3, .int l3)]) (sub_c rfl (sub_c rfl (sub_c rfl (sub_c rfl sub_n)))) (rb_L_law_1513 hE hrec_18 r100.2 l3)
    refine r_sw1 (fun h101 => ?_) (fun h101 => ?_)
    · refine r_jmp (t := 1145) dL_law_33 rfl (by rw [h101]; rfl) ?_
      refine r_aload_n (x := 0) gL_law_1128.2.2.2.2.2.2.2.2.2.2.2.1 rfl ?_
      refine r_roload_n (x := 0) gL_law_1128.2.2.2.2.2.2.2.2.2.2.2.2.1 rfl ?_
      refine r_iload_n (x := l3) gL_law_1128.2.2.2.2.2.2.2.2.2.2.2.2.2.1 rfl ?_
      refine r_iconst (v := (1 : Int32)) gL_law_1128.2.2.2.2.2.2.2.2.2.2.2.2.2.2.1 rfl ?_
      refine r_iadd gL_law_1128.2.2.2.2.2.2.2.2.2.2.2.2.2.2.2.1 ?_
      refine r_scload gL_law_1150.1 ?_
      refine r_roload_n (x := 0) gL_law_1150.2.1 rfl ?_
      refine r_iload_n (x := l3) gL_law_1150.2.2.1 rfl ?_
      refine r_iconst (v := (2 : Int32)) gL_law_1150.2.2.2.1 rfl ?_
      refine r_iadd gL_law_1150.2.2.2.2.1 ?_
      refine r_scload gL_law_1150.2.2.2.2.2.1 ?_
      refine r_roload_n (x := 0) gL_law_1150.2.2.2.2.2.2.1 rfl ?_
      refine r_iload_n (x := l3) gL_law_1150.2.2.2.2.2.2.2.1 rfl ?_
      refine r_iconst (v := (3 : Int32)) gL_law_1150.2.2.2.2.2.2.2.2.1 rfl ?_
      refine r_iadd gL_law_1150.2.2.2.2.2.2.2.2.2.1 ?_
      refine r_scload gL_law_1150.2.2.2.2.2.2.2.2.2.2.1 ?_
      refine r_callI (k := 0) (idx := 151) (y := 179) (as := [.ref 0, .int (E.2.1 (l3 + (1 : Int32)).toNatClampNeg), .int (E.2.1 (l3 + (2 : Int32)).toNatClampNeg), .int (E.2.1 (l3 + (3 : Int32)).toNatClampNeg)]) (rest := []) (L0 := [(0, .ref 0), (1, .int (E.2.1 (l3 + (1 : Int32)).toNatClampNeg)), (2, .int (E.2.1 (l3 + (2 : Int32)).toNatClampNeg)), (3, .int (E.2.1 (l3 + (3 : Int32)).toNatClampNeg))]) gL_law_1150.2.2.2.2.2.2.2.2.2.2.2.1 rfl rfl rfl rfl rfl (vok_v (ob_0 hE) rfl) rfl (r_dep (by decide) (e_X11_act hE q (E.2.1 (l3 + (1 : Int32)).toNatClampNeg) (E.2.1 (l3 + (2 : Int32)).toNatClampNeg) (E.2.1 (l3 + (3 : Int32)).toNatClampNeg))) (fun r102 => ?_)
      refine r_pop gL_law_1150.2.2.2.2.2.2.2.2.2.2.2.2.1 rfl ?_
      refine r_aload_n (x := 60) gL_law_1150.2.2.2.2.2.2.2.2.2.2.2.2.2.1 rfl ?_
      refine r_roload_n (x := 0) gL_law_1150.2.2.2.2.2.2.2.2.2.2.2.2.2.2.1 rfl ?_
      refine r_iload_n (x := l3) gL_law_1150.2.2.2.2.2.2.2.2.2.2.2.2.2.2.2.1 rfl ?_
      refine r_iconst (v := (1 : Int32)) gL_law_1168.1 rfl ?_
      refine r_iadd gL_law_1168.2.1 ?_
      refine r_scload gL_law_1168.2.2.1 ?_
      refine r_roload_n (x := 0) gL_law_1168.2.2.2.1 rfl ?_
      refine r_iload_n (x := l3) gL_law_1168.2.2.2.2.1 rfl ?_
      refine r_iconst (v := (2 : Int32)) gL_law_1168.2.2.2.2.2.1 rfl ?_
      refine r_iadd gL_law_1168.2.2.2.2.2.2.1 ?_
      refine r_scload gL_law_1168.2.2.2.2.2.2.2.1 ?_
      refine r_roload_n (x := 0) gL_law_1168.2.2.2.2.2.2.2.2.1 rfl ?_
      refine r_iload_n (x := l3) gL_law_1168.2.2.2.2.2.2.2.2.2.1 rfl ?_
      refine r_iconst (v := (3 : Int32)) gL_law_1168.2.2.2.2.2.2.2.2.2.2.1 rfl ?_
      refine r_iadd gL_law_1168.2.2.2.2.2.2.2.2.2.2.2.1 ?_
      refine r_scload gL_law_1168.2.2.2.2.2.2.2.2.2.2.2.2.1 ?_
      refine r_callI (k := 0) (idx := 154) (y := 286) (as := [.ref 60, .int (E.2.1 (l3 + (1 : Int32)).toNatClampNeg), .int (E.2.1 (l3 + (2 : Int32)).toNatClampNeg), .int (E.2.1 (l3 + (3 : Int32)).toNatClampNeg)]) (rest := []) (L0 := [(0, .ref 60), (1, .int (E.2.1 (l3 + (1 : Int32)).toNatClampNeg)), (2, .int (E.2.1 (l3 + (2 : Int32)).toNatClampNeg)), (3, .int (E.2.1 (l3 + (3 : Int32)).toNatClampNeg))]) gL_law_1168.2.2.2.2.2.2.2.2.2.2.2.2.2.1 rfl rfl rfl rfl rfl (vok_v (ob_60 hE) rfl) rfl (r_dep (by decide) (e_X12_act hE r102.2 (E.2.1 (l3 + (1 : Int32)).toNatClampNeg) (E.2.1 (l3 + (2 : Int32)).toNatClampNeg) (E.2.1 (l3 + (3 : Int32)).toNatClampNeg))) (fun r103 => ?_)
      refine r_pop gL_law_1168.2.2.2.2.2.2.2.2.2.2.2.2.2.2.1 rfl ?_
      refine r_goto (t := 1513) gL_law_1168.2.2.2.2.2.2.2.2.2.2.2.2.2.2.2.1 rfl ?_
      exact r_sub (L' := [(0, .retAddr 0), (1, .ref 0), (2, .ref 60), (3, .int l3)]) (sub_c rfl (sub_c rfl (sub_c rfl (sub_c rfl sub_n)))) (rb_L_law_1513 hE hrec_18 r103.2 l3)
    refine r_sw1 (fun h104 => ?_) (fun h104 => ?_)
    · refine r_jmp (t := 1188) dL_law_33 rfl (by rw [h104]; rfl) ?_
      refine r_aload_n (x := 0) gL_law_1188.1 rfl ?_
      refine r_roload_n (x := 0) gL_law_1188.2.1 rfl ?_
      refine r_iload_n (x := l3) gL_law_1188.2.2.1 rfl ?_
      refine r_iconst (v := (1 : Int32)) gL_law_1188.2.2.2.1 rfl ?_
      refine r_iadd gL_law_1188.2.2.2.2.1 ?_
      refine r_scload gL_law_1188.2.2.2.2.2.1 ?_
      refine r_calli (k := 0) (idx := 155) (y := 180) (as := [.ref 0, .int (E.2.1 (l3 + (1 : Int32)).toNatClampNeg)]) (rest := []) (L0 := [(0, .ref 0), (1, .int (E.2.1 (l3 + (1 : Int32)).toNatClampNeg))]) gL_law_1188.2.2.2.2.2.2.1 rfl rfl rfl rfl rfl (vok_v (ob_0 hE) rfl) rfl (r_dep (by decide) (e_X11_trace hE q (E.2.1 (l3 + (1 : Int32)).toNatClampNeg))) (fun r105 => ?_)
      refine r_pop gL_law_1188.2.2.2.2.2.2.2.1 rfl ?_
      refine r_aload_n (x := 60) gL_law_1188.2.2.2.2.2.2.2.2.1 rfl ?_
      refine r_roload_n (x := 0) gL_law_1188.2.2.2.2.2.2.2.2.2.1 rfl ?_
      refine r_iload_n (x := l3) gL_law_1188.2.2.2.2.2.2.2.2.2.2.1 rfl ?_
      refine r_iconst (v := (1 : Int32)) gL_law_1188.2.2.2.2.2.2.2.2.2.2.2.1 rfl ?_
      refine r_iadd gL_law_1188.2.2.2.2.2.2.2.2.2.2.2.2.1 ?_
      refine r_scload gL_law_1188.2.2.2.2.2.2.2.2.2.2.2.2.2.1 ?_
      refine r_calli (k := 0) (idx := 158) (y := 272) (as := [.ref 60, .int (E.2.1 (l3 + (1 : Int32)).toNatClampNeg)]) (rest := []) (L0 := [(0, .ref 60), (1, .int (E.2.1 (l3 + (1 : Int32)).toNatClampNeg))]) gL_law_1188.2.2.2.2.2.2.2.2.2.2.2.2.2.2.1 rfl rfl rfl rfl rfl (vok_v (ob_60 hE) rfl) rfl (r_dep (by decide) (e_X12_trace hE q (E.2.1 (l3 + (1 : Int32)).toNatClampNeg))) (fun r106 => ?_)
      refine r_pop gL_law_1188.2.2.2.2.2.2.2.2.2.2.2.2.2.2.2.1 rfl ?_
      refine r_goto (t := 1513) gL_law_1208.1 rfl ?_
      exact r_sub (L' := [(0, .retAddr 0), (1, .ref 0), (2, .ref 60), (3, .int l3)]) (sub_c rfl (sub_c rfl (sub_c rfl (sub_c rfl sub_n)))) (rb_L_law_1513 hE hrec_18 q l3)
    refine r_sw1 (fun h107 => ?_) (fun h107 => ?_)
    · refine r_jmp (t := 1211) dL_law_33 rfl (by rw [h107]; rfl) ?_
      refine r_aload_n (x := 0) gL_law_1208.2.1 rfl ?_
      refine r_roload_n (x := 0) gL_law_1208.2.2.1 rfl ?_
      refine r_iload_n (x := l3) gL_law_1208.2.2.2.1 rfl ?_
      refine r_iconst (v := (1 : Int32)) gL_law_1208.2.2.2.2.1 rfl ?_
      refine r_iadd gL_law_1208.2.2.2.2.2.1 ?_
      refine r_scload gL_law_1208.2.2.2.2.2.2.1 ?_
      refine r_roload_n (x := 0) gL_law_1208.2.2.2.2.2.2.2.1 rfl ?_
      refine r_iload_n (x := l3) gL_law_1208.2.2.2.2.2.2.2.2.1 rfl ?_
      refine r_iconst (v := (2 : Int32)) gL_law_1208.2.2.2.2.2.2.2.2.2.1 rfl ?_
      refine r_iadd gL_law_1208.2.2.2.2.2.2.2.2.2.2.1 ?_
      refine r_scload gL_law_1208.2.2.2.2.2.2.2.2.2.2.2.1 ?_
      refine r_callI (k := 0) (idx := 159) (y := 181) (as := [.ref 0, .int (E.2.1 (l3 + (1 : Int32)).toNatClampNeg), .int (E.2.1 (l3 + (2 : Int32)).toNatClampNeg)]) (rest := []) (L0 := [(0, .ref 0), (1, .int (E.2.1 (l3 + (1 : Int32)).toNatClampNeg)), (2, .int (E.2.1 (l3 + (2 : Int32)).toNatClampNeg))]) gL_law_1208.2.2.2.2.2.2.2.2.2.2.2.2.1 rfl rfl rfl rfl rfl (vok_v (ob_0 hE) rfl) rfl (r_dep (by decide) (e_X11_keep hE q (E.2.1 (l3 + (1 : Int32)).toNatClampNeg) (E.2.1 (l3 + (2 : Int32)).toNatClampNeg))) (fun r108 => ?_)
      refine r_pop gL_law_1208.2.2.2.2.2.2.2.2.2.2.2.2.2.1 rfl ?_
      refine r_aload_n (x := 60) gL_law_1208.2.2.2.2.2.2.2.2.2.2.2.2.2.2.1 rfl ?_
      refine r_roload_n (x := 0) gL_law_1208.2.2.2.2.2.2.2.2.2.2.2.2.2.2.2.1 rfl ?_
      refine r_iload_n (x := l3) gL_law_1228.1 rfl ?_
      refine r_iconst (v := (1 : Int32)) gL_law_1228.2.1 rfl ?_
      refine r_iadd gL_law_1228.2.2.1 ?_
      refine r_scload gL_law_1228.2.2.2.1 ?_
      refine r_roload_n (x := 0) gL_law_1228.2.2.2.2.1 rfl ?_
      refine r_iload_n (x := l3) gL_law_1228.2.2.2.2.2.1 rfl ?_
      refine r_iconst (v := (2 : Int32)) gL_law_1228.2.2.2.2.2.2.1 rfl ?_
      refine r_iadd gL_law_1228.2.2.2.2.2.2.2.1 ?_
      refine r_scload gL_law_1228.2.2.2.2.2.2.2.2.1 ?_
      refine r_callI (k := 0) (idx := 162) (y := 289) (as := [.ref 60, .int (E.2.1 (l3 + (1 : Int32)).toNatClampNeg), .int (E.2.1 (l3 + (2 : Int32)).toNatClampNeg)]) (rest := []) (L0 := [(0, .ref 60), (1, .int (E.2.1 (l3 + (1 : Int32)).toNatClampNeg)), (2, .int (E.2.1 (l3 + (2 : Int32)).toNatClampNeg))]) gL_law_1228.2.2.2.2.2.2.2.2.2.1 rfl rfl rfl rfl rfl (vok_v (ob_60 hE) rfl) rfl (r_dep (by decide) (e_X12_keep hE r108.2 (E.2.1 (l3 + (1 : Int32)).toNatClampNeg) (E.2.1 (l3 + (2 : Int32)).toNatClampNeg))) (fun r109 => ?_)
      refine r_pop gL_law_1228.2.2.2.2.2.2.2.2.2.2.1 rfl ?_
      refine r_goto (t := 1513) gL_law_1228.2.2.2.2.2.2.2.2.2.2.2.1 rfl ?_
      exact r_sub (L' := [(0, .retAddr 0), (1, .ref 0), (2, .ref 60), (3, .int l3)]) (sub_c rfl (sub_c rfl (sub_c rfl (sub_c rfl sub_n)))) (rb_L_law_1513 hE hrec_18 r109.2 l3)
    refine r_sw1 (fun h110 => ?_) (fun h110 => ?_)
    · refine r_jmp (t := 1244) dL_law_33 rfl (by rw [h110]; rfl) ?_
      refine r_aload_n (x := 0) gL_law_1228.2.2.2.2.2.2.2.2.2.2.2.2.1 rfl ?_
      refine r_roload_n (x := 0) gL_law_1228.2.2.2.2.2.2.2.2.2.2.2.2.2.1 rfl ?_
      refine r_iload_n (x := l3) gL_law_1228.2.2.2.2.2.2.2.2.2.2.2.2.2.2.1 rfl ?_
      refine r_iconst (v := (1 : Int32)) gL_law_1228.2.2.2.2.2.2.2.2.2.2.2.2.2.2.2.1 rfl ?_
      refine r_iadd gL_law_1248.1 ?_
      refine r_scload gL_law_1248.2.1 ?_
      refine r_roload_n (x := 0) gL_law_1248.2.2.1 rfl ?_
      refine r_iload_n (x := l3) gL_law_1248.2.2.2.1 rfl ?_
      refine r_iconst (v := (2 : Int32)) gL_law_1248.2.2.2.2.1 rfl ?_
      refine r_iadd gL_law_1248.2.2.2.2.2.1 ?_
      refine r_scload gL_law_1248.2.2.2.2.2.2.1 ?_
      refine r_roload_n (x := 0) gL_law_1248.2.2.2.2.2.2.2.1 rfl ?_
      refine r_iload_n (x := l3) gL_law_1248.2.2.2.2.2.2.2.2.1 rfl ?_
      refine r_iconst (v := (3 : Int32)) gL_law_1248.2.2.2.2.2.2.2.2.2.1 rfl ?_
      refine r_iadd gL_law_1248.2.2.2.2.2.2.2.2.2.2.1 ?_
      refine r_scload gL_law_1248.2.2.2.2.2.2.2.2.2.2.2.1 ?_
      refine r_callI (k := 0) (idx := 163) (y := 182) (as := [.ref 0, .int (E.2.1 (l3 + (1 : Int32)).toNatClampNeg), .int (E.2.1 (l3 + (2 : Int32)).toNatClampNeg), .int (E.2.1 (l3 + (3 : Int32)).toNatClampNeg)]) (rest := []) (L0 := [(0, .ref 0), (1, .int (E.2.1 (l3 + (1 : Int32)).toNatClampNeg)), (2, .int (E.2.1 (l3 + (2 : Int32)).toNatClampNeg)), (3, .int (E.2.1 (l3 + (3 : Int32)).toNatClampNeg))]) gL_law_1248.2.2.2.2.2.2.2.2.2.2.2.2.1 rfl rfl rfl rfl rfl (vok_v (ob_0 hE) rfl) rfl (r_dep (by decide) (e_X11_row hE q (E.2.1 (l3 + (1 : Int32)).toNatClampNeg) (E.2.1 (l3 + (2 : Int32)).toNatClampNeg) (E.2.1 (l3 + (3 : Int32)).toNatClampNeg))) (fun r111 => ?_)
      refine r_pop gL_law_1248.2.2.2.2.2.2.2.2.2.2.2.2.2.1 rfl ?_
      refine r_aload_n (x := 60) gL_law_1248.2.2.2.2.2.2.2.2.2.2.2.2.2.2.1 rfl ?_
      refine r_roload_n (x := 0) gL_law_1248.2.2.2.2.2.2.2.2.2.2.2.2.2.2.2.1 rfl ?_
      refine r_iload_n (x := l3) gL_law_1266.1 rfl ?_
      refine r_iconst (v := (1 : Int32)) gL_law_1266.2.1 rfl ?_
      refine r_iadd gL_law_1266.2.2.1 ?_
      refine r_scload gL_law_1266.2.2.2.1 ?_
      refine r_roload_n (x := 0) gL_law_1266.2.2.2.2.1 rfl ?_
      refine r_iload_n (x := l3) gL_law_1266.2.2.2.2.2.1 rfl ?_
      refine r_iconst (v := (2 : Int32)) gL_law_1266.2.2.2.2.2.2.1 rfl ?_
      refine r_iadd gL_law_1266.2.2.2.2.2.2.2.1 ?_
      refine r_scload gL_law_1266.2.2.2.2.2.2.2.2.1 ?_
      refine r_roload_n (x := 0) gL_law_1266.2.2.2.2.2.2.2.2.2.1 rfl ?_
      refine r_iload_n (x := l3) gL_law_1266.2.2.2.2.2.2.2.2.2.2.1 rfl ?_
      refine r_iconst (v := (3 : Int32)) gL_law_1266.2.2.2.2.2.2.2.2.2.2.2.1 rfl ?_
      refine r_iadd gL_law_1266.2.2.2.2.2.2.2.2.2.2.2.2.1 ?_
      refine r_scload gL_law_1266.2.2.2.2.2.2.2.2.2.2.2.2.2.1 ?_
      refine r_callI (k := 0) (idx := 166) (y := 290) (as := [.ref 60, .int (E.2.1 (l3 + (1 : Int32)).toNatClampNeg), .int (E.2.1 (l3 + (2 : Int32)).toNatClampNeg), .int (E.2.1 (l3 + (3 : Int32)).toNatClampNeg)]) (rest := []) (L0 := [(0, .ref 60), (1, .int (E.2.1 (l3 + (1 : Int32)).toNatClampNeg)), (2, .int (E.2.1 (l3 + (2 : Int32)).toNatClampNeg)), (3, .int (E.2.1 (l3 + (3 : Int32)).toNatClampNeg))]) gL_law_1266.2.2.2.2.2.2.2.2.2.2.2.2.2.2.1 rfl rfl rfl rfl rfl (vok_v (ob_60 hE) rfl) rfl (r_dep (by decide) (e_X12_row hE r111.2 (E.2.1 (l3 + (1 : Int32)).toNatClampNeg) (E.2.1 (l3 + (2 : Int32)).toNatClampNeg) (E.2.1 (l3 + (3 : Int32)).toNatClampNeg))) (fun r112 => ?_)
      refine r_pop gL_law_1266.2.2.2.2.2.2.2.2.2.2.2.2.2.2.2.1 rfl ?_
      refine r_goto (t := 1513) gL_law_1284.1 rfl ?_
      exact r_sub (L' := [(0, .retAddr 0), (1, .ref 0), (2, .ref 60), (3, .int l3)]) (sub_c rfl (sub_c rfl (sub_c rfl (sub_c rfl sub_n)))) (rb_L_law_1513 hE hrec_18 r112.2 l3)
    refine r_sw1 (fun h113 => ?_) (fun h113 => ?_)
    · refine r_jmp (t := 1287) dL_law_33 rfl (by rw [h113]; rfl) ?_
      refine r_aload_n (x := 0) gL_law_1284.2.1 rfl ?_
      refine r_roload_n (x := 0) gL_law_1284.2.2.1 rfl ?_
      refine r_iload_n (x := l3) gL_law_1284.2.2.2.1 rfl ?_
      refine r_iconst (v := (1 : Int32)) gL_law_1284.2.2.2.2.1 rfl ?_
      refine r_iadd gL_law_1284.2.2.2.2.2.1 ?_
      refine r_scload gL_law_1284.2.2.2.2.2.2.1 ?_
      refine r_roload_n (x := 0) gL_law_1284.2.2.2.2.2.2.2.1 rfl ?_
      refine r_iload_n (x := l3) gL_law_1284.2.2.2.2.2.2.2.2.1 rfl ?_
      refine r_iconst (v := (2 : Int32)) gL_law_1284.2.2.2.2.2.2.2.2.2.1 rfl ?_
      refine r_iadd gL_law_1284.2.2.2.2.2.2.2.2.2.2.1 ?_
      refine r_scload gL_law_1284.2.2.2.2.2.2.2.2.2.2.2.1 ?_
      refine r_roload_n (x := 0) gL_law_1284.2.2.2.2.2.2.2.2.2.2.2.2.1 rfl ?_
      refine r_iload_n (x := l3) gL_law_1284.2.2.2.2.2.2.2.2.2.2.2.2.2.1 rfl ?_
      refine r_iconst (v := (3 : Int32)) gL_law_1284.2.2.2.2.2.2.2.2.2.2.2.2.2.2.1 rfl ?_
      refine r_iadd gL_law_1284.2.2.2.2.2.2.2.2.2.2.2.2.2.2.2.1 ?_
      refine r_scload gL_law_1302.1 ?_
      refine r_i2l gL_law_1302.2.1 ?_
      refine r_bipush (v := (32 : Int32)) gL_law_1302.2.2.1 rfl ?_
      refine r_lshl gL_law_1302.2.2.2.1 ?_
      refine r_roload_n (x := 0) gL_law_1302.2.2.2.2.1 rfl ?_
      refine r_iload_n (x := l3) gL_law_1302.2.2.2.2.2.1 rfl ?_
      refine r_iconst (v := (4 : Int32)) gL_law_1302.2.2.2.2.2.2.1 rfl ?_
      refine r_iadd gL_law_1302.2.2.2.2.2.2.2.1 ?_
      refine r_scload gL_law_1302.2.2.2.2.2.2.2.2.1 ?_
      refine r_i2l gL_law_1302.2.2.2.2.2.2.2.2.2.1 ?_
      refine r_ldc2 (v := (4294967295 : Int64)) gL_law_1302.2.2.2.2.2.2.2.2.2.2.1 rfl ?_
      refine r_land gL_law_1302.2.2.2.2.2.2.2.2.2.2.2.1 ?_
      refine r_lor gL_law_1302.2.2.2.2.2.2.2.2.2.2.2.2.1 ?_
      refine r_callI (k := 0) (idx := 169) (y := 183) (as := [.ref 0, .int (E.2.1 (l3 + (1 : Int32)).toNatClampNeg), .int (E.2.1 (l3 + (2 : Int32)).toNatClampNeg), .long ((jlshl ((E.2.1 (l3 + (3 : Int32)).toNatClampNeg).toInt64) (32 : Int32)) ||| (((E.2.1 (l3 + (4 : Int32)).toNatClampNeg).toInt64) &&& (4294967295 : Int64)))]) (rest := []) (L0 := [(0, .ref 0), (1, .int (E.2.1 (l3 + (1 : Int32)).toNatClampNeg)), (2, .int (E.2.1 (l3 + (2 : Int32)).toNatClampNeg)), (3, .long ((jlshl ((E.2.1 (l3 + (3 : Int32)).toNatClampNeg).toInt64) (32 : Int32)) ||| (((E.2.1 (l3 + (4 : Int32)).toNatClampNeg).toInt64) &&& (4294967295 : Int64))))]) gL_law_1302.2.2.2.2.2.2.2.2.2.2.2.2.2.1 rfl rfl rfl rfl rfl (vok_v (ob_0 hE) rfl) rfl (r_dep (by decide) (e_X11_put hE q (E.2.1 (l3 + (1 : Int32)).toNatClampNeg) (E.2.1 (l3 + (2 : Int32)).toNatClampNeg) ((jlshl ((E.2.1 (l3 + (3 : Int32)).toNatClampNeg).toInt64) (32 : Int32)) ||| (((E.2.1 (l3 + (4 : Int32)).toNatClampNeg).toInt64) &&& (4294967295 : Int64))))) (fun r114 => ?_)
      refine r_pop gL_law_1302.2.2.2.2.2.2.2.2.2.2.2.2.2.2.1 rfl ?_
      refine r_aload_n (x := 60) gL_law_1302.2.2.2.2.2.2.2.2.2.2.2.2.2.2.2.1 rfl ?_
      refine r_roload_n (x := 0) gL_law_1323.1 rfl ?_
      refine r_iload_n (x := l3) gL_law_1323.2.1 rfl ?_
      refine r_iconst (v := (1 : Int32)) gL_law_1323.2.2.1 rfl ?_
      refine r_iadd gL_law_1323.2.2.2.1 ?_
      refine r_scload gL_law_1323.2.2.2.2.1 ?_
      refine r_roload_n (x := 0) gL_law_1323.2.2.2.2.2.1 rfl ?_
      refine r_iload_n (x := l3) gL_law_1323.2.2.2.2.2.2.1 rfl ?_
      refine r_iconst (v := (2 : Int32)) gL_law_1323.2.2.2.2.2.2.2.1 rfl ?_
      refine r_iadd gL_law_1323.2.2.2.2.2.2.2.2.1 ?_
      refine r_scload gL_law_1323.2.2.2.2.2.2.2.2.2.1 ?_
      refine r_roload_n (x := 0) gL_law_1323.2.2.2.2.2.2.2.2.2.2.1 rfl ?_
      refine r_iload_n (x := l3) gL_law_1323.2.2.2.2.2.2.2.2.2.2.2.1 rfl ?_
      refine r_iconst (v := (3 : Int32)) gL_law_1323.2.2.2.2.2.2.2.2.2.2.2.2.1 rfl ?_
      refine r_iadd gL_law_1323.2.2.2.2.2.2.2.2.2.2.2.2.2.1 ?_
      refine r_scload gL_law_1323.2.2.2.2.2.2.2.2.2.2.2.2.2.2.1 ?_
      refine r_i2l gL_law_1323.2.2.2.2.2.2.2.2.2.2.2.2.2.2.2.1 ?_
      refine r_bipush (v := (32 : Int32)) gL_law_1339.1 rfl ?_
      refine r_lshl gL_law_1339.2.1 ?_
      refine r_roload_n (x := 0) gL_law_1339.2.2.1 rfl ?_
      refine r_iload_n (x := l3) gL_law_1339.2.2.2.1 rfl ?_
      refine r_iconst (v := (4 : Int32)) gL_law_1339.2.2.2.2.1 rfl ?_
      refine r_iadd gL_law_1339.2.2.2.2.2.1 ?_
      refine r_scload gL_law_1339.2.2.2.2.2.2.1 ?_
      refine r_i2l gL_law_1339.2.2.2.2.2.2.2.1 ?_
      refine r_ldc2 (v := (4294967295 : Int64)) gL_law_1339.2.2.2.2.2.2.2.2.1 rfl ?_
      refine r_land gL_law_1339.2.2.2.2.2.2.2.2.2.1 ?_
      refine r_lor gL_law_1339.2.2.2.2.2.2.2.2.2.2.1 ?_
      refine r_callI (k := 0) (idx := 173) (y := 292) (as := [.ref 60, .int (E.2.1 (l3 + (1 : Int32)).toNatClampNeg), .int (E.2.1 (l3 + (2 : Int32)).toNatClampNeg), .long ((jlshl ((E.2.1 (l3 + (3 : Int32)).toNatClampNeg).toInt64) (32 : Int32)) ||| (((E.2.1 (l3 + (4 : Int32)).toNatClampNeg).toInt64) &&& (4294967295 : Int64)))]) (rest := []) (L0 := [(0, .ref 60), (1, .int (E.2.1 (l3 + (1 : Int32)).toNatClampNeg)), (2, .int (E.2.1 (l3 + (2 : Int32)).toNatClampNeg)), (3, .long ((jlshl ((E.2.1 (l3 + (3 : Int32)).toNatClampNeg).toInt64) (32 : Int32)) ||| (((E.2.1 (l3 + (4 : Int32)).toNatClampNeg).toInt64) &&& (4294967295 : Int64))))]) gL_law_1339.2.2.2.2.2.2.2.2.2.2.2.1 rfl rfl rfl rfl rfl (vok_v (ob_60 hE) rfl) rfl (r_dep (by decide) (e_X12_put hE r114.2 (E.2.1 (l3 + (1 : Int32)).toNatClampNeg) (E.2.1 (l3 + (2 : Int32)).toNatClampNeg) ((jlshl ((E.2.1 (l3 + (3 : Int32)).toNatClampNeg).toInt64) (32 : Int32)) ||| (((E.2.1 (l3 + (4 : Int32)).toNatClampNeg).toInt64) &&& (4294967295 : Int64))))) (fun r115 => ?_)
      refine r_pop gL_law_1339.2.2.2.2.2.2.2.2.2.2.2.2.1 rfl ?_
      refine r_goto (t := 1513) gL_law_1339.2.2.2.2.2.2.2.2.2.2.2.2.2.1 rfl ?_
      exact r_sub (L' := [(0, .retAddr 0), (1, .ref 0), (2, .ref 60), (3, .int l3)]) (sub_c rfl (sub_c rfl (sub_c rfl (sub_c rfl sub_n)))) (rb_L_law_1513 hE hrec_18 r115.2 l3)
    refine r_sw1 (fun h116 => ?_) (fun h116 => ?_)
    · refine r_jmp (t := 1360) dL_law_33 rfl (by rw [h116]; rfl) ?_
      refine r_aload_n (x := 0) gL_law_1339.2.2.2.2.2.2.2.2.2.2.2.2.2.2.1 rfl ?_
      refine r_roload_n (x := 0) gL_law_1339.2.2.2.2.2.2.2.2.2.2.2.2.2.2.2.1 rfl ?_
      refine r_iload_n (x := l3) gL_law_1362.1 rfl ?_
      refine r_iconst (v := (1 : Int32)) gL_law_1362.2.1 rfl ?_
      refine r_iadd gL_law_1362.2.2.1 ?_
      refine r_scload gL_law_1362.2.2.2.1 ?_
      refine r_roload_n (x := 0) gL_law_1362.2.2.2.2.1 rfl ?_
      refine r_iload_n (x := l3) gL_law_1362.2.2.2.2.2.1 rfl ?_
      refine r_iconst (v := (2 : Int32)) gL_law_1362.2.2.2.2.2.2.1 rfl ?_
      refine r_iadd gL_law_1362.2.2.2.2.2.2.2.1 ?_
      refine r_scload gL_law_1362.2.2.2.2.2.2.2.2.1 ?_
      refine r_calll (k := 0) (idx := 174) (y := 184) (as := [.ref 0, .int (E.2.1 (l3 + (1 : Int32)).toNatClampNeg), .int (E.2.1 (l3 + (2 : Int32)).toNatClampNeg)]) (rest := []) (L0 := [(0, .ref 0), (1, .int (E.2.1 (l3 + (1 : Int32)).toNatClampNeg)), (2, .int (E.2.1 (l3 + (2 : Int32)).toNatClampNeg))]) gL_law_1362.2.2.2.2.2.2.2.2.2.1 rfl rfl rfl rfl rfl (vok_v (ob_0 hE) rfl) rfl (r_dep (by decide) (e_X11_element hE q (E.2.1 (l3 + (1 : Int32)).toNatClampNeg) (E.2.1 (l3 + (2 : Int32)).toNatClampNeg))) (fun r117 => ?_)
      refine r_aload_n (x := 60) gL_law_1362.2.2.2.2.2.2.2.2.2.2.1 rfl ?_
      refine r_roload_n (x := 0) gL_law_1362.2.2.2.2.2.2.2.2.2.2.2.1 rfl ?_
      refine r_iload_n (x := l3) gL_law_1362.2.2.2.2.2.2.2.2.2.2.2.2.1 rfl ?_
      refine r_iconst (v := (1 : Int32)) gL_law_1362.2.2.2.2.2.2.2.2.2.2.2.2.2.1 rfl ?_
      refine r_iadd gL_law_1362.2.2.2.2.2.2.2.2.2.2.2.2.2.2.1 ?_
      refine r_scload gL_law_1362.2.2.2.2.2.2.2.2.2.2.2.2.2.2.2.1 ?_
      refine r_roload_n (x := 0) gL_law_1380.1 rfl ?_
      refine r_iload_n (x := l3) gL_law_1380.2.1 rfl ?_
      refine r_iconst (v := (2 : Int32)) gL_law_1380.2.2.1 rfl ?_
      refine r_iadd gL_law_1380.2.2.2.1 ?_
      refine r_scload gL_law_1380.2.2.2.2.1 ?_
      refine r_calll (k := 0) (idx := 177) (y := 293) (as := [.ref 60, .int (E.2.1 (l3 + (1 : Int32)).toNatClampNeg), .int (E.2.1 (l3 + (2 : Int32)).toNatClampNeg)]) (rest := [.long r117]) (L0 := [(0, .ref 60), (1, .int (E.2.1 (l3 + (1 : Int32)).toNatClampNeg)), (2, .int (E.2.1 (l3 + (2 : Int32)).toNatClampNeg))]) gL_law_1380.2.2.2.2.2.1 rfl rfl rfl rfl rfl (vok_v (ob_60 hE) rfl) rfl (r_dep (by decide) (e_X12_element hE q (E.2.1 (l3 + (1 : Int32)).toNatClampNeg) (E.2.1 (l3 + (2 : Int32)).toNatClampNeg))) (fun r118 => ?_)
      refine r_lcmp gL_law_1380.2.2.2.2.2.2.1 ?_
      refine r_if_eq (t := 1513) gL_law_1380.2.2.2.2.2.2.2.1 rfl (fun h119 => ?_) (fun h119 => ?_)
      · exact r_sub (L' := [(0, .retAddr 0), (1, .ref 0), (2, .ref 60), (3, .int l3)]) (sub_c rfl (sub_c rfl (sub_c rfl (sub_c rfl sub_n)))) (rb_L_law_1513 hE hrec_18 q l3)
      · refine r_iconst (v := (0 : Int32)) gL_law_1380.2.2.2.2.2.2.2.2.1 rfl ?_
        exact r_ireturn gL_law_1380.2.2.2.2.2.2.2.2.2.1 rfl rfl
    refine r_sw1 (fun h120 => ?_) (fun h120 => ?_)
    · refine r_jmp (t := 1394) dL_law_33 rfl (by rw [h120]; rfl) ?_
      refine r_aload_n (x := 0) gL_law_1380.2.2.2.2.2.2.2.2.2.2.1 rfl ?_
      refine r_roload_n (x := 0) gL_law_1380.2.2.2.2.2.2.2.2.2.2.2.1 rfl ?_
      refine r_iload_n (x := l3) gL_law_1380.2.2.2.2.2.2.2.2.2.2.2.2.1 rfl ?_
      refine r_iconst (v := (1 : Int32)) gL_law_1380.2.2.2.2.2.2.2.2.2.2.2.2.2.1 rfl ?_
      refine r_iadd gL_law_1380.2.2.2.2.2.2.2.2.2.2.2.2.2.2.1 ?_
      refine r_scload gL_law_1380.2.2.2.2.2.2.2.2.2.2.2.2.2.2.2.1 ?_
      refine r_roload_n (x := 0) gL_law_1400.1 rfl ?_
      refine r_iload_n (x := l3) gL_law_1400.2.1 rfl ?_
      refine r_iconst (v := (2 : Int32)) gL_law_1400.2.2.1 rfl ?_
      refine r_iadd gL_law_1400.2.2.2.1 ?_
      refine r_scload gL_law_1400.2.2.2.2.1 ?_
      refine r_roload_n (x := 0) gL_law_1400.2.2.2.2.2.1 rfl ?_
      refine r_iload_n (x := l3) gL_law_1400.2.2.2.2.2.2.1 rfl ?_
      refine r_iconst (v := (3 : Int32)) gL_law_1400.2.2.2.2.2.2.2.1 rfl ?_
      refine r_iadd gL_law_1400.2.2.2.2.2.2.2.2.1 ?_
      refine r_scload gL_law_1400.2.2.2.2.2.2.2.2.2.1 ?_
      refine r_roload_n (x := 0) gL_law_1400.2.2.2.2.2.2.2.2.2.2.1 rfl ?_
      refine r_iload_n (x := l3) gL_law_1400.2.2.2.2.2.2.2.2.2.2.2.1 rfl ?_
      refine r_iconst (v := (4 : Int32)) gL_law_1400.2.2.2.2.2.2.2.2.2.2.2.2.1 rfl ?_
      refine r_iadd gL_law_1400.2.2.2.2.2.2.2.2.2.2.2.2.2.1 ?_
      refine r_scload gL_law_1400.2.2.2.2.2.2.2.2.2.2.2.2.2.2.1 ?_
      refine r_roload_n (x := 0) gL_law_1400.2.2.2.2.2.2.2.2.2.2.2.2.2.2.2.1 rfl ?_
      refine r_iload_n (x := l3) gL_law_1416.1 rfl ?_
      refine r_iconst (v := (5 : Int32)) gL_law_1416.2.1 rfl ?_
      refine r_iadd gL_law_1416.2.2.1 ?_
      refine r_scload gL_law_1416.2.2.2.1 ?_
      refine r_callI (k := 0) (idx := 178) (y := 185) (as := [.ref 0, .int (E.2.1 (l3 + (1 : Int32)).toNatClampNeg), .int (E.2.1 (l3 + (2 : Int32)).toNatClampNeg), .int (E.2.1 (l3 + (3 : Int32)).toNatClampNeg), .int (E.2.1 (l3 + (4 : Int32)).toNatClampNeg), .int (E.2.1 (l3 + (5 : Int32)).toNatClampNeg)]) (rest := []) (L0 := [(0, .ref 0), (1, .int (E.2.1 (l3 + (1 : Int32)).toNatClampNeg)), (2, .int (E.2.1 (l3 + (2 : Int32)).toNatClampNeg)), (3, .int (E.2.1 (l3 + (3 : Int32)).toNatClampNeg)), (4, .int (E.2.1 (l3 + (4 : Int32)).toNatClampNeg)), (5, .int (E.2.1 (l3 + (5 : Int32)).toNatClampNeg))]) gL_law_1416.2.2.2.2.1 rfl rfl rfl rfl rfl (vok_v (ob_0 hE) rfl) rfl (r_dep (by decide) (e_X11_shift hE q (E.2.1 (l3 + (1 : Int32)).toNatClampNeg) (E.2.1 (l3 + (2 : Int32)).toNatClampNeg) (E.2.1 (l3 + (3 : Int32)).toNatClampNeg) (E.2.1 (l3 + (4 : Int32)).toNatClampNeg) (E.2.1 (l3 + (5 : Int32)).toNatClampNeg))) (fun r121 => ?_)
      refine r_pop gL_law_1416.2.2.2.2.2.1 rfl ?_
      refine r_aload_n (x := 60) gL_law_1416.2.2.2.2.2.2.1 rfl ?_
      refine r_roload_n (x := 0) gL_law_1416.2.2.2.2.2.2.2.1 rfl ?_
      refine r_iload_n (x := l3) gL_law_1416.2.2.2.2.2.2.2.2.1 rfl ?_
      refine r_iconst (v := (1 : Int32)) gL_law_1416.2.2.2.2.2.2.2.2.2.1 rfl ?_
      refine r_iadd gL_law_1416.2.2.2.2.2.2.2.2.2.2.1 ?_
      refine r_scload gL_law_1416.2.2.2.2.2.2.2.2.2.2.2.1 ?_
      refine r_roload_n (x := 0) gL_law_1416.2.2.2.2.2.2.2.2.2.2.2.2.1 rfl ?_
      refine r_iload_n (x := l3) gL_law_1416.2.2.2.2.2.2.2.2.2.2.2.2.2.1 rfl ?_
      refine r_iconst (v := (2 : Int32)) gL_law_1416.2.2.2.2.2.2.2.2.2.2.2.2.2.2.1 rfl ?_
      refine r_iadd gL_law_1416.2.2.2.2.2.2.2.2.2.2.2.2.2.2.2.1 ?_
      refine r_scload gL_law_1434.1 ?_
      refine r_roload_n (x := 0) gL_law_1434.2.1 rfl ?_
      refine r_iload_n (x := l3) gL_law_1434.2.2.1 rfl ?_
      refine r_iconst (v := (3 : Int32)) gL_law_1434.2.2.2.1 rfl ?_
      refine r_iadd gL_law_1434.2.2.2.2.1 ?_
      refine r_scload gL_law_1434.2.2.2.2.2.1 ?_
      refine r_roload_n (x := 0) gL_law_1434.2.2.2.2.2.2.1 rfl ?_
      refine r_iload_n (x := l3) gL_law_1434.2.2.2.2.2.2.2.1 rfl ?_
      refine r_iconst (v := (4 : Int32)) gL_law_1434.2.2.2.2.2.2.2.2.1 rfl ?_
      refine r_iadd gL_law_1434.2.2.2.2.2.2.2.2.2.1 ?_
      refine r_scload gL_law_1434.2.2.2.2.2.2.2.2.2.2.1 ?_
      refine r_roload_n (x := 0) gL_law_1434.2.2.2.2.2.2.2.2.2.2.2.1 rfl ?_
      refine r_iload_n (x := l3) gL_law_1434.2.2.2.2.2.2.2.2.2.2.2.2.1 rfl ?_
      refine r_iconst (v := (5 : Int32)) gL_law_1434.2.2.2.2.2.2.2.2.2.2.2.2.2.1 rfl ?_
      refine r_iadd gL_law_1434.2.2.2.2.2.2.2.2.2.2.2.2.2.2.1 ?_
      refine r_scload gL_law_1434.2.2.2.2.2.2.2.2.2.2.2.2.2.2.2.1 ?_
      refine r_callI (k := 0) (idx := 182) (y := 294) (as := [.ref 60, .int (E.2.1 (l3 + (1 : Int32)).toNatClampNeg), .int (E.2.1 (l3 + (2 : Int32)).toNatClampNeg), .int (E.2.1 (l3 + (3 : Int32)).toNatClampNeg), .int (E.2.1 (l3 + (4 : Int32)).toNatClampNeg), .int (E.2.1 (l3 + (5 : Int32)).toNatClampNeg)]) (rest := []) (L0 := [(0, .ref 60), (1, .int (E.2.1 (l3 + (1 : Int32)).toNatClampNeg)), (2, .int (E.2.1 (l3 + (2 : Int32)).toNatClampNeg)), (3, .int (E.2.1 (l3 + (3 : Int32)).toNatClampNeg)), (4, .int (E.2.1 (l3 + (4 : Int32)).toNatClampNeg)), (5, .int (E.2.1 (l3 + (5 : Int32)).toNatClampNeg))]) gL_law_1450.1 rfl rfl rfl rfl rfl (vok_v (ob_60 hE) rfl) rfl (r_dep (by decide) (e_X12_shift hE r121.2 (E.2.1 (l3 + (1 : Int32)).toNatClampNeg) (E.2.1 (l3 + (2 : Int32)).toNatClampNeg) (E.2.1 (l3 + (3 : Int32)).toNatClampNeg) (E.2.1 (l3 + (4 : Int32)).toNatClampNeg) (E.2.1 (l3 + (5 : Int32)).toNatClampNeg))) (fun r122 => ?_)
      refine r_pop gL_law_1450.2.1 rfl ?_
      refine r_goto (t := 1513) gL_law_1450.2.2.1 rfl ?_
      exact r_sub (L' := [(0, .retAddr 0), (1, .ref 0), (2, .ref 60), (3, .int l3)]) (sub_c rfl (sub_c rfl (sub_c rfl (sub_c rfl sub_n)))) (rb_L_law_1513 hE hrec_18 r122.2 l3)
    refine r_sw1 (fun h123 => ?_) (fun h123 => ?_)
    · refine r_jmp (t := 1457) dL_law_33 rfl (by rw [h123]; rfl) ?_
      refine r_aload_n (x := 0) gL_law_1450.2.2.2.1 rfl ?_
      refine r_roload_n (x := 0) gL_law_1450.2.2.2.2.1 rfl ?_
      refine r_iload_n (x := l3) gL_law_1450.2.2.2.2.2.1 rfl ?_
      refine r_iconst (v := (1 : Int32)) gL_law_1450.2.2.2.2.2.2.1 rfl ?_
      refine r_iadd gL_law_1450.2.2.2.2.2.2.2.1 ?_
      refine r_scload gL_law_1450.2.2.2.2.2.2.2.2.1 ?_
      refine r_roload_n (x := 0) gL_law_1450.2.2.2.2.2.2.2.2.2.1 rfl ?_
      refine r_iload_n (x := l3) gL_law_1450.2.2.2.2.2.2.2.2.2.2.1 rfl ?_
      refine r_iconst (v := (2 : Int32)) gL_law_1450.2.2.2.2.2.2.2.2.2.2.2.1 rfl ?_
      refine r_iadd gL_law_1450.2.2.2.2.2.2.2.2.2.2.2.2.1 ?_
      refine r_scload gL_law_1450.2.2.2.2.2.2.2.2.2.2.2.2.2.1 ?_
      refine r_calli (k := 0) (idx := 183) (y := 186) (as := [.ref 0, .int (E.2.1 (l3 + (1 : Int32)).toNatClampNeg), .int (E.2.1 (l3 + (2 : Int32)).toNatClampNeg)]) (rest := []) (L0 := [(0, .ref 0), (1, .int (E.2.1 (l3 + (1 : Int32)).toNatClampNeg)), (2, .int (E.2.1 (l3 + (2 : Int32)).toNatClampNeg))]) gL_law_1450.2.2.2.2.2.2.2.2.2.2.2.2.2.2.1 rfl rfl rfl rfl rfl (vok_v (ob_0 hE) rfl) rfl (r_dep (by decide) (e_X11_taken hE q (E.2.1 (l3 + (1 : Int32)).toNatClampNeg) (E.2.1 (l3 + (2 : Int32)).toNatClampNeg))) (fun r124 => ?_)
      refine r_pop gL_law_1450.2.2.2.2.2.2.2.2.2.2.2.2.2.2.2.1 rfl ?_
      refine r_aload_n (x := 60) gL_law_1472.1 rfl ?_
      refine r_roload_n (x := 0) gL_law_1472.2.1 rfl ?_
      refine r_iload_n (x := l3) gL_law_1472.2.2.1 rfl ?_
      refine r_iconst (v := (1 : Int32)) gL_law_1472.2.2.2.1 rfl ?_
      refine r_iadd gL_law_1472.2.2.2.2.1 ?_
      refine r_scload gL_law_1472.2.2.2.2.2.1 ?_
      refine r_roload_n (x := 0) gL_law_1472.2.2.2.2.2.2.1 rfl ?_
      refine r_iload_n (x := l3) gL_law_1472.2.2.2.2.2.2.2.1 rfl ?_
      refine r_iconst (v := (2 : Int32)) gL_law_1472.2.2.2.2.2.2.2.2.1 rfl ?_
      refine r_iadd gL_law_1472.2.2.2.2.2.2.2.2.2.1 ?_
      refine r_scload gL_law_1472.2.2.2.2.2.2.2.2.2.2.1 ?_
      refine r_calli (k := 0) (idx := 186) (y := 295) (as := [.ref 60, .int (E.2.1 (l3 + (1 : Int32)).toNatClampNeg), .int (E.2.1 (l3 + (2 : Int32)).toNatClampNeg)]) (rest := []) (L0 := [(0, .ref 60), (1, .int (E.2.1 (l3 + (1 : Int32)).toNatClampNeg)), (2, .int (E.2.1 (l3 + (2 : Int32)).toNatClampNeg))]) gL_law_1472.2.2.2.2.2.2.2.2.2.2.2.1 rfl rfl rfl rfl rfl (vok_v (ob_60 hE) rfl) rfl (r_dep (by decide) (e_X12_taken hE q (E.2.1 (l3 + (1 : Int32)).toNatClampNeg) (E.2.1 (l3 + (2 : Int32)).toNatClampNeg))) (fun r125 => ?_)
      refine r_pop gL_law_1472.2.2.2.2.2.2.2.2.2.2.2.2.1 rfl ?_
      refine r_goto (t := 1513) gL_law_1472.2.2.2.2.2.2.2.2.2.2.2.2.2.1 rfl ?_
      exact r_sub (L' := [(0, .retAddr 0), (1, .ref 0), (2, .ref 60), (3, .int l3)]) (sub_c rfl (sub_c rfl (sub_c rfl (sub_c rfl sub_n)))) (rb_L_law_1513 hE hrec_18 q l3)
    refine r_sw1 (fun h126 => ?_) (fun h126 => ?_)
    · refine r_jmp (t := 1490) dL_law_33 rfl (by rw [h126]; rfl) ?_
      refine r_aload_n (x := 0) gL_law_1472.2.2.2.2.2.2.2.2.2.2.2.2.2.2.1 rfl ?_
      refine r_roload_n (x := 0) gL_law_1472.2.2.2.2.2.2.2.2.2.2.2.2.2.2.2.1 rfl ?_
      refine r_iload_n (x := l3) gL_law_1492.1 rfl ?_
      refine r_iconst (v := (1 : Int32)) gL_law_1492.2.1 rfl ?_
      refine r_iadd gL_law_1492.2.2.1 ?_
      refine r_scload gL_law_1492.2.2.2.1 ?_
      refine r_calli (k := 0) (idx := 187) (y := 187) (as := [.ref 0, .int (E.2.1 (l3 + (1 : Int32)).toNatClampNeg)]) (rest := []) (L0 := [(0, .ref 0), (1, .int (E.2.1 (l3 + (1 : Int32)).toNatClampNeg))]) gL_law_1492.2.2.2.2.1 rfl rfl rfl rfl rfl (vok_v (ob_0 hE) rfl) rfl (r_dep (by decide) (e_X11_count hE q (E.2.1 (l3 + (1 : Int32)).toNatClampNeg))) (fun r127 => ?_)
      refine r_pop gL_law_1492.2.2.2.2.2.1 rfl ?_
      refine r_aload_n (x := 60) gL_law_1492.2.2.2.2.2.2.1 rfl ?_
      refine r_roload_n (x := 0) gL_law_1492.2.2.2.2.2.2.2.1 rfl ?_
      refine r_iload_n (x := l3) gL_law_1492.2.2.2.2.2.2.2.2.1 rfl ?_
      refine r_iconst (v := (1 : Int32)) gL_law_1492.2.2.2.2.2.2.2.2.2.1 rfl ?_
      refine r_iadd gL_law_1492.2.2.2.2.2.2.2.2.2.2.1 ?_
      refine r_scload gL_law_1492.2.2.2.2.2.2.2.2.2.2.2.1 ?_
      refine r_calli (k := 0) (idx := 190) (y := 287) (as := [.ref 60, .int (E.2.1 (l3 + (1 : Int32)).toNatClampNeg)]) (rest := []) (L0 := [(0, .ref 60), (1, .int (E.2.1 (l3 + (1 : Int32)).toNatClampNeg))]) gL_law_1492.2.2.2.2.2.2.2.2.2.2.2.2.1 rfl rfl rfl rfl rfl (vok_v (ob_60 hE) rfl) rfl (r_dep (by decide) (e_X12_count hE q (E.2.1 (l3 + (1 : Int32)).toNatClampNeg))) (fun r128 => ?_)
      refine r_pop gL_law_1492.2.2.2.2.2.2.2.2.2.2.2.2.2.1 rfl ?_
      refine r_goto (t := 1513) gL_law_1492.2.2.2.2.2.2.2.2.2.2.2.2.2.2.1 rfl ?_
      exact r_sub (L' := [(0, .retAddr 0), (1, .ref 0), (2, .ref 60), (3, .int l3)]) (sub_c rfl (sub_c rfl (sub_c rfl (sub_c rfl sub_n)))) (rb_L_law_1513 hE hrec_18 q l3)
    refine r_jmp (t := 1513) dL_law_33 rfl ?_ ?_
    · have h129 := sw_lo (v := v1.toInt) 0
      have h129 := sw_st h129 h2
      have h129 := sw_st h129 h5
      have h129 := sw_st h129 h8
      have h129 := sw_st h129 h11
      have h129 := sw_st h129 h14
      have h129 := sw_st h129 h17
      have h129 := sw_st h129 h20
      have h129 := sw_st h129 h23
      have h129 := sw_st h129 h26
      have h129 := sw_st h129 h29
      have h129 := sw_st h129 h32
      have h129 := sw_st h129 h35
      have h129 := sw_st h129 h38
      have h129 := sw_st h129 h41
      have h129 := sw_st h129 h44
      have h129 := sw_st h129 h47
      have h129 := sw_st h129 h50
      have h129 := sw_st h129 h53
      have h129 := sw_st h129 h56
      have h129 := sw_st h129 h59
      have h129 := sw_st h129 h62
      have h129 := sw_st h129 h65
      have h129 := sw_st h129 h68
      have h129 := sw_st h129 h71
      have h129 := sw_st h129 h74
      have h129 := sw_st h129 h77
      have h129 := sw_st h129 h80
      have h129 := sw_st h129 h83
      have h129 := sw_st h129 h86
      have h129 := sw_st h129 h89
      have h129 := sw_st h129 h92
      have h129 := sw_st h129 h95
      have h129 := sw_st h129 h98
      have h129 := sw_st h129 h101
      have h129 := sw_st h129 h104
      have h129 := sw_st h129 h107
      have h129 := sw_st h129 h110
      have h129 := sw_st h129 h113
      have h129 := sw_st h129 h116
      have h129 := sw_st h129 h120
      have h129 := sw_st h129 h123
      have h129 := sw_st h129 h126
      exact sw_df h129 (by decide) rfl
    exact r_sub (L' := [(0, .retAddr 0), (1, .ref 0), (2, .ref 60), (3, .int l3)]) (sub_c rfl (sub_c rfl (sub_c rfl (sub_c rfl sub_n)))) (rb_L_law_1513 hE hrec_18 q l3)
def f_L_law (Ls : Nat) (xs : Nat → Int32) (q : SS) (a3 : Int32) : Option (Int32 × SS) :=
  b_L_law_18 Ls xs q a3
theorem e_L_law {E : EE} (hE : GE E) (q : SS) (a3 : Int32) : R E (κI E) 906 NM 18 [(0, .retAddr 0), (1, .ref 0), (2, .ref 60), (3, .int a3)] [] q (f_L_law E.1 E.2.1 q a3) := by
  unfold f_L_law
  exact r_sub (L' := [(0, .retAddr 0), (1, .ref 0), (2, .ref 60), (3, .int a3)]) (sub_c rfl (sub_c rfl (sub_c rfl (sub_c rfl sub_n)))) (rb_L_law_18 hE q a3)

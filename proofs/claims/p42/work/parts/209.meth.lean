def f_X12_king (q : SS) (a1 : Int32) (a2 : Int32) : Option (Int64 × SS) :=
  (f_X12_isOne q a1).bind fun r1 =>
  if r1 = 0 then
  (some ((-9223372036854775808 : Int64), q))
  else
  ((f_X12_in q a2 (0 : Int32) (1 : Int32)).bind fun r2 =>
  if r2 = 0 then
  (some ((-9223372036854775808 : Int64), q))
  else
  ((f_X12_layNow q).bind fun r3 =>
  (f_X12_realOf r3 a1).bind fun r4 =>
  (f_X12_allReal r3).bind fun r5 =>
  (f_X12_lowest r3 (r4.toInt64) (r5.toInt64) a2).bind fun r6 =>
  some (r6, r3)))
theorem e_X12_king {E : EE} (hE : GE E) (q : SS) (a1 : Int32) (a2 : Int32) : R E (κL E) 2 244 0 [(0, .ref 60), (1, .int a1), (2, .int a2)] [] q (f_X12_king q a1 a2) := by
  unfold f_X12_king
  refine r_aload_n (x := 60) dX12_king_0 rfl ?_
  refine r_iload_n (x := a1) dX12_king_1 rfl ?_
  refine r_calli (k := 0) (idx := 125) (y := 191) (as := [.ref 60, .int a1]) (rest := []) (L0 := [(0, .ref 60), (1, .int a1)]) dX12_king_2 rfl rfl rfl rfl rfl (vok_v (ob_60 hE) rfl) rfl (r_dep (by decide) (e_X12_isOne hE q a1)) (fun r1 => ?_)
  refine r_if_eq (t := 17) dX12_king_5 rfl (fun h8 => ?_) (fun h8 => ?_)
  · refine r_ldc2 (v := (-9223372036854775808 : Int64)) dX12_king_17 rfl ?_
    exact r_lreturn dX12_king_20 rfl rfl
  · refine r_iload_n (x := a2) dX12_king_8 rfl ?_
    refine r_iconst (v := (0 : Int32)) dX12_king_9 rfl ?_
    refine r_iconst (v := (1 : Int32)) dX12_king_10 rfl ?_
    refine r_calli (k := 2) (idx := 118) (y := 189) (as := [.int a2, .int (0 : Int32), .int (1 : Int32)]) (rest := []) (L0 := [(0, .int a2), (1, .int (0 : Int32)), (2, .int (1 : Int32))]) dX12_king_11 rfl rfl rfl rfl rfl vok_s rfl (r_dep (by decide) (e_X12_in hE q a2 (0 : Int32) (1 : Int32))) (fun r2 => ?_)
    refine r_if_ne (t := 21) dX12_king_14 rfl (fun h7 => ?_) (fun h7 => ?_)
    · refine r_ldc2 (v := (-9223372036854775808 : Int64)) dX12_king_17 rfl ?_
      exact r_lreturn dX12_king_20 rfl rfl
    · refine r_aload_n (x := 60) dX12_king_21 rfl ?_
      refine r_callV (k := 0) (idx := 168) (y := 226) (as := [.ref 60]) (rest := []) (L0 := [(0, .ref 60)]) dX12_king_22 rfl rfl rfl rfl rfl (vok_v (ob_60 hE) rfl) rfl (r_dep (by decide) (e_X12_layNow hE q)) (fun r3 => ?_)
      refine r_aload_n (x := 60) dX12_king_25 rfl ?_
      refine r_iload_n (x := a1) dX12_king_26 rfl ?_
      refine r_calli (k := 0) (idx := 175) (y := 228) (as := [.ref 60, .int a1]) (rest := []) (L0 := [(0, .ref 60), (1, .int a1)]) dX12_king_27 rfl rfl rfl rfl rfl (vok_v (ob_60 hE) rfl) rfl (r_dep (by decide) (e_X12_realOf hE r3 a1)) (fun r4 => ?_)
      refine r_i2l dX12_king_30 ?_
      refine r_aload_n (x := 60) dX12_king_31 rfl ?_
      refine r_calli (k := 0) (idx := 292) (y := 229) (as := [.ref 60]) (rest := [.long (r4.toInt64)]) (L0 := [(0, .ref 60)]) dX12_king_32 rfl rfl rfl rfl rfl (vok_v (ob_60 hE) rfl) rfl (r_dep (by decide) (e_X12_allReal hE r3)) (fun r5 => ?_)
      refine r_i2l dX12_king_35 ?_
      refine r_iload_n (x := a2) dX12_king_36 rfl ?_
      refine r_calll (k := 2) (idx := 288) (y := 241) (as := [.long (r4.toInt64), .long (r5.toInt64), .int a2]) (rest := []) (L0 := [(0, .long (r4.toInt64)), (2, .long (r5.toInt64)), (4, .int a2)]) dX12_king_37 rfl rfl rfl rfl rfl vok_s rfl (r_dep (by decide) (e_X12_lowest hE r3 (r4.toInt64) (r5.toInt64) a2)) (fun r6 => ?_)
      exact r_lreturn dX12_king_40 rfl rfl
def b_X2_weighStep_37 (q : SS) (l1 : Int32) (l2 : Int32) (s0 : Int64) (s1 : Int64) : Option SS :=
  nm (sL q 37 6 (s1 * s0)) fun q4 =>
  nm (sL q4 37 7 ((q4.2 37 7) * (12 : Int64))) fun q5 =>
  if l2 = 0 then
  (some q5)
  else
  ((f_X2_ticketAt q5 l1).bind fun r6 =>
  (f_X2_toAt q5 l1).bind fun r7 =>
  (f_X8_give q5 r6 r7).bind fun r8 =>
  some r8)
theorem rb_X2_weighStep_37 {E : EE} (hE : GE E) (q : SS) (l1 : Int32) (l2 : Int32) (s0 : Int64) (s1 : Int64) : R E (κV E) 5 25 37 [(0, .ref 37), (1, .int l1), (2, .int l2)] [.long s0, .long s1, .ref 37] q (b_X2_weighStep_37 q l1 l2 s0 s1) := by
  unfold b_X2_weighStep_37
  refine r_lmul dX2_weighStep_37 ?_
  refine r_putL dX2_weighStep_38 (ff_2_60_37 hE) ?_
  refine r_nmS fun q4 _ => ?_
  refine r_aload_n (x := 37) dX2_weighStep_41 rfl ?_
  refine r_dup dX2_weighStep_42 rfl ?_
  refine r_getL dX2_weighStep_43 (ff_2_64_37 hE) ?_
  refine r_ldc2 (v := (12 : Int64)) dX2_weighStep_46 rfl ?_
  refine r_lmul dX2_weighStep_49 ?_
  refine r_putL dX2_weighStep_50 (ff_2_64_37 hE) ?_
  refine r_nmS fun q5 _ => ?_
  refine r_iload_n (x := l2) dX2_weighStep_53 rfl ?_
  refine r_if_eq (t := 74) dX2_weighStep_54 rfl (fun h9 => ?_) (fun h9 => ?_)
  · exact r_return dX2_weighStep_74 rfl rfl
  · refine r_aload_n (x := 37) dX2_weighStep_57 rfl ?_
    refine r_getA dX2_weighStep_58 (fa_2_15_37 hE) ?_
    refine r_aload_n (x := 37) dX2_weighStep_61 rfl ?_
    refine r_iload_n (x := l1) dX2_weighStep_62 rfl ?_
    refine r_calli (k := 0) (idx := 67) (y := 16) (as := [.ref 37, .int l1]) (rest := [.ref 24]) (L0 := [(0, .ref 37), (1, .int l1)]) dX2_weighStep_63 rfl rfl rfl rfl rfl (vok_v (ob_37 hE) rfl) rfl (r_dep (by decide) (e_X2_ticketAt hE q5 l1)) (fun r6 => ?_)
    refine r_aload_n (x := 37) dX2_weighStep_66 rfl ?_
    refine r_iload_n (x := l1) dX2_weighStep_67 rfl ?_
    refine r_calli (k := 0) (idx := 70) (y := 17) (as := [.ref 37, .int l1]) (rest := [.int r6, .ref 24]) (L0 := [(0, .ref 37), (1, .int l1)]) dX2_weighStep_68 rfl rfl rfl rfl rfl (vok_v (ob_37 hE) rfl) rfl (r_dep (by decide) (e_X2_toAt hE q5 l1)) (fun r7 => ?_)
    refine r_callV (k := 0) (idx := 80) (y := 99) (as := [.ref 24, .int r6, .int r7]) (rest := []) (L0 := [(0, .ref 24), (1, .int r6), (2, .int r7)]) dX2_weighStep_71 rfl rfl rfl rfl rfl (vok_v (ob_24 hE) rfl) rfl (r_dep (by decide) (e_X8_give hE q5 r6 r7)) (fun r8 => ?_)
    exact r_return dX2_weighStep_74 rfl rfl
def f_X2_weighStep (q : SS) (a1 : Int32) (a2 : Int32) : Option SS :=
  (f_X2_ticketAt q a1).bind fun r1 =>
  (f_X2_toAt q a1).bind fun r2 =>
  (f_X8_oddsOf q r1 r2).bind fun r3 =>
  if a2 = 0 then
  (b_X2_weighStep_37 r3.2 a1 a2 (((12 : Int32) - r3.1).toInt64) (r3.2.2 37 6))
  else
  (b_X2_weighStep_37 r3.2 a1 a2 (r3.1.toInt64) (r3.2.2 37 6))
theorem e_X2_weighStep {E : EE} (hE : GE E) (q : SS) (a1 : Int32) (a2 : Int32) : R E (κV E) 5 25 0 [(0, .ref 37), (1, .int a1), (2, .int a2)] [] q (f_X2_weighStep q a1 a2) := by
  unfold f_X2_weighStep
  refine r_aload_n (x := 37) dX2_weighStep_0 rfl ?_
  refine r_getA dX2_weighStep_1 (fa_2_15_37 hE) ?_
  refine r_aload_n (x := 37) dX2_weighStep_4 rfl ?_
  refine r_iload_n (x := a1) dX2_weighStep_5 rfl ?_
  refine r_calli (k := 0) (idx := 67) (y := 16) (as := [.ref 37, .int a1]) (rest := [.ref 24]) (L0 := [(0, .ref 37), (1, .int a1)]) dX2_weighStep_6 rfl rfl rfl rfl rfl (vok_v (ob_37 hE) rfl) rfl (r_dep (by decide) (e_X2_ticketAt hE q a1)) (fun r1 => ?_)
  refine r_aload_n (x := 37) dX2_weighStep_9 rfl ?_
  refine r_iload_n (x := a1) dX2_weighStep_10 rfl ?_
  refine r_calli (k := 0) (idx := 70) (y := 17) (as := [.ref 37, .int a1]) (rest := [.int r1, .ref 24]) (L0 := [(0, .ref 37), (1, .int a1)]) dX2_weighStep_11 rfl rfl rfl rfl rfl (vok_v (ob_37 hE) rfl) rfl (r_dep (by decide) (e_X2_toAt hE q a1)) (fun r2 => ?_)
  refine r_callI (k := 0) (idx := 77) (y := 109) (as := [.ref 24, .int r1, .int r2]) (rest := []) (L0 := [(0, .ref 24), (1, .int r1), (2, .int r2)]) dX2_weighStep_14 rfl rfl rfl rfl rfl (vok_v (ob_24 hE) rfl) rfl (r_dep (by decide) (e_X8_oddsOf hE q r1 r2)) (fun r3 => ?_)
  refine r_istore_n (L2 := [(0, .ref 37), (1, .int a1), (2, .int a2), (3, .int r3.1)]) dX2_weighStep_17 rfl rfl ?_
  refine r_aload_n (x := 37) dX2_weighStep_18 rfl ?_
  refine r_dup dX2_weighStep_19 rfl ?_
  refine r_getL dX2_weighStep_20 (ff_2_60_37 hE) ?_
  refine r_iload_n (x := a2) dX2_weighStep_23 rfl ?_
  refine r_if_eq (t := 32) dX2_weighStep_24 rfl (fun h10 => ?_) (fun h10 => ?_)
  · refine r_bipush (v := (12 : Int32)) dX2_weighStep_32 rfl ?_
    refine r_iload_n (x := r3.1) dX2_weighStep_34 rfl ?_
    refine r_isub dX2_weighStep_35 ?_
    refine r_i2l dX2_weighStep_36 ?_
    exact r_sub (L' := [(0, .ref 37), (1, .int a1), (2, .int a2)]) (sub_c rfl (sub_c rfl (sub_c rfl sub_n))) (rb_X2_weighStep_37 hE r3.2 a1 a2 (((12 : Int32) - r3.1).toInt64) (r3.2.2 37 6))
  · refine r_iload_n (x := r3.1) dX2_weighStep_27 rfl ?_
    refine r_i2l dX2_weighStep_28 ?_
    refine r_goto (t := 37) dX2_weighStep_29 rfl ?_
    exact r_sub (L' := [(0, .ref 37), (1, .int a1), (2, .int a2)]) (sub_c rfl (sub_c rfl (sub_c rfl sub_n))) (rb_X2_weighStep_37 hE r3.2 a1 a2 (r3.1.toInt64) (r3.2.2 37 6))
def b_X2_weighAllThatCan_46 (rec_12 : SS → Int32 → Option SS) (q : SS) (l1 : Int32) : Option SS :=
  rec_12 q (l1 + (1 : Int32))
theorem rb_X2_weighAllThatCan_46 {E : EE} (hE : GE E) {rec_12 : SS → Int32 → Option SS} (hrec_12 : ∀ (yq : SS) (yl1 : Int32), R E (κV E) 6 24 12 [(0, .ref 37), (1, .int yl1)] [] yq (rec_12 yq yl1)) (q : SS) (l1 : Int32) : R E (κV E) 6 24 46 [(0, .ref 37), (1, .int l1)] [] q (b_X2_weighAllThatCan_46 rec_12 q l1) := by
  unfold b_X2_weighAllThatCan_46
  refine r_iinc (x := l1) (v := (l1 + (1 : Int32))) (L2 := [(0, .ref 37), (1, .int (l1 + (1 : Int32)))]) dX2_weighAllThatCan_46 rfl rfl rfl rfl ?_
  refine r_goto (t := 12) dX2_weighAllThatCan_49 rfl ?_
  exact r_sub (L' := [(0, .ref 37), (1, .int (l1 + (1 : Int32)))]) (sub_c rfl (sub_c rfl sub_n)) (hrec_12 q (l1 + (1 : Int32)))
def b_X2_weighAllThatCan_12 : SS → Int32 → Option SS :=
  fx2 (fun (rec_12 : SS → Int32 → Option SS) (q : SS) (l1 : Int32) =>
  if (q.1 37 3) ≤ l1 then
  (some q)
  else
  ((f_X2_ticketAt q l1).bind fun r3 =>
  (f_X2_toAt q l1).bind fun r4 =>
  (f_X8_canSlip q r3 r4).bind fun r5 =>
  if r5 = 0 then
  (b_X2_weighAllThatCan_46 rec_12 q l1)
  else
  ((f_X2_weighStep q l1 (1 : Int32)).bind fun r6 =>
  b_X2_weighAllThatCan_46 rec_12 r6 l1))) FU
theorem rb_X2_weighAllThatCan_12 {E : EE} (hE : GE E) (q : SS) (l1 : Int32) : R E (κV E) 6 24 12 [(0, .ref 37), (1, .int l1)] [] q (b_X2_weighAllThatCan_12 q l1) := by
  unfold b_X2_weighAllThatCan_12
  refine fx2_ok (P := fun q l1 o => R E (κV E) 6 24 12 [(0, .ref 37), (1, .int l1)] [] q o) (fun _ _ => r_no) (fun rec_12 hrec_12 q l1 => ?_) _ _ _
  refine r_iload_n (x := l1) dX2_weighAllThatCan_12 rfl ?_
  refine r_aload_n (x := 37) dX2_weighAllThatCan_13 rfl ?_
  refine r_getI dX2_weighAllThatCan_14 (ff_2_40_37 hE) (by decide) ?_
  refine r_icmp_ge (t := 52) dX2_weighAllThatCan_17 rfl (fun h8 => ?_) (fun h8 => ?_)
  · exact r_return dX2_weighAllThatCan_52 rfl rfl
  · refine r_aload_n (x := 37) dX2_weighAllThatCan_20 rfl ?_
    refine r_getA dX2_weighAllThatCan_21 (fa_2_15_37 hE) ?_
    refine r_aload_n (x := 37) dX2_weighAllThatCan_24 rfl ?_
    refine r_iload_n (x := l1) dX2_weighAllThatCan_25 rfl ?_
    refine r_calli (k := 0) (idx := 67) (y := 16) (as := [.ref 37, .int l1]) (rest := [.ref 24]) (L0 := [(0, .ref 37), (1, .int l1)]) dX2_weighAllThatCan_26 rfl rfl rfl rfl rfl (vok_v (ob_37 hE) rfl) rfl (r_dep (by decide) (e_X2_ticketAt hE q l1)) (fun r3 => ?_)
    refine r_aload_n (x := 37) dX2_weighAllThatCan_29 rfl ?_
    refine r_iload_n (x := l1) dX2_weighAllThatCan_30 rfl ?_
    refine r_calli (k := 0) (idx := 70) (y := 17) (as := [.ref 37, .int l1]) (rest := [.int r3, .ref 24]) (L0 := [(0, .ref 37), (1, .int l1)]) dX2_weighAllThatCan_31 rfl rfl rfl rfl rfl (vok_v (ob_37 hE) rfl) rfl (r_dep (by decide) (e_X2_toAt hE q l1)) (fun r4 => ?_)
    refine r_calli (k := 0) (idx := 73) (y := 107) (as := [.ref 24, .int r3, .int r4]) (rest := []) (L0 := [(0, .ref 24), (1, .int r3), (2, .int r4)]) dX2_weighAllThatCan_34 rfl rfl rfl rfl rfl (vok_v (ob_24 hE) rfl) rfl (r_dep (by decide) (e_X8_canSlip hE q r3 r4)) (fun r5 => ?_)
    refine r_if_eq (t := 46) dX2_weighAllThatCan_37 rfl (fun h7 => ?_) (fun h7 => ?_)
    · exact r_sub (L' := [(0, .ref 37), (1, .int l1)]) (sub_c rfl (sub_c rfl sub_n)) (rb_X2_weighAllThatCan_46 hE hrec_12 q l1)
    · refine r_aload_n (x := 37) dX2_weighAllThatCan_40 rfl ?_
      refine r_iload_n (x := l1) dX2_weighAllThatCan_41 rfl ?_
      refine r_iconst (v := (1 : Int32)) dX2_weighAllThatCan_42 rfl ?_
      refine r_callV (k := 0) (idx := 84) (y := 25) (as := [.ref 37, .int l1, .int (1 : Int32)]) (rest := []) (L0 := [(0, .ref 37), (1, .int l1), (2, .int (1 : Int32))]) dX2_weighAllThatCan_43 rfl rfl rfl rfl rfl (vok_v (ob_37 hE) rfl) rfl (r_dep (by decide) (e_X2_weighStep hE q l1 (1 : Int32))) (fun r6 => ?_)
      exact r_sub (L' := [(0, .ref 37), (1, .int l1)]) (sub_c rfl (sub_c rfl sub_n)) (rb_X2_weighAllThatCan_46 hE hrec_12 r6 l1)
def f_X2_weighAllThatCan (q : SS)  : Option SS :=
  nm (sL q 37 6 (1 : Int64)) fun q1 =>
  nm (sL q1 37 7 (1 : Int64)) fun q2 =>
  b_X2_weighAllThatCan_12 q2 (0 : Int32)
theorem e_X2_weighAllThatCan {E : EE} (hE : GE E) (q : SS)  : R E (κV E) 6 24 0 [(0, .ref 37)] [] q (f_X2_weighAllThatCan q) := by
  unfold f_X2_weighAllThatCan
  refine r_aload_n (x := 37) dX2_weighAllThatCan_0 rfl ?_
  refine r_lconst (v := (1 : Int64)) dX2_weighAllThatCan_1 rfl ?_
  refine r_putL dX2_weighAllThatCan_2 (ff_2_60_37 hE) ?_
  refine r_nmS fun q1 _ => ?_
  refine r_aload_n (x := 37) dX2_weighAllThatCan_5 rfl ?_
  refine r_lconst (v := (1 : Int64)) dX2_weighAllThatCan_6 rfl ?_
  refine r_putL dX2_weighAllThatCan_7 (ff_2_64_37 hE) ?_
  refine r_nmS fun q2 _ => ?_
  refine r_iconst (v := (0 : Int32)) dX2_weighAllThatCan_10 rfl ?_
  refine r_istore_n (L2 := [(0, .ref 37), (1, .int (0 : Int32))]) dX2_weighAllThatCan_11 rfl rfl ?_
  exact r_sub (L' := [(0, .ref 37), (1, .int (0 : Int32))]) (sub_c rfl (sub_c rfl sub_n)) (rb_X2_weighAllThatCan_12 hE q2 (0 : Int32))
def f_X2_above (q : SS)  : Option Int64 :=
  some (q.2 37 6)
theorem e_X2_above {E : EE} (hE : GE E) (q : SS)  : R E (κl E q) 0 20 0 [(0, .ref 37)] [] q (f_X2_above q) := by
  unfold f_X2_above
  refine r_aload_n (x := 37) dX2_above_0 rfl ?_
  refine r_getL dX2_above_1 (ff_2_60_37 hE) ?_
  exact r_lreturn dX2_above_4 rfl rfl
def f_X2_below (q : SS)  : Option Int64 :=
  some (q.2 37 7)
theorem e_X2_below {E : EE} (hE : GE E) (q : SS)  : R E (κl E q) 0 21 0 [(0, .ref 37)] [] q (f_X2_below q) := by
  unfold f_X2_below
  refine r_aload_n (x := 37) dX2_below_0 rfl ?_
  refine r_getL dX2_below_1 (ff_2_64_37 hE) ?_
  exact r_lreturn dX2_below_4 rfl rfl
def f_X11_all (q : SS) (a1 : Int32) (a2 : Int32) : Option (Int64 × SS) :=
  (f_X7_refusalOfBytes q a1).bind fun r1 =>
  if r1 = 0 then
  ((f_X11_isPart q a2).bind fun r2 =>
  if r2 = 0 then
  (some ((-9223372036854775808 : Int64), q))
  else
  ((f_X2_begin q a1).bind fun r3 =>
  (f_X2_weighAllThatCan r3).bind fun r4 =>
  (f_X2_above r4).bind fun r5 =>
  (f_X2_below r4).bind fun r6 =>
  (f_X11_partOf r4 r5 r6 a2).bind fun r7 =>
  some (r7, r4)))
  else
  (some ((-9223372036854775808 : Int64), q))
theorem e_X11_all {E : EE} (hE : GE E) (q : SS) (a1 : Int32) (a2 : Int32) : R E (κL E) 7 152 0 [(0, .ref 0), (1, .int a1), (2, .int a2)] [] q (f_X11_all q a1 a2) := by
  unfold f_X11_all
  refine r_aload_n (x := 0) dX11_all_0 rfl ?_
  refine r_getA dX11_all_1 (fa_11_42_0 hE) ?_
  refine r_iload_n (x := a1) dX11_all_4 rfl ?_
  refine r_calli (k := 0) (idx := 110) (y := 85) (as := [.ref 26, .int a1]) (rest := []) (L0 := [(0, .ref 26), (1, .int a1)]) dX11_all_5 rfl rfl rfl rfl rfl (vok_v (ob_26 hE) rfl) rfl (r_dep (by decide) (e_X7_refusalOfBytes hE q a1)) (fun r1 => ?_)
  refine r_if_ne (t := 18) dX11_all_8 rfl (fun h9 => ?_) (fun h9 => ?_)
  · refine r_iload_n (x := a2) dX11_all_11 rfl ?_
    refine r_calli (k := 2) (idx := 199) (y := 153) (as := [.int a2]) (rest := []) (L0 := [(0, .int a2)]) dX11_all_12 rfl rfl rfl rfl rfl vok_s rfl (r_dep (by decide) (e_X11_isPart hE q a2)) (fun r2 => ?_)
    refine r_if_ne (t := 22) dX11_all_15 rfl (fun h8 => ?_) (fun h8 => ?_)
    · refine r_ldc2 (v := (-9223372036854775808 : Int64)) dX11_all_18 rfl ?_
      exact r_lreturn dX11_all_21 rfl rfl
    · refine r_aload_n (x := 0) dX11_all_22 rfl ?_
      refine r_getA dX11_all_23 (fa_11_51_0 hE) ?_
      refine r_aload_n (x := 0) dX11_all_26 rfl ?_
      refine r_getA dX11_all_27 (fa_11_42_0 hE) ?_
      refine r_iload_n (x := a1) dX11_all_30 rfl ?_
      refine r_callV (k := 0) (idx := 183) (y := 14) (as := [.ref 37, .ref 26, .int a1]) (rest := []) (L0 := [(0, .ref 37), (1, .ref 26), (2, .int a1)]) dX11_all_31 rfl rfl rfl rfl rfl (vok_v (ob_37 hE) rfl) rfl (r_dep (by decide) (e_X2_begin hE q a1)) (fun r3 => ?_)
      refine r_aload_n (x := 0) dX11_all_34 rfl ?_
      refine r_getA dX11_all_35 (fa_11_51_0 hE) ?_
      refine r_callV (k := 0) (idx := 220) (y := 24) (as := [.ref 37]) (rest := []) (L0 := [(0, .ref 37)]) dX11_all_38 rfl rfl rfl rfl rfl (vok_v (ob_37 hE) rfl) rfl (r_dep (by decide) (e_X2_weighAllThatCan hE r3)) (fun r4 => ?_)
      refine r_aload_n (x := 0) dX11_all_41 rfl ?_
      refine r_getA dX11_all_42 (fa_11_51_0 hE) ?_
      refine r_calll (k := 0) (idx := 209) (y := 20) (as := [.ref 37]) (rest := []) (L0 := [(0, .ref 37)]) dX11_all_45 rfl rfl rfl rfl rfl (vok_v (ob_37 hE) rfl) rfl (r_dep (by decide) (e_X2_above hE r4)) (fun r5 => ?_)
      refine r_aload_n (x := 0) dX11_all_48 rfl ?_
      refine r_getA dX11_all_49 (fa_11_51_0 hE) ?_
      refine r_calll (k := 0) (idx := 213) (y := 21) (as := [.ref 37]) (rest := [.long r5]) (L0 := [(0, .ref 37)]) dX11_all_52 rfl rfl rfl rfl rfl (vok_v (ob_37 hE) rfl) rfl (r_dep (by decide) (e_X2_below hE r4)) (fun r6 => ?_)
      refine r_iload_n (x := a2) dX11_all_55 rfl ?_
      refine r_calll (k := 2) (idx := 216) (y := 154) (as := [.long r5, .long r6, .int a2]) (rest := []) (L0 := [(0, .long r5), (2, .long r6), (4, .int a2)]) dX11_all_56 rfl rfl rfl rfl rfl vok_s rfl (r_dep (by decide) (e_X11_partOf hE r4 r5 r6 a2)) (fun r7 => ?_)
      exact r_lreturn dX11_all_59 rfl rfl
  · refine r_ldc2 (v := (-9223372036854775808 : Int64)) dX11_all_18 rfl ?_
    exact r_lreturn dX11_all_21 rfl rfl
def b_X12_all_124 (rec_49 : SS → Int32 → Int32 → Int32 → Int64 → Int64 → Int32 → Option (Int64 × SS)) (q : SS) (l1 : Int32) (l2 : Int32) (l3 : Int32) (l4 : Int64) (l6 : Int64) (l8 : Int32) : Option (Int64 × SS) :=
  rec_49 q l1 l2 l3 l4 l6 (l8 + (1 : Int32))
theorem rb_X12_all_124 {E : EE} (hE : GE E) {rec_49 : SS → Int32 → Int32 → Int32 → Int64 → Int64 → Int32 → Option (Int64 × SS)} (hrec_49 : ∀ (yq : SS) (yl1 : Int32) (yl2 : Int32) (yl3 : Int32) (yl4 : Int64) (yl6 : Int64) (yl8 : Int32), R E (κL E) 4 243 49 [(0, .ref 60), (1, .int yl1), (2, .int yl2), (3, .int yl3), (4, .long yl4), (6, .long yl6), (8, .int yl8)] [] yq (rec_49 yq yl1 yl2 yl3 yl4 yl6 yl8)) (q : SS) (l1 : Int32) (l2 : Int32) (l3 : Int32) (l4 : Int64) (l6 : Int64) (l8 : Int32) : R E (κL E) 4 243 124 [(0, .ref 60), (1, .int l1), (2, .int l2), (3, .int l3), (4, .long l4), (6, .long l6), (8, .int l8)] [] q (b_X12_all_124 rec_49 q l1 l2 l3 l4 l6 l8) := by
  unfold b_X12_all_124
  refine r_iinc (x := l8) (v := (l8 + (1 : Int32))) (L2 := [(0, .ref 60), (1, .int l1), (2, .int l2), (3, .int l3), (4, .long l4), (6, .long l6), (8, .int (l8 + (1 : Int32)))]) dX12_all_124 rfl rfl rfl rfl ?_
  refine r_goto (t := 49) dX12_all_127 rfl ?_
  exact r_sub (L' := [(0, .ref 60), (1, .int l1), (2, .int l2), (3, .int l3), (4, .long l4), (6, .long l6), (8, .int (l8 + (1 : Int32)))]) (sub_c rfl (sub_c rfl (sub_c rfl (sub_c rfl (sub_c rfl (sub_c rfl (sub_c rfl sub_n))))))) (hrec_49 q l1 l2 l3 l4 l6 (l8 + (1 : Int32)))
def b_X12_all_49 : SS → Int32 → Int32 → Int32 → Int64 → Int64 → Int32 → Option (Int64 × SS) :=
  fx7 (fun (rec_49 : SS → Int32 → Int32 → Int32 → Int64 → Int64 → Int32 → Option (Int64 × SS)) (q : SS) (l1 : Int32) (l2 : Int32) (l3 : Int32) (l4 : Int64) (l6 : Int64) (l8 : Int32) =>
  if l3 ≤ l8 then
  ((f_X12_lowest q l4 l6 l2).bind fun r6 =>
  some (r6, q))
  else
  ((f_X12_at q l1 l8).bind fun r7 =>
  nm (r7 / (8 : Int32)) fun v8 =>
  (f_X12_at q l1 l8).bind fun r9 =>
  nm (jrem r9 (8 : Int32)) fun v10 =>
  (f_X12_maySlip q v8 v10).bind fun r11 =>
  if r11 = 0 then
  (b_X12_all_124 rec_49 q l1 l2 l3 l4 l6 l8)
  else
  ((f_X12_oddsOf q v8 v10).bind fun r12 =>
  nm (l4 * (r12.1.toInt64)) fun v13 =>
  nm (l6 * (12 : Int64)) fun v14 =>
  if vin v8 12 then
  nm (sI r12.2 81 v8.toNatClampNeg v10) fun q15 =>
  b_X12_all_124 rec_49 q15 l1 l2 l3 v13 v14 l8
  else none))) FU
theorem rb_X12_all_49 {E : EE} (hE : GE E) (q : SS) (l1 : Int32) (l2 : Int32) (l3 : Int32) (l4 : Int64) (l6 : Int64) (l8 : Int32) : R E (κL E) 4 243 49 [(0, .ref 60), (1, .int l1), (2, .int l2), (3, .int l3), (4, .long l4), (6, .long l6), (8, .int l8)] [] q (b_X12_all_49 q l1 l2 l3 l4 l6 l8) := by
  unfold b_X12_all_49
  refine fx7_ok (P := fun q l1 l2 l3 l4 l6 l8 o => R E (κL E) 4 243 49 [(0, .ref 60), (1, .int l1), (2, .int l2), (3, .int l3), (4, .long l4), (6, .long l6), (8, .int l8)] [] q o) (fun _ _ _ _ _ _ _ => r_no) (fun rec_49 hrec_49 q l1 l2 l3 l4 l6 l8 => ?_) _ _ _ _ _ _ _ _
  refine r_iload (x := l8) dX12_all_49 rfl ?_
  refine r_iload_n (x := l3) dX12_all_51 rfl ?_
  refine r_icmp_ge (t := 130) dX12_all_52 rfl (fun h17 => ?_) (fun h17 => ?_)
  · refine r_lload (x := l4) dX12_all_130 rfl ?_
    refine r_lload (x := l6) dX12_all_132 rfl ?_
    refine r_iload_n (x := l2) dX12_all_134 rfl ?_
    refine r_calll (k := 2) (idx := 288) (y := 241) (as := [.long l4, .long l6, .int l2]) (rest := []) (L0 := [(0, .long l4), (2, .long l6), (4, .int l2)]) dX12_all_135 rfl rfl rfl rfl rfl vok_s rfl (r_dep (by decide) (e_X12_lowest hE q l4 l6 l2)) (fun r6 => ?_)
    exact r_lreturn dX12_all_138 rfl rfl
  · refine r_aload_n (x := 60) dX12_all_55 rfl ?_
    refine r_iload_n (x := l1) dX12_all_56 rfl ?_
    refine r_iload (x := l8) dX12_all_57 rfl ?_
    refine r_calli (k := 0) (idx := 263) (y := 235) (as := [.ref 60, .int l1, .int l8]) (rest := []) (L0 := [(0, .ref 60), (1, .int l1), (2, .int l8)]) dX12_all_59 rfl rfl rfl rfl rfl (vok_v (ob_60 hE) rfl) rfl (r_dep (by decide) (e_X12_at hE q l1 l8)) (fun r7 => ?_)
    refine r_bipush (v := (8 : Int32)) dX12_all_62 rfl ?_
    refine r_idivC dX12_all_64 (by decide) ?_
    refine r_nmI fun v8 _ => ?_
    refine r_istore (L2 := [(0, .ref 60), (1, .int l1), (2, .int l2), (3, .int l3), (4, .long l4), (6, .long l6), (8, .int l8), (9, .int v8)]) dX12_all_65 rfl rfl ?_
    refine r_aload_n (x := 60) dX12_all_67 rfl ?_
    refine r_iload_n (x := l1) dX12_all_68 rfl ?_
    refine r_iload (x := l8) dX12_all_69 rfl ?_
    refine r_calli (k := 0) (idx := 263) (y := 235) (as := [.ref 60, .int l1, .int l8]) (rest := []) (L0 := [(0, .ref 60), (1, .int l1), (2, .int l8)]) dX12_all_71 rfl rfl rfl rfl rfl (vok_v (ob_60 hE) rfl) rfl (r_dep (by decide) (e_X12_at hE q l1 l8)) (fun r9 => ?_)
    refine r_bipush (v := (8 : Int32)) dX12_all_74 rfl ?_
    refine r_iremC dX12_all_76 (by decide) ?_
    refine r_nmI fun v10 _ => ?_
    refine r_istore (L2 := [(0, .ref 60), (1, .int l1), (2, .int l2), (3, .int l3), (4, .long l4), (6, .long l6), (8, .int l8), (9, .int v8), (10, .int v10)]) dX12_all_77 rfl rfl ?_
    refine r_aload_n (x := 60) dX12_all_79 rfl ?_
    refine r_iload (x := v8) dX12_all_80 rfl ?_
    refine r_iload (x := v10) dX12_all_82 rfl ?_
    refine r_calli (k := 0) (idx := 251) (y := 230) (as := [.ref 60, .int v8, .int v10]) (rest := []) (L0 := [(0, .ref 60), (1, .int v8), (2, .int v10)]) dX12_all_84 rfl rfl rfl rfl rfl (vok_v (ob_60 hE) rfl) rfl (r_dep (by decide) (e_X12_maySlip hE q v8 v10)) (fun r11 => ?_)
    refine r_if_ne (t := 93) dX12_all_87 rfl (fun h16 => ?_) (fun h16 => ?_)
    · refine r_goto (t := 124) dX12_all_90 rfl ?_
      exact r_sub (L' := [(0, .ref 60), (1, .int l1), (2, .int l2), (3, .int l3), (4, .long l4), (6, .long l6), (8, .int l8)]) (sub_c rfl (sub_c rfl (sub_c rfl (sub_c rfl (sub_c rfl (sub_c rfl (sub_c rfl sub_n))))))) (rb_X12_all_124 hE hrec_49 q l1 l2 l3 l4 l6 l8)
    · refine r_lload (x := l4) dX12_all_93 rfl ?_
      refine r_aload_n (x := 60) dX12_all_95 rfl ?_
      refine r_iload (x := v8) dX12_all_96 rfl ?_
      refine r_iload (x := v10) dX12_all_98 rfl ?_
      refine r_callI (k := 0) (idx := 260) (y := 231) (as := [.ref 60, .int v8, .int v10]) (rest := [.long l4]) (L0 := [(0, .ref 60), (1, .int v8), (2, .int v10)]) dX12_all_100 rfl rfl rfl rfl rfl (vok_v (ob_60 hE) rfl) rfl (r_dep (by decide) (e_X12_oddsOf hE q v8 v10)) (fun r12 => ?_)
      refine r_i2l dX12_all_103 ?_
      refine r_lmul dX12_all_104 ?_
      refine r_nmL fun v13 _ => ?_
      refine r_lstore (L2 := [(0, .ref 60), (1, .int l1), (2, .int l2), (3, .int l3), (4, .long v13), (6, .long l6), (8, .int l8), (9, .int v8), (10, .int v10)]) dX12_all_105 rfl rfl ?_
      refine r_lload (x := l6) dX12_all_107 rfl ?_
      refine r_ldc2 (v := (12 : Int64)) dX12_all_109 rfl ?_
      refine r_lmul dX12_all_112 ?_
      refine r_nmL fun v14 _ => ?_
      refine r_lstore (L2 := [(0, .ref 60), (1, .int l1), (2, .int l2), (3, .int l3), (4, .long v13), (6, .long v14), (8, .int l8), (9, .int v8), (10, .int v10)]) dX12_all_113 rfl rfl ?_
      refine r_aload_n (x := 60) dX12_all_115 rfl ?_
      refine r_getA dX12_all_116 (fa_12_74_60 hE) ?_
      refine r_iload (x := v8) dX12_all_119 rfl ?_
      refine r_iload (x := v10) dX12_all_121 rfl ?_
      refine r_iastore dX12_all_123 (ar_81 hE) ?_
      refine r_nmS fun q15 _ => ?_
      exact r_sub (L' := [(0, .ref 60), (1, .int l1), (2, .int l2), (3, .int l3), (4, .long v13), (6, .long v14), (8, .int l8)]) (sub_c rfl (sub_c rfl (sub_c rfl (sub_c rfl (sub_c rfl (sub_c rfl (sub_c rfl sub_n))))))) (rb_X12_all_124 hE hrec_49 q15 l1 l2 l3 v13 v14 l8)
def f_X12_all (q : SS) (a1 : Int32) (a2 : Int32) : Option (Int64 × SS) :=
  (f_X12_isShelf q a1).bind fun r1 =>
  if r1 = 0 then
  (some ((-9223372036854775808 : Int64), q))
  else
  ((f_X12_in q a2 (0 : Int32) (1 : Int32)).bind fun r2 =>
  if r2 = 0 then
  (some ((-9223372036854775808 : Int64), q))
  else
  ((f_X12_rowFault q a1).bind fun r3 =>
  if 0 ≤ r3 then
  ((f_X12_layNow q).bind fun r4 =>
  (f_X12_longOf r4 a1 (12 : Int32)).bind fun r5 =>
  b_X12_all_49 r4 a1 a2 r5 (1 : Int64) (1 : Int64) (0 : Int32))
  else
  (some ((-9223372036854775808 : Int64), q))))
theorem e_X12_all {E : EE} (hE : GE E) (q : SS) (a1 : Int32) (a2 : Int32) : R E (κL E) 4 243 0 [(0, .ref 60), (1, .int a1), (2, .int a2)] [] q (f_X12_all q a1 a2) := by
  unfold f_X12_all
  refine r_iload_n (x := a1) dX12_all_0 rfl ?_
  refine r_calli (k := 2) (idx := 137) (y := 288) (as := [.int a1]) (rest := []) (L0 := [(0, .int a1)]) dX12_all_1 rfl rfl rfl rfl rfl vok_s rfl (r_dep (by decide) (e_X12_isShelf hE q a1)) (fun r1 => ?_)
  refine r_if_eq (t := 24) dX12_all_4 rfl (fun h20 => ?_) (fun h20 => ?_)
  · refine r_ldc2 (v := (-9223372036854775808 : Int64)) dX12_all_24 rfl ?_
    exact r_lreturn dX12_all_27 rfl rfl
  · refine r_iload_n (x := a2) dX12_all_7 rfl ?_
    refine r_iconst (v := (0 : Int32)) dX12_all_8 rfl ?_
    refine r_iconst (v := (1 : Int32)) dX12_all_9 rfl ?_
    refine r_calli (k := 2) (idx := 118) (y := 189) (as := [.int a2, .int (0 : Int32), .int (1 : Int32)]) (rest := []) (L0 := [(0, .int a2), (1, .int (0 : Int32)), (2, .int (1 : Int32))]) dX12_all_10 rfl rfl rfl rfl rfl vok_s rfl (r_dep (by decide) (e_X12_in hE q a2 (0 : Int32) (1 : Int32))) (fun r2 => ?_)
    refine r_if_eq (t := 24) dX12_all_13 rfl (fun h19 => ?_) (fun h19 => ?_)
    · refine r_ldc2 (v := (-9223372036854775808 : Int64)) dX12_all_24 rfl ?_
      exact r_lreturn dX12_all_27 rfl rfl
    · refine r_aload_n (x := 60) dX12_all_16 rfl ?_
      refine r_iload_n (x := a1) dX12_all_17 rfl ?_
      refine r_calli (k := 0) (idx := 278) (y := 234) (as := [.ref 60, .int a1]) (rest := []) (L0 := [(0, .ref 60), (1, .int a1)]) dX12_all_18 rfl rfl rfl rfl rfl (vok_v (ob_60 hE) rfl) rfl (r_dep (by decide) (e_X12_rowFault hE q a1)) (fun r3 => ?_)
      refine r_if_ge (t := 28) dX12_all_21 rfl (fun h18 => ?_) (fun h18 => ?_)
      · refine r_aload_n (x := 60) dX12_all_28 rfl ?_
        refine r_callV (k := 0) (idx := 168) (y := 226) (as := [.ref 60]) (rest := []) (L0 := [(0, .ref 60)]) dX12_all_29 rfl rfl rfl rfl rfl (vok_v (ob_60 hE) rfl) rfl (r_dep (by decide) (e_X12_layNow hE q)) (fun r4 => ?_)
        refine r_aload_n (x := 60) dX12_all_32 rfl ?_
        refine r_iload_n (x := a1) dX12_all_33 rfl ?_
        refine r_bipush (v := (12 : Int32)) dX12_all_34 rfl ?_
        refine r_calli (k := 0) (idx := 272) (y := 236) (as := [.ref 60, .int a1, .int (12 : Int32)]) (rest := []) (L0 := [(0, .ref 60), (1, .int a1), (2, .int (12 : Int32))]) dX12_all_36 rfl rfl rfl rfl rfl (vok_v (ob_60 hE) rfl) rfl (r_dep (by decide) (e_X12_longOf hE r4 a1 (12 : Int32))) (fun r5 => ?_)
        refine r_istore_n (L2 := [(0, .ref 60), (1, .int a1), (2, .int a2), (3, .int r5)]) dX12_all_39 rfl rfl ?_
        refine r_lconst (v := (1 : Int64)) dX12_all_40 rfl ?_
        refine r_lstore (L2 := [(0, .ref 60), (1, .int a1), (2, .int a2), (3, .int r5), (4, .long (1 : Int64))]) dX12_all_41 rfl rfl ?_
        refine r_lconst (v := (1 : Int64)) dX12_all_43 rfl ?_
        refine r_lstore (L2 := [(0, .ref 60), (1, .int a1), (2, .int a2), (3, .int r5), (4, .long (1 : Int64)), (6, .long (1 : Int64))]) dX12_all_44 rfl rfl ?_
        refine r_iconst (v := (0 : Int32)) dX12_all_46 rfl ?_
        refine r_istore (L2 := [(0, .ref 60), (1, .int a1), (2, .int a2), (3, .int r5), (4, .long (1 : Int64)), (6, .long (1 : Int64)), (8, .int (0 : Int32))]) dX12_all_47 rfl rfl ?_
        exact r_sub (L' := [(0, .ref 60), (1, .int a1), (2, .int a2), (3, .int r5), (4, .long (1 : Int64)), (6, .long (1 : Int64)), (8, .int (0 : Int32))]) (sub_c rfl (sub_c rfl (sub_c rfl (sub_c rfl (sub_c rfl (sub_c rfl (sub_c rfl sub_n))))))) (rb_X12_all_49 hE r4 a1 a2 r5 (1 : Int64) (1 : Int64) (0 : Int32))
      · refine r_ldc2 (v := (-9223372036854775808 : Int64)) dX12_all_24 rfl ?_
        exact r_lreturn dX12_all_27 rfl rfl
def b_X2_weighSet_88 (rec_27 : SS → Int32 → Int32 → Int32 → Option SS) (q : SS) (l1 : Int32) (l2 : Int32) (l3 : Int32) : Option SS :=
  rec_27 q l1 l2 (l3 + (1 : Int32))
theorem rb_X2_weighSet_88 {E : EE} (hE : GE E) {rec_27 : SS → Int32 → Int32 → Int32 → Option SS} (hrec_27 : ∀ (yq : SS) (yl1 : Int32) (yl2 : Int32) (yl3 : Int32), R E (κV E) 6 23 27 [(0, .ref 37), (1, .int yl1), (2, .int yl2), (3, .int yl3)] [] yq (rec_27 yq yl1 yl2 yl3)) (q : SS) (l1 : Int32) (l2 : Int32) (l3 : Int32) : R E (κV E) 6 23 88 [(0, .ref 37), (1, .int l1), (2, .int l2), (3, .int l3)] [] q (b_X2_weighSet_88 rec_27 q l1 l2 l3) := by
  unfold b_X2_weighSet_88
  refine r_iinc (x := l3) (v := (l3 + (1 : Int32))) (L2 := [(0, .ref 37), (1, .int l1), (2, .int l2), (3, .int (l3 + (1 : Int32)))]) dX2_weighSet_88 rfl rfl rfl rfl ?_
  refine r_goto (t := 27) dX2_weighSet_91 rfl ?_
  exact r_sub (L' := [(0, .ref 37), (1, .int l1), (2, .int l2), (3, .int (l3 + (1 : Int32)))]) (sub_c rfl (sub_c rfl (sub_c rfl (sub_c rfl sub_n)))) (hrec_27 q l1 l2 (l3 + (1 : Int32)))
def b_X2_weighSet_49 (rec_27 : SS → Int32 → Int32 → Int32 → Option SS) (q : SS) (l1 : Int32) (l2 : Int32) (l3 : Int32) (s0 : Int32) : Option SS :=
  (f_X2_ticketAt q l3).bind fun r5 =>
  (f_X2_toAt q l3).bind fun r6 =>
  (f_X8_canSlip q r5 r6).bind fun r7 =>
  if r7 = 0 then
  (if s0 = 0 then
  (b_X2_weighSet_88 rec_27 q l1 l2 l3)
  else
  (b_X2_weighSet_88 rec_27 q l1 (0 : Int32) l3))
  else
  ((f_X2_weighStep q l3 s0).bind fun r9 =>
  b_X2_weighSet_88 rec_27 r9 l1 l2 l3)
theorem rb_X2_weighSet_49 {E : EE} (hE : GE E) {rec_27 : SS → Int32 → Int32 → Int32 → Option SS} (hrec_27 : ∀ (yq : SS) (yl1 : Int32) (yl2 : Int32) (yl3 : Int32), R E (κV E) 6 23 27 [(0, .ref 37), (1, .int yl1), (2, .int yl2), (3, .int yl3)] [] yq (rec_27 yq yl1 yl2 yl3)) (q : SS) (l1 : Int32) (l2 : Int32) (l3 : Int32) (s0 : Int32) : R E (κV E) 6 23 49 [(0, .ref 37), (1, .int l1), (2, .int l2), (3, .int l3)] [.int s0] q (b_X2_weighSet_49 rec_27 q l1 l2 l3 s0) := by
  unfold b_X2_weighSet_49
  refine r_istore (L2 := [(0, .ref 37), (1, .int l1), (2, .int l2), (3, .int l3), (4, .int s0)]) dX2_weighSet_49 rfl rfl ?_
  refine r_aload_n (x := 37) dX2_weighSet_51 rfl ?_
  refine r_getA dX2_weighSet_52 (fa_2_15_37 hE) ?_
  refine r_aload_n (x := 37) dX2_weighSet_55 rfl ?_
  refine r_iload_n (x := l3) dX2_weighSet_56 rfl ?_
  refine r_calli (k := 0) (idx := 67) (y := 16) (as := [.ref 37, .int l3]) (rest := [.ref 24]) (L0 := [(0, .ref 37), (1, .int l3)]) dX2_weighSet_57 rfl rfl rfl rfl rfl (vok_v (ob_37 hE) rfl) rfl (r_dep (by decide) (e_X2_ticketAt hE q l3)) (fun r5 => ?_)
  refine r_aload_n (x := 37) dX2_weighSet_60 rfl ?_
  refine r_iload_n (x := l3) dX2_weighSet_61 rfl ?_
  refine r_calli (k := 0) (idx := 70) (y := 17) (as := [.ref 37, .int l3]) (rest := [.int r5, .ref 24]) (L0 := [(0, .ref 37), (1, .int l3)]) dX2_weighSet_62 rfl rfl rfl rfl rfl (vok_v (ob_37 hE) rfl) rfl (r_dep (by decide) (e_X2_toAt hE q l3)) (fun r6 => ?_)
  refine r_calli (k := 0) (idx := 73) (y := 107) (as := [.ref 24, .int r5, .int r6]) (rest := []) (L0 := [(0, .ref 24), (1, .int r5), (2, .int r6)]) dX2_weighSet_65 rfl rfl rfl rfl rfl (vok_v (ob_24 hE) rfl) rfl (r_dep (by decide) (e_X8_canSlip hE q r5 r6)) (fun r7 => ?_)
  refine r_if_eq (t := 81) dX2_weighSet_68 rfl (fun h10 => ?_) (fun h10 => ?_)
  · refine r_iload (x := s0) dX2_weighSet_81 rfl ?_
    refine r_if_eq (t := 88) dX2_weighSet_83 rfl (fun h8 => ?_) (fun h8 => ?_)
    · exact r_sub (L' := [(0, .ref 37), (1, .int l1), (2, .int l2), (3, .int l3)]) (sub_c rfl (sub_c rfl (sub_c rfl (sub_c rfl sub_n)))) (rb_X2_weighSet_88 hE hrec_27 q l1 l2 l3)
    · refine r_iconst (v := (0 : Int32)) dX2_weighSet_86 rfl ?_
      refine r_istore_n (L2 := [(0, .ref 37), (1, .int l1), (2, .int (0 : Int32)), (3, .int l3), (4, .int s0)]) dX2_weighSet_87 rfl rfl ?_
      exact r_sub (L' := [(0, .ref 37), (1, .int l1), (2, .int (0 : Int32)), (3, .int l3)]) (sub_c rfl (sub_c rfl (sub_c rfl (sub_c rfl sub_n)))) (rb_X2_weighSet_88 hE hrec_27 q l1 (0 : Int32) l3)
  · refine r_aload_n (x := 37) dX2_weighSet_71 rfl ?_
    refine r_iload_n (x := l3) dX2_weighSet_72 rfl ?_
    refine r_iload (x := s0) dX2_weighSet_73 rfl ?_
    refine r_callV (k := 0) (idx := 84) (y := 25) (as := [.ref 37, .int l3, .int s0]) (rest := []) (L0 := [(0, .ref 37), (1, .int l3), (2, .int s0)]) dX2_weighSet_75 rfl rfl rfl rfl rfl (vok_v (ob_37 hE) rfl) rfl (r_dep (by decide) (e_X2_weighStep hE q l3 s0)) (fun r9 => ?_)
    refine r_goto (t := 88) dX2_weighSet_78 rfl ?_
    exact r_sub (L' := [(0, .ref 37), (1, .int l1), (2, .int l2), (3, .int l3)]) (sub_c rfl (sub_c rfl (sub_c rfl (sub_c rfl sub_n)))) (rb_X2_weighSet_88 hE hrec_27 r9 l1 l2 l3)
def b_X2_weighSet_27 : SS → Int32 → Int32 → Int32 → Option SS :=
  fx4 (fun (rec_27 : SS → Int32 → Int32 → Int32 → Option SS) (q : SS) (l1 : Int32) (l2 : Int32) (l3 : Int32) =>
  if (q.1 37 3) ≤ l3 then
  (if l2 = 0 then
  (nm (sL q 37 6 (0 : Int64)) fun q3 =>
  some q3)
  else
  (some q))
  else
  (if ((jshr l1 l3) &&& (1 : Int32)) = (1 : Int32) then
  (b_X2_weighSet_49 rec_27 q l1 l2 l3 (1 : Int32))
  else
  (b_X2_weighSet_49 rec_27 q l1 l2 l3 (0 : Int32)))) FU
theorem rb_X2_weighSet_27 {E : EE} (hE : GE E) (q : SS) (l1 : Int32) (l2 : Int32) (l3 : Int32) : R E (κV E) 6 23 27 [(0, .ref 37), (1, .int l1), (2, .int l2), (3, .int l3)] [] q (b_X2_weighSet_27 q l1 l2 l3) := by
  unfold b_X2_weighSet_27
  refine fx4_ok (P := fun q l1 l2 l3 o => R E (κV E) 6 23 27 [(0, .ref 37), (1, .int l1), (2, .int l2), (3, .int l3)] [] q o) (fun _ _ _ _ => r_no) (fun rec_27 hrec_27 q l1 l2 l3 => ?_) _ _ _ _ _
  refine r_iload_n (x := l3) dX2_weighSet_27 rfl ?_
  refine r_aload_n (x := 37) dX2_weighSet_28 rfl ?_
  refine r_getI dX2_weighSet_29 (ff_2_40_37 hE) (by decide) ?_
  refine r_icmp_ge (t := 94) dX2_weighSet_32 rfl (fun h12 => ?_) (fun h12 => ?_)
  · refine r_iload_n (x := l2) dX2_weighSet_94 rfl ?_
    refine r_if_ne (t := 103) dX2_weighSet_95 rfl (fun h4 => ?_) (fun h4 => ?_)
    · refine r_aload_n (x := 37) dX2_weighSet_98 rfl ?_
      refine r_lconst (v := (0 : Int64)) dX2_weighSet_99 rfl ?_
      refine r_putL dX2_weighSet_100 (ff_2_60_37 hE) ?_
      refine r_nmS fun q3 _ => ?_
      exact r_return dX2_weighSet_103 rfl rfl
    · exact r_return dX2_weighSet_103 rfl rfl
  · refine r_iload_n (x := l1) dX2_weighSet_35 rfl ?_
    refine r_iload_n (x := l3) dX2_weighSet_36 rfl ?_
    refine r_ishr dX2_weighSet_37 ?_
    refine r_iconst (v := (1 : Int32)) dX2_weighSet_38 rfl ?_
    refine r_iand dX2_weighSet_39 ?_
    refine r_iconst (v := (1 : Int32)) dX2_weighSet_40 rfl ?_
    refine r_icmp_ne (t := 48) dX2_weighSet_41 rfl (fun h11 => ?_) (fun h11 => ?_)
    · refine r_iconst (v := (1 : Int32)) dX2_weighSet_44 rfl ?_
      refine r_goto (t := 49) dX2_weighSet_45 rfl ?_
      exact r_sub (L' := [(0, .ref 37), (1, .int l1), (2, .int l2), (3, .int l3)]) (sub_c rfl (sub_c rfl (sub_c rfl (sub_c rfl sub_n)))) (rb_X2_weighSet_49 hE hrec_27 q l1 l2 l3 (1 : Int32))
    · refine r_iconst (v := (0 : Int32)) dX2_weighSet_48 rfl ?_
      exact r_sub (L' := [(0, .ref 37), (1, .int l1), (2, .int l2), (3, .int l3)]) (sub_c rfl (sub_c rfl (sub_c rfl (sub_c rfl sub_n)))) (rb_X2_weighSet_49 hE hrec_27 q l1 l2 l3 (0 : Int32))
def b_X2_weighSet_14 (q : SS) (l1 : Int32) (s0 : Int32) : Option SS :=
  nm (sL q 37 6 (1 : Int64)) fun q1 =>
  nm (sL q1 37 7 (1 : Int64)) fun q2 =>
  b_X2_weighSet_27 q2 l1 s0 (0 : Int32)
theorem rb_X2_weighSet_14 {E : EE} (hE : GE E) (q : SS) (l1 : Int32) (s0 : Int32) : R E (κV E) 6 23 14 [(0, .ref 37), (1, .int l1)] [.int s0] q (b_X2_weighSet_14 q l1 s0) := by
  unfold b_X2_weighSet_14
  refine r_istore_n (L2 := [(0, .ref 37), (1, .int l1), (2, .int s0)]) dX2_weighSet_14 rfl rfl ?_
  refine r_aload_n (x := 37) dX2_weighSet_15 rfl ?_
  refine r_lconst (v := (1 : Int64)) dX2_weighSet_16 rfl ?_
  refine r_putL dX2_weighSet_17 (ff_2_60_37 hE) ?_
  refine r_nmS fun q1 _ => ?_
  refine r_aload_n (x := 37) dX2_weighSet_20 rfl ?_
  refine r_lconst (v := (1 : Int64)) dX2_weighSet_21 rfl ?_
  refine r_putL dX2_weighSet_22 (ff_2_64_37 hE) ?_
  refine r_nmS fun q2 _ => ?_
  refine r_iconst (v := (0 : Int32)) dX2_weighSet_25 rfl ?_
  refine r_istore_n (L2 := [(0, .ref 37), (1, .int l1), (2, .int s0), (3, .int (0 : Int32))]) dX2_weighSet_26 rfl rfl ?_
  exact r_sub (L' := [(0, .ref 37), (1, .int l1), (2, .int s0), (3, .int (0 : Int32))]) (sub_c rfl (sub_c rfl (sub_c rfl (sub_c rfl sub_n)))) (rb_X2_weighSet_27 hE q2 l1 s0 (0 : Int32))
def f_X2_weighSet (q : SS) (a1 : Int32) : Option SS :=
  if (jushr a1 (q.1 37 3)) = 0 then
  (b_X2_weighSet_14 q a1 (1 : Int32))
  else
  (b_X2_weighSet_14 q a1 (0 : Int32))
theorem e_X2_weighSet {E : EE} (hE : GE E) (q : SS) (a1 : Int32) : R E (κV E) 6 23 0 [(0, .ref 37), (1, .int a1)] [] q (f_X2_weighSet q a1) := by
  unfold f_X2_weighSet
  refine r_iload_n (x := a1) dX2_weighSet_0 rfl ?_
  refine r_aload_n (x := 37) dX2_weighSet_1 rfl ?_
  refine r_getI dX2_weighSet_2 (ff_2_40_37 hE) (by decide) ?_
  refine r_iushr dX2_weighSet_5 ?_
  refine r_if_ne (t := 13) dX2_weighSet_6 rfl (fun h13 => ?_) (fun h13 => ?_)
  · refine r_iconst (v := (1 : Int32)) dX2_weighSet_9 rfl ?_
    refine r_goto (t := 14) dX2_weighSet_10 rfl ?_
    exact r_sub (L' := [(0, .ref 37), (1, .int a1)]) (sub_c rfl (sub_c rfl sub_n)) (rb_X2_weighSet_14 hE q a1 (1 : Int32))
  · refine r_iconst (v := (0 : Int32)) dX2_weighSet_13 rfl ?_
    exact r_sub (L' := [(0, .ref 37), (1, .int a1)]) (sub_c rfl (sub_c rfl sub_n)) (rb_X2_weighSet_14 hE q a1 (0 : Int32))
def f_X11_likely (q : SS) (a1 : Int32) (a2 : Int32) (a3 : Int32) : Option (Int64 × SS) :=
  (f_X7_refusalOfBytes q a1).bind fun r1 =>
  if r1 = 0 then
  (if a2 < 0 then
  (some ((-9223372036854775808 : Int64), q))
  else
  (if (4095 : Int32) < a2 then
  (some ((-9223372036854775808 : Int64), q))
  else
  ((f_X11_isPart q a3).bind fun r2 =>
  if r2 = 0 then
  (some ((-9223372036854775808 : Int64), q))
  else
  ((f_X2_begin q a1).bind fun r3 =>
  (f_X2_weighSet r3 a2).bind fun r4 =>
  (f_X2_above r4).bind fun r5 =>
  (f_X2_below r4).bind fun r6 =>
  (f_X11_partOf r4 r5 r6 a3).bind fun r7 =>
  some (r7, r4)))))
  else
  (some ((-9223372036854775808 : Int64), q))
theorem e_X11_likely {E : EE} (hE : GE E) (q : SS) (a1 : Int32) (a2 : Int32) (a3 : Int32) : R E (κL E) 7 151 0 [(0, .ref 0), (1, .int a1), (2, .int a2), (3, .int a3)] [] q (f_X11_likely q a1 a2 a3) := by
  unfold f_X11_likely
  refine r_aload_n (x := 0) dX11_likely_0 rfl ?_
  refine r_getA dX11_likely_1 (fa_11_42_0 hE) ?_
  refine r_iload_n (x := a1) dX11_likely_4 rfl ?_
  refine r_calli (k := 0) (idx := 110) (y := 85) (as := [.ref 26, .int a1]) (rest := []) (L0 := [(0, .ref 26), (1, .int a1)]) dX11_likely_5 rfl rfl rfl rfl rfl (vok_v (ob_26 hE) rfl) rfl (r_dep (by decide) (e_X7_refusalOfBytes hE q a1)) (fun r1 => ?_)
  refine r_if_ne (t := 29) dX11_likely_8 rfl (fun h11 => ?_) (fun h11 => ?_)
  · refine r_iload_n (x := a2) dX11_likely_11 rfl ?_
    refine r_if_lt (t := 29) dX11_likely_12 rfl (fun h10 => ?_) (fun h10 => ?_)
    · refine r_ldc2 (v := (-9223372036854775808 : Int64)) dX11_likely_29 rfl ?_
      exact r_lreturn dX11_likely_32 rfl rfl
    · refine r_iload_n (x := a2) dX11_likely_15 rfl ?_
      refine r_sipush (v := (4095 : Int32)) dX11_likely_16 rfl ?_
      refine r_icmp_gt (t := 29) dX11_likely_19 rfl (fun h9 => ?_) (fun h9 => ?_)
      · refine r_ldc2 (v := (-9223372036854775808 : Int64)) dX11_likely_29 rfl ?_
        exact r_lreturn dX11_likely_32 rfl rfl
      · refine r_iload_n (x := a3) dX11_likely_22 rfl ?_
        refine r_calli (k := 2) (idx := 199) (y := 153) (as := [.int a3]) (rest := []) (L0 := [(0, .int a3)]) dX11_likely_23 rfl rfl rfl rfl rfl vok_s rfl (r_dep (by decide) (e_X11_isPart hE q a3)) (fun r2 => ?_)
        refine r_if_ne (t := 33) dX11_likely_26 rfl (fun h8 => ?_) (fun h8 => ?_)
        · refine r_ldc2 (v := (-9223372036854775808 : Int64)) dX11_likely_29 rfl ?_
          exact r_lreturn dX11_likely_32 rfl rfl
        · refine r_aload_n (x := 0) dX11_likely_33 rfl ?_
          refine r_getA dX11_likely_34 (fa_11_51_0 hE) ?_
          refine r_aload_n (x := 0) dX11_likely_37 rfl ?_
          refine r_getA dX11_likely_38 (fa_11_42_0 hE) ?_
          refine r_iload_n (x := a1) dX11_likely_41 rfl ?_
          refine r_callV (k := 0) (idx := 183) (y := 14) (as := [.ref 37, .ref 26, .int a1]) (rest := []) (L0 := [(0, .ref 37), (1, .ref 26), (2, .int a1)]) dX11_likely_42 rfl rfl rfl rfl rfl (vok_v (ob_37 hE) rfl) rfl (r_dep (by decide) (e_X2_begin hE q a1)) (fun r3 => ?_)
          refine r_aload_n (x := 0) dX11_likely_45 rfl ?_
          refine r_getA dX11_likely_46 (fa_11_51_0 hE) ?_
          refine r_iload_n (x := a2) dX11_likely_49 rfl ?_
          refine r_callV (k := 0) (idx := 206) (y := 23) (as := [.ref 37, .int a2]) (rest := []) (L0 := [(0, .ref 37), (1, .int a2)]) dX11_likely_50 rfl rfl rfl rfl rfl (vok_v (ob_37 hE) rfl) rfl (r_dep (by decide) (e_X2_weighSet hE r3 a2)) (fun r4 => ?_)
          refine r_aload_n (x := 0) dX11_likely_53 rfl ?_
          refine r_getA dX11_likely_54 (fa_11_51_0 hE) ?_
          refine r_calll (k := 0) (idx := 209) (y := 20) (as := [.ref 37]) (rest := []) (L0 := [(0, .ref 37)]) dX11_likely_57 rfl rfl rfl rfl rfl (vok_v (ob_37 hE) rfl) rfl (r_dep (by decide) (e_X2_above hE r4)) (fun r5 => ?_)
          refine r_aload_n (x := 0) dX11_likely_60 rfl ?_
          refine r_getA dX11_likely_61 (fa_11_51_0 hE) ?_
          refine r_calll (k := 0) (idx := 213) (y := 21) (as := [.ref 37]) (rest := [.long r5]) (L0 := [(0, .ref 37)]) dX11_likely_64 rfl rfl rfl rfl rfl (vok_v (ob_37 hE) rfl) rfl (r_dep (by decide) (e_X2_below hE r4)) (fun r6 => ?_)
          refine r_iload_n (x := a3) dX11_likely_67 rfl ?_
          refine r_calll (k := 2) (idx := 216) (y := 154) (as := [.long r5, .long r6, .int a3]) (rest := []) (L0 := [(0, .long r5), (2, .long r6), (4, .int a3)]) dX11_likely_68 rfl rfl rfl rfl rfl vok_s rfl (r_dep (by decide) (e_X11_partOf hE r4 r5 r6 a3)) (fun r7 => ?_)
          exact r_lreturn dX11_likely_71 rfl rfl
  · refine r_ldc2 (v := (-9223372036854775808 : Int64)) dX11_likely_29 rfl ?_
    exact r_lreturn dX11_likely_32 rfl rfl
def b_X12_likely_196 (rec_72 : SS → Int32 → Int32 → Int32 → Int32 → Int64 → Int64 → Int32 → Option (Int64 × SS)) (q : SS) (l1 : Int32) (l2 : Int32) (l3 : Int32) (l4 : Int32) (l5 : Int64) (l7 : Int64) (l9 : Int32) : Option (Int64 × SS) :=
  rec_72 q l1 l2 l3 l4 l5 l7 (l9 + (1 : Int32))
theorem rb_X12_likely_196 {E : EE} (hE : GE E) {rec_72 : SS → Int32 → Int32 → Int32 → Int32 → Int64 → Int64 → Int32 → Option (Int64 × SS)} (hrec_72 : ∀ (yq : SS) (yl1 : Int32) (yl2 : Int32) (yl3 : Int32) (yl4 : Int32) (yl5 : Int64) (yl7 : Int64) (yl9 : Int32), R E (κL E) 4 242 72 [(0, .ref 60), (1, .int yl1), (2, .int yl2), (3, .int yl3), (4, .int yl4), (5, .long yl5), (7, .long yl7), (9, .int yl9)] [] yq (rec_72 yq yl1 yl2 yl3 yl4 yl5 yl7 yl9)) (q : SS) (l1 : Int32) (l2 : Int32) (l3 : Int32) (l4 : Int32) (l5 : Int64) (l7 : Int64) (l9 : Int32) : R E (κL E) 4 242 196 [(0, .ref 60), (1, .int l1), (2, .int l2), (3, .int l3), (4, .int l4), (5, .long l5), (7, .long l7), (9, .int l9)] [] q (b_X12_likely_196 rec_72 q l1 l2 l3 l4 l5 l7 l9) := by
  unfold b_X12_likely_196
  refine r_iinc (x := l9) (v := (l9 + (1 : Int32))) (L2 := [(0, .ref 60), (1, .int l1), (2, .int l2), (3, .int l3), (4, .int l4), (5, .long l5), (7, .long l7), (9, .int (l9 + (1 : Int32)))]) dX12_likely_196 rfl rfl rfl rfl ?_
  refine r_goto (t := 72) dX12_likely_199 rfl ?_
  exact r_sub (L' := [(0, .ref 60), (1, .int l1), (2, .int l2), (3, .int l3), (4, .int l4), (5, .long l5), (7, .long l7), (9, .int (l9 + (1 : Int32)))]) (sub_c rfl (sub_c rfl (sub_c rfl (sub_c rfl (sub_c rfl (sub_c rfl (sub_c rfl (sub_c rfl sub_n)))))))) (hrec_72 q l1 l2 l3 l4 l5 l7 (l9 + (1 : Int32)))
def b_X12_likely_171 (rec_72 : SS → Int32 → Int32 → Int32 → Int32 → Int64 → Int64 → Int32 → Option (Int64 × SS)) (q : SS) (l1 : Int32) (l2 : Int32) (l3 : Int32) (l4 : Int32) (l7 : Int64) (l9 : Int32) (l10 : Int32) (l11 : Int32) (l12 : Int32) (s0 : Int64) (s1 : Int64) : Option (Int64 × SS) :=
  nm (s1 * s0) fun v15 =>
  nm (l7 * (12 : Int64)) fun v16 =>
  if l12 = 0 then
  (b_X12_likely_196 rec_72 q l1 l2 l3 l4 v15 v16 l9)
  else
  (if vin l10 12 then
  nm (sI q 81 l10.toNatClampNeg l11) fun q17 =>
  b_X12_likely_196 rec_72 q17 l1 l2 l3 l4 v15 v16 l9
  else none)
theorem rb_X12_likely_171 {E : EE} (hE : GE E) {rec_72 : SS → Int32 → Int32 → Int32 → Int32 → Int64 → Int64 → Int32 → Option (Int64 × SS)} (hrec_72 : ∀ (yq : SS) (yl1 : Int32) (yl2 : Int32) (yl3 : Int32) (yl4 : Int32) (yl5 : Int64) (yl7 : Int64) (yl9 : Int32), R E (κL E) 4 242 72 [(0, .ref 60), (1, .int yl1), (2, .int yl2), (3, .int yl3), (4, .int yl4), (5, .long yl5), (7, .long yl7), (9, .int yl9)] [] yq (rec_72 yq yl1 yl2 yl3 yl4 yl5 yl7 yl9)) (q : SS) (l1 : Int32) (l2 : Int32) (l3 : Int32) (l4 : Int32) (l7 : Int64) (l9 : Int32) (l10 : Int32) (l11 : Int32) (l12 : Int32) (s0 : Int64) (s1 : Int64) : R E (κL E) 4 242 171 [(0, .ref 60), (1, .int l1), (2, .int l2), (3, .int l3), (4, .int l4), (7, .long l7), (9, .int l9), (10, .int l10), (11, .int l11), (12, .int l12)] [.long s0, .long s1] q (b_X12_likely_171 rec_72 q l1 l2 l3 l4 l7 l9 l10 l11 l12 s0 s1) := by
  unfold b_X12_likely_171
  refine r_lmul dX12_likely_171 ?_
  refine r_nmL fun v15 _ => ?_
  refine r_lstore (L2 := [(0, .ref 60), (1, .int l1), (2, .int l2), (3, .int l3), (4, .int l4), (5, .long v15), (7, .long l7), (9, .int l9), (10, .int l10), (11, .int l11), (12, .int l12)]) dX12_likely_172 rfl rfl ?_
  refine r_lload (x := l7) dX12_likely_174 rfl ?_
  refine r_ldc2 (v := (12 : Int64)) dX12_likely_176 rfl ?_
  refine r_lmul dX12_likely_179 ?_
  refine r_nmL fun v16 _ => ?_
  refine r_lstore (L2 := [(0, .ref 60), (1, .int l1), (2, .int l2), (3, .int l3), (4, .int l4), (5, .long v15), (7, .long v16), (9, .int l9), (10, .int l10), (11, .int l11), (12, .int l12)]) dX12_likely_180 rfl rfl ?_
  refine r_iload (x := l12) dX12_likely_182 rfl ?_
  refine r_if_eq (t := 196) dX12_likely_184 rfl (fun h18 => ?_) (fun h18 => ?_)
  · exact r_sub (L' := [(0, .ref 60), (1, .int l1), (2, .int l2), (3, .int l3), (4, .int l4), (5, .long v15), (7, .long v16), (9, .int l9)]) (sub_c rfl (sub_c rfl (sub_c rfl (sub_c rfl (sub_c rfl (sub_c rfl (sub_c rfl (sub_c rfl sub_n)))))))) (rb_X12_likely_196 hE hrec_72 q l1 l2 l3 l4 v15 v16 l9)
  · refine r_aload_n (x := 60) dX12_likely_187 rfl ?_
    refine r_getA dX12_likely_188 (fa_12_74_60 hE) ?_
    refine r_iload (x := l10) dX12_likely_191 rfl ?_
    refine r_iload (x := l11) dX12_likely_193 rfl ?_
    refine r_iastore dX12_likely_195 (ar_81 hE) ?_
    refine r_nmS fun q17 _ => ?_
    exact r_sub (L' := [(0, .ref 60), (1, .int l1), (2, .int l2), (3, .int l3), (4, .int l4), (5, .long v15), (7, .long v16), (9, .int l9)]) (sub_c rfl (sub_c rfl (sub_c rfl (sub_c rfl (sub_c rfl (sub_c rfl (sub_c rfl (sub_c rfl sub_n)))))))) (rb_X12_likely_196 hE hrec_72 q17 l1 l2 l3 l4 v15 v16 l9)
def b_X12_likely_118 (rec_72 : SS → Int32 → Int32 → Int32 → Int32 → Int64 → Int64 → Int32 → Option (Int64 × SS)) (q : SS) (l1 : Int32) (l2 : Int32) (l3 : Int32) (l4 : Int32) (l5 : Int64) (l7 : Int64) (l9 : Int32) (l10 : Int32) (l11 : Int32) (s0 : Int32) : Option (Int64 × SS) :=
  (f_X12_maySlip q l10 l11).bind fun r12 =>
  if r12 = 0 then
  (if s0 = 0 then
  (b_X12_likely_196 rec_72 q l1 l2 l3 l4 l5 l7 l9)
  else
  (b_X12_likely_196 rec_72 q l1 l2 l3 l4 (0 : Int64) l7 l9))
  else
  ((f_X12_oddsOf q l10 l11).bind fun r14 =>
  if s0 = 0 then
  (b_X12_likely_171 rec_72 r14.2 l1 l2 l3 l4 l7 l9 l10 l11 s0 (((12 : Int32) - r14.1).toInt64) l5)
  else
  (b_X12_likely_171 rec_72 r14.2 l1 l2 l3 l4 l7 l9 l10 l11 s0 (r14.1.toInt64) l5))
theorem rb_X12_likely_118 {E : EE} (hE : GE E) {rec_72 : SS → Int32 → Int32 → Int32 → Int32 → Int64 → Int64 → Int32 → Option (Int64 × SS)} (hrec_72 : ∀ (yq : SS) (yl1 : Int32) (yl2 : Int32) (yl3 : Int32) (yl4 : Int32) (yl5 : Int64) (yl7 : Int64) (yl9 : Int32), R E (κL E) 4 242 72 [(0, .ref 60), (1, .int yl1), (2, .int yl2), (3, .int yl3), (4, .int yl4), (5, .long yl5), (7, .long yl7), (9, .int yl9)] [] yq (rec_72 yq yl1 yl2 yl3 yl4 yl5 yl7 yl9)) (q : SS) (l1 : Int32) (l2 : Int32) (l3 : Int32) (l4 : Int32) (l5 : Int64) (l7 : Int64) (l9 : Int32) (l10 : Int32) (l11 : Int32) (s0 : Int32) : R E (κL E) 4 242 118 [(0, .ref 60), (1, .int l1), (2, .int l2), (3, .int l3), (4, .int l4), (5, .long l5), (7, .long l7), (9, .int l9), (10, .int l10), (11, .int l11)] [.int s0] q (b_X12_likely_118 rec_72 q l1 l2 l3 l4 l5 l7 l9 l10 l11 s0) := by
  unfold b_X12_likely_118
  refine r_istore (L2 := [(0, .ref 60), (1, .int l1), (2, .int l2), (3, .int l3), (4, .int l4), (5, .long l5), (7, .long l7), (9, .int l9), (10, .int l10), (11, .int l11), (12, .int s0)]) dX12_likely_118 rfl rfl ?_
  refine r_aload_n (x := 60) dX12_likely_120 rfl ?_
  refine r_iload (x := l10) dX12_likely_121 rfl ?_
  refine r_iload (x := l11) dX12_likely_123 rfl ?_
  refine r_calli (k := 0) (idx := 251) (y := 230) (as := [.ref 60, .int l10, .int l11]) (rest := []) (L0 := [(0, .ref 60), (1, .int l10), (2, .int l11)]) dX12_likely_125 rfl rfl rfl rfl rfl (vok_v (ob_60 hE) rfl) rfl (r_dep (by decide) (e_X12_maySlip hE q l10 l11)) (fun r12 => ?_)
  refine r_if_ne (t := 142) dX12_likely_128 rfl (fun h20 => ?_) (fun h20 => ?_)
  · refine r_iload (x := s0) dX12_likely_131 rfl ?_
    refine r_if_eq (t := 196) dX12_likely_133 rfl (fun h13 => ?_) (fun h13 => ?_)
    · exact r_sub (L' := [(0, .ref 60), (1, .int l1), (2, .int l2), (3, .int l3), (4, .int l4), (5, .long l5), (7, .long l7), (9, .int l9)]) (sub_c rfl (sub_c rfl (sub_c rfl (sub_c rfl (sub_c rfl (sub_c rfl (sub_c rfl (sub_c rfl sub_n)))))))) (rb_X12_likely_196 hE hrec_72 q l1 l2 l3 l4 l5 l7 l9)
    · refine r_lconst (v := (0 : Int64)) dX12_likely_136 rfl ?_
      refine r_lstore (L2 := [(0, .ref 60), (1, .int l1), (2, .int l2), (3, .int l3), (4, .int l4), (5, .long (0 : Int64)), (7, .long l7), (9, .int l9), (10, .int l10), (11, .int l11), (12, .int s0)]) dX12_likely_137 rfl rfl ?_
      refine r_goto (t := 196) dX12_likely_139 rfl ?_
      exact r_sub (L' := [(0, .ref 60), (1, .int l1), (2, .int l2), (3, .int l3), (4, .int l4), (5, .long (0 : Int64)), (7, .long l7), (9, .int l9)]) (sub_c rfl (sub_c rfl (sub_c rfl (sub_c rfl (sub_c rfl (sub_c rfl (sub_c rfl (sub_c rfl sub_n)))))))) (rb_X12_likely_196 hE hrec_72 q l1 l2 l3 l4 (0 : Int64) l7 l9)
  · refine r_aload_n (x := 60) dX12_likely_142 rfl ?_
    refine r_iload (x := l10) dX12_likely_143 rfl ?_
    refine r_iload (x := l11) dX12_likely_145 rfl ?_
    refine r_callI (k := 0) (idx := 260) (y := 231) (as := [.ref 60, .int l10, .int l11]) (rest := []) (L0 := [(0, .ref 60), (1, .int l10), (2, .int l11)]) dX12_likely_147 rfl rfl rfl rfl rfl (vok_v (ob_60 hE) rfl) rfl (r_dep (by decide) (e_X12_oddsOf hE q l10 l11)) (fun r14 => ?_)
    refine r_istore (L2 := [(0, .ref 60), (1, .int l1), (2, .int l2), (3, .int l3), (4, .int l4), (5, .long l5), (7, .long l7), (9, .int l9), (10, .int l10), (11, .int l11), (12, .int s0), (13, .int r14.1)]) dX12_likely_150 rfl rfl ?_
    refine r_lload (x := l5) dX12_likely_152 rfl ?_
    refine r_iload (x := s0) dX12_likely_154 rfl ?_
    refine r_if_eq (t := 165) dX12_likely_156 rfl (fun h19 => ?_) (fun h19 => ?_)
    · refine r_bipush (v := (12 : Int32)) dX12_likely_165 rfl ?_
      refine r_iload (x := r14.1) dX12_likely_167 rfl ?_
      refine r_isub dX12_likely_169 ?_
      refine r_i2l dX12_likely_170 ?_
      exact r_sub (L' := [(0, .ref 60), (1, .int l1), (2, .int l2), (3, .int l3), (4, .int l4), (7, .long l7), (9, .int l9), (10, .int l10), (11, .int l11), (12, .int s0)]) (sub_c rfl (sub_c rfl (sub_c rfl (sub_c rfl (sub_c rfl (sub_c rfl (sub_c rfl (sub_c rfl (sub_c rfl (sub_c rfl sub_n)))))))))) (rb_X12_likely_171 hE hrec_72 r14.2 l1 l2 l3 l4 l7 l9 l10 l11 s0 (((12 : Int32) - r14.1).toInt64) l5)
    · refine r_iload (x := r14.1) dX12_likely_159 rfl ?_
      refine r_i2l dX12_likely_161 ?_
      refine r_goto (t := 171) dX12_likely_162 rfl ?_
      exact r_sub (L' := [(0, .ref 60), (1, .int l1), (2, .int l2), (3, .int l3), (4, .int l4), (7, .long l7), (9, .int l9), (10, .int l10), (11, .int l11), (12, .int s0)]) (sub_c rfl (sub_c rfl (sub_c rfl (sub_c rfl (sub_c rfl (sub_c rfl (sub_c rfl (sub_c rfl (sub_c rfl (sub_c rfl sub_n)))))))))) (rb_X12_likely_171 hE hrec_72 r14.2 l1 l2 l3 l4 l7 l9 l10 l11 s0 (r14.1.toInt64) l5)
def b_X12_likely_72 : SS → Int32 → Int32 → Int32 → Int32 → Int64 → Int64 → Int32 → Option (Int64 × SS) :=
  fx8 (fun (rec_72 : SS → Int32 → Int32 → Int32 → Int32 → Int64 → Int64 → Int32 → Option (Int64 × SS)) (q : SS) (l1 : Int32) (l2 : Int32) (l3 : Int32) (l4 : Int32) (l5 : Int64) (l7 : Int64) (l9 : Int32) =>
  if l4 ≤ l9 then
  ((f_X12_lowest q l5 l7 l3).bind fun r7 =>
  some (r7, q))
  else
  ((f_X12_at q l1 l9).bind fun r8 =>
  nm (r8 / (8 : Int32)) fun v9 =>
  (f_X12_at q l1 l9).bind fun r10 =>
  nm (jrem r10 (8 : Int32)) fun v11 =>
  if ((jshr l2 l9) &&& (1 : Int32)) = (1 : Int32) then
  (b_X12_likely_118 rec_72 q l1 l2 l3 l4 l5 l7 l9 v9 v11 (1 : Int32))
  else
  (b_X12_likely_118 rec_72 q l1 l2 l3 l4 l5 l7 l9 v9 v11 (0 : Int32)))) FU
theorem rb_X12_likely_72 {E : EE} (hE : GE E) (q : SS) (l1 : Int32) (l2 : Int32) (l3 : Int32) (l4 : Int32) (l5 : Int64) (l7 : Int64) (l9 : Int32) : R E (κL E) 4 242 72 [(0, .ref 60), (1, .int l1), (2, .int l2), (3, .int l3), (4, .int l4), (5, .long l5), (7, .long l7), (9, .int l9)] [] q (b_X12_likely_72 q l1 l2 l3 l4 l5 l7 l9) := by
  unfold b_X12_likely_72
  refine fx8_ok (P := fun q l1 l2 l3 l4 l5 l7 l9 o => R E (κL E) 4 242 72 [(0, .ref 60), (1, .int l1), (2, .int l2), (3, .int l3), (4, .int l4), (5, .long l5), (7, .long l7), (9, .int l9)] [] q o) (fun _ _ _ _ _ _ _ _ => r_no) (fun rec_72 hrec_72 q l1 l2 l3 l4 l5 l7 l9 => ?_) _ _ _ _ _ _ _ _ _
  refine r_iload (x := l9) dX12_likely_72 rfl ?_
  refine r_iload (x := l4) dX12_likely_74 rfl ?_
  refine r_icmp_ge (t := 202) dX12_likely_76 rfl (fun h22 => ?_) (fun h22 => ?_)
  · refine r_lload (x := l5) dX12_likely_202 rfl ?_
    refine r_lload (x := l7) dX12_likely_204 rfl ?_
    refine r_iload_n (x := l3) dX12_likely_206 rfl ?_
    refine r_calll (k := 2) (idx := 288) (y := 241) (as := [.long l5, .long l7, .int l3]) (rest := []) (L0 := [(0, .long l5), (2, .long l7), (4, .int l3)]) dX12_likely_207 rfl rfl rfl rfl rfl vok_s rfl (r_dep (by decide) (e_X12_lowest hE q l5 l7 l3)) (fun r7 => ?_)
    exact r_lreturn dX12_likely_210 rfl rfl
  · refine r_aload_n (x := 60) dX12_likely_79 rfl ?_
    refine r_iload_n (x := l1) dX12_likely_80 rfl ?_
    refine r_iload (x := l9) dX12_likely_81 rfl ?_
    refine r_calli (k := 0) (idx := 263) (y := 235) (as := [.ref 60, .int l1, .int l9]) (rest := []) (L0 := [(0, .ref 60), (1, .int l1), (2, .int l9)]) dX12_likely_83 rfl rfl rfl rfl rfl (vok_v (ob_60 hE) rfl) rfl (r_dep (by decide) (e_X12_at hE q l1 l9)) (fun r8 => ?_)
    refine r_bipush (v := (8 : Int32)) dX12_likely_86 rfl ?_
    refine r_idivC dX12_likely_88 (by decide) ?_
    refine r_nmI fun v9 _ => ?_
    refine r_istore (L2 := [(0, .ref 60), (1, .int l1), (2, .int l2), (3, .int l3), (4, .int l4), (5, .long l5), (7, .long l7), (9, .int l9), (10, .int v9)]) dX12_likely_89 rfl rfl ?_
    refine r_aload_n (x := 60) dX12_likely_91 rfl ?_
    refine r_iload_n (x := l1) dX12_likely_92 rfl ?_
    refine r_iload (x := l9) dX12_likely_93 rfl ?_
    refine r_calli (k := 0) (idx := 263) (y := 235) (as := [.ref 60, .int l1, .int l9]) (rest := []) (L0 := [(0, .ref 60), (1, .int l1), (2, .int l9)]) dX12_likely_95 rfl rfl rfl rfl rfl (vok_v (ob_60 hE) rfl) rfl (r_dep (by decide) (e_X12_at hE q l1 l9)) (fun r10 => ?_)
    refine r_bipush (v := (8 : Int32)) dX12_likely_98 rfl ?_
    refine r_iremC dX12_likely_100 (by decide) ?_
    refine r_nmI fun v11 _ => ?_
    refine r_istore (L2 := [(0, .ref 60), (1, .int l1), (2, .int l2), (3, .int l3), (4, .int l4), (5, .long l5), (7, .long l7), (9, .int l9), (10, .int v9), (11, .int v11)]) dX12_likely_101 rfl rfl ?_
    refine r_iload_n (x := l2) dX12_likely_103 rfl ?_
    refine r_iload (x := l9) dX12_likely_104 rfl ?_
    refine r_ishr dX12_likely_106 ?_
    refine r_iconst (v := (1 : Int32)) dX12_likely_107 rfl ?_
    refine r_iand dX12_likely_108 ?_
    refine r_iconst (v := (1 : Int32)) dX12_likely_109 rfl ?_
    refine r_icmp_ne (t := 117) dX12_likely_110 rfl (fun h21 => ?_) (fun h21 => ?_)
    · refine r_iconst (v := (1 : Int32)) dX12_likely_113 rfl ?_
      refine r_goto (t := 118) dX12_likely_114 rfl ?_
      exact r_sub (L' := [(0, .ref 60), (1, .int l1), (2, .int l2), (3, .int l3), (4, .int l4), (5, .long l5), (7, .long l7), (9, .int l9), (10, .int v9), (11, .int v11)]) (sub_c rfl (sub_c rfl (sub_c rfl (sub_c rfl (sub_c rfl (sub_c rfl (sub_c rfl (sub_c rfl (sub_c rfl (sub_c rfl sub_n)))))))))) (rb_X12_likely_118 hE hrec_72 q l1 l2 l3 l4 l5 l7 l9 v9 v11 (1 : Int32))
    · refine r_iconst (v := (0 : Int32)) dX12_likely_117 rfl ?_
      exact r_sub (L' := [(0, .ref 60), (1, .int l1), (2, .int l2), (3, .int l3), (4, .int l4), (5, .long l5), (7, .long l7), (9, .int l9), (10, .int v9), (11, .int v11)]) (sub_c rfl (sub_c rfl (sub_c rfl (sub_c rfl (sub_c rfl (sub_c rfl (sub_c rfl (sub_c rfl (sub_c rfl (sub_c rfl sub_n)))))))))) (rb_X12_likely_118 hE hrec_72 q l1 l2 l3 l4 l5 l7 l9 v9 v11 (0 : Int32))
def b_X12_likely_64 (q : SS) (l1 : Int32) (l2 : Int32) (l3 : Int32) (l4 : Int32) (s0 : Int64) : Option (Int64 × SS) :=
  b_X12_likely_72 q l1 l2 l3 l4 s0 (1 : Int64) (0 : Int32)
theorem rb_X12_likely_64 {E : EE} (hE : GE E) (q : SS) (l1 : Int32) (l2 : Int32) (l3 : Int32) (l4 : Int32) (s0 : Int64) : R E (κL E) 4 242 64 [(0, .ref 60), (1, .int l1), (2, .int l2), (3, .int l3), (4, .int l4)] [.long s0] q (b_X12_likely_64 q l1 l2 l3 l4 s0) := by
  unfold b_X12_likely_64
  refine r_lstore (L2 := [(0, .ref 60), (1, .int l1), (2, .int l2), (3, .int l3), (4, .int l4), (5, .long s0)]) dX12_likely_64 rfl rfl ?_
  refine r_lconst (v := (1 : Int64)) dX12_likely_66 rfl ?_
  refine r_lstore (L2 := [(0, .ref 60), (1, .int l1), (2, .int l2), (3, .int l3), (4, .int l4), (5, .long s0), (7, .long (1 : Int64))]) dX12_likely_67 rfl rfl ?_
  refine r_iconst (v := (0 : Int32)) dX12_likely_69 rfl ?_
  refine r_istore (L2 := [(0, .ref 60), (1, .int l1), (2, .int l2), (3, .int l3), (4, .int l4), (5, .long s0), (7, .long (1 : Int64)), (9, .int (0 : Int32))]) dX12_likely_70 rfl rfl ?_
  exact r_sub (L' := [(0, .ref 60), (1, .int l1), (2, .int l2), (3, .int l3), (4, .int l4), (5, .long s0), (7, .long (1 : Int64)), (9, .int (0 : Int32))]) (sub_c rfl (sub_c rfl (sub_c rfl (sub_c rfl (sub_c rfl (sub_c rfl (sub_c rfl (sub_c rfl sub_n)))))))) (rb_X12_likely_72 hE q l1 l2 l3 l4 s0 (1 : Int64) (0 : Int32))
def f_X12_likely (q : SS) (a1 : Int32) (a2 : Int32) (a3 : Int32) : Option (Int64 × SS) :=
  (f_X12_isShelf q a1).bind fun r1 =>
  if r1 = 0 then
  (some ((-9223372036854775808 : Int64), q))
  else
  ((f_X12_in q a2 (0 : Int32) (4095 : Int32)).bind fun r2 =>
  if r2 = 0 then
  (some ((-9223372036854775808 : Int64), q))
  else
  ((f_X12_in q a3 (0 : Int32) (1 : Int32)).bind fun r3 =>
  if r3 = 0 then
  (some ((-9223372036854775808 : Int64), q))
  else
  ((f_X12_rowFault q a1).bind fun r4 =>
  if 0 ≤ r4 then
  ((f_X12_layNow q).bind fun r5 =>
  (f_X12_longOf r5 a1 (12 : Int32)).bind fun r6 =>
  if (jshr a2 r6) = 0 then
  (b_X12_likely_64 r5 a1 a2 a3 r6 (1 : Int64))
  else
  (b_X12_likely_64 r5 a1 a2 a3 r6 (0 : Int64)))
  else
  (some ((-9223372036854775808 : Int64), q)))))
theorem e_X12_likely {E : EE} (hE : GE E) (q : SS) (a1 : Int32) (a2 : Int32) (a3 : Int32) : R E (κL E) 4 242 0 [(0, .ref 60), (1, .int a1), (2, .int a2), (3, .int a3)] [] q (f_X12_likely q a1 a2 a3) := by
  unfold f_X12_likely
  refine r_iload_n (x := a1) dX12_likely_0 rfl ?_
  refine r_calli (k := 2) (idx := 137) (y := 288) (as := [.int a1]) (rest := []) (L0 := [(0, .int a1)]) dX12_likely_1 rfl rfl rfl rfl rfl vok_s rfl (r_dep (by decide) (e_X12_isShelf hE q a1)) (fun r1 => ?_)
  refine r_if_eq (t := 35) dX12_likely_4 rfl (fun h27 => ?_) (fun h27 => ?_)
  · refine r_ldc2 (v := (-9223372036854775808 : Int64)) dX12_likely_35 rfl ?_
    exact r_lreturn dX12_likely_38 rfl rfl
  · refine r_iload_n (x := a2) dX12_likely_7 rfl ?_
    refine r_iconst (v := (0 : Int32)) dX12_likely_8 rfl ?_
    refine r_sipush (v := (4095 : Int32)) dX12_likely_9 rfl ?_
    refine r_calli (k := 2) (idx := 118) (y := 189) (as := [.int a2, .int (0 : Int32), .int (4095 : Int32)]) (rest := []) (L0 := [(0, .int a2), (1, .int (0 : Int32)), (2, .int (4095 : Int32))]) dX12_likely_12 rfl rfl rfl rfl rfl vok_s rfl (r_dep (by decide) (e_X12_in hE q a2 (0 : Int32) (4095 : Int32))) (fun r2 => ?_)
    refine r_if_eq (t := 35) dX12_likely_15 rfl (fun h26 => ?_) (fun h26 => ?_)
    · refine r_ldc2 (v := (-9223372036854775808 : Int64)) dX12_likely_35 rfl ?_
      exact r_lreturn dX12_likely_38 rfl rfl
    · refine r_iload_n (x := a3) dX12_likely_18 rfl ?_
      refine r_iconst (v := (0 : Int32)) dX12_likely_19 rfl ?_
      refine r_iconst (v := (1 : Int32)) dX12_likely_20 rfl ?_
      refine r_calli (k := 2) (idx := 118) (y := 189) (as := [.int a3, .int (0 : Int32), .int (1 : Int32)]) (rest := []) (L0 := [(0, .int a3), (1, .int (0 : Int32)), (2, .int (1 : Int32))]) dX12_likely_21 rfl rfl rfl rfl rfl vok_s rfl (r_dep (by decide) (e_X12_in hE q a3 (0 : Int32) (1 : Int32))) (fun r3 => ?_)
      refine r_if_eq (t := 35) dX12_likely_24 rfl (fun h25 => ?_) (fun h25 => ?_)
      · refine r_ldc2 (v := (-9223372036854775808 : Int64)) dX12_likely_35 rfl ?_
        exact r_lreturn dX12_likely_38 rfl rfl
      · refine r_aload_n (x := 60) dX12_likely_27 rfl ?_
        refine r_iload_n (x := a1) dX12_likely_28 rfl ?_
        refine r_calli (k := 0) (idx := 278) (y := 234) (as := [.ref 60, .int a1]) (rest := []) (L0 := [(0, .ref 60), (1, .int a1)]) dX12_likely_29 rfl rfl rfl rfl rfl (vok_v (ob_60 hE) rfl) rfl (r_dep (by decide) (e_X12_rowFault hE q a1)) (fun r4 => ?_)
        refine r_if_ge (t := 39) dX12_likely_32 rfl (fun h24 => ?_) (fun h24 => ?_)
        · refine r_aload_n (x := 60) dX12_likely_39 rfl ?_
          refine r_callV (k := 0) (idx := 168) (y := 226) (as := [.ref 60]) (rest := []) (L0 := [(0, .ref 60)]) dX12_likely_40 rfl rfl rfl rfl rfl (vok_v (ob_60 hE) rfl) rfl (r_dep (by decide) (e_X12_layNow hE q)) (fun r5 => ?_)
          refine r_aload_n (x := 60) dX12_likely_43 rfl ?_
          refine r_iload_n (x := a1) dX12_likely_44 rfl ?_
          refine r_bipush (v := (12 : Int32)) dX12_likely_45 rfl ?_
          refine r_calli (k := 0) (idx := 272) (y := 236) (as := [.ref 60, .int a1, .int (12 : Int32)]) (rest := []) (L0 := [(0, .ref 60), (1, .int a1), (2, .int (12 : Int32))]) dX12_likely_47 rfl rfl rfl rfl rfl (vok_v (ob_60 hE) rfl) rfl (r_dep (by decide) (e_X12_longOf hE r5 a1 (12 : Int32))) (fun r6 => ?_)
          refine r_istore (L2 := [(0, .ref 60), (1, .int a1), (2, .int a2), (3, .int a3), (4, .int r6)]) dX12_likely_50 rfl rfl ?_
          refine r_iload_n (x := a2) dX12_likely_52 rfl ?_
          refine r_iload (x := r6) dX12_likely_53 rfl ?_
          refine r_ishr dX12_likely_55 ?_
          refine r_if_ne (t := 63) dX12_likely_56 rfl (fun h23 => ?_) (fun h23 => ?_)
          · refine r_lconst (v := (1 : Int64)) dX12_likely_59 rfl ?_
            refine r_goto (t := 64) dX12_likely_60 rfl ?_
            exact r_sub (L' := [(0, .ref 60), (1, .int a1), (2, .int a2), (3, .int a3), (4, .int r6)]) (sub_c rfl (sub_c rfl (sub_c rfl (sub_c rfl (sub_c rfl sub_n))))) (rb_X12_likely_64 hE r5 a1 a2 a3 r6 (1 : Int64))
          · refine r_lconst (v := (0 : Int64)) dX12_likely_63 rfl ?_
            exact r_sub (L' := [(0, .ref 60), (1, .int a1), (2, .int a2), (3, .int a3), (4, .int r6)]) (sub_c rfl (sub_c rfl (sub_c rfl (sub_c rfl (sub_c rfl sub_n))))) (rb_X12_likely_64 hE r5 a1 a2 a3 r6 (0 : Int64))
        · refine r_ldc2 (v := (-9223372036854775808 : Int64)) dX12_likely_35 rfl ?_
          exact r_lreturn dX12_likely_38 rfl rfl
def b_X2_goByWell_109 (rec_12 : SS → Int32 → Int32 → Option SS) (q : SS) (l1 : Int32) (l2 : Int32) : Option SS :=
  rec_12 q l1 (l2 + (1 : Int32))
theorem rb_X2_goByWell_109 {E : EE} (hE : GE E) {rec_12 : SS → Int32 → Int32 → Option SS} (hrec_12 : ∀ (yq : SS) (yl1 : Int32) (yl2 : Int32), R E (κV E) 5 22 12 [(0, .ref 37), (1, .int yl1), (2, .int yl2)] [] yq (rec_12 yq yl1 yl2)) (q : SS) (l1 : Int32) (l2 : Int32) : R E (κV E) 5 22 109 [(0, .ref 37), (1, .int l1), (2, .int l2)] [] q (b_X2_goByWell_109 rec_12 q l1 l2) := by
  unfold b_X2_goByWell_109
  refine r_iinc (x := l2) (v := (l2 + (1 : Int32))) (L2 := [(0, .ref 37), (1, .int l1), (2, .int (l2 + (1 : Int32)))]) dX2_goByWell_109 rfl rfl rfl rfl ?_
  refine r_goto (t := 12) dX2_goByWell_112 rfl ?_
  exact r_sub (L' := [(0, .ref 37), (1, .int l1), (2, .int (l2 + (1 : Int32)))]) (sub_c rfl (sub_c rfl (sub_c rfl sub_n))) (hrec_12 q l1 (l2 + (1 : Int32)))
def b_X2_goByWell_12 : SS → Int32 → Int32 → Option SS :=
  fx3 (fun (rec_12 : SS → Int32 → Int32 → Option SS) (q : SS) (l1 : Int32) (l2 : Int32) =>
  if l1 ≤ l2 then
  (some q)
  else
  (if (q.1 37 3) ≤ l2 then
  (some q)
  else
  ((f_X2_ticketAt q l2).bind fun r3 =>
  (f_X2_toAt q l2).bind fun r4 =>
  (f_X8_canSlip q r3 r4).bind fun r5 =>
  if r5 = 0 then
  (nm (sI q 37 5 ((q.1 37 5) ||| (jshl (1 : Int32) l2))) fun q6 =>
  b_X2_goByWell_109 rec_12 q6 l1 l2)
  else
  ((f_X2_ticketAt q l2).bind fun r7 =>
  (f_X2_toAt q l2).bind fun r8 =>
  (f_X8_oddsOf q r7 r8).bind fun r9 =>
  if r9.1 < (6 : Int32) then
  (b_X2_goByWell_109 rec_12 r9.2 l1 l2)
  else
  (nm (sI r9.2 37 4 ((r9.2.1 37 4) + (1 : Int32))) fun q10 =>
  (f_X2_ticketAt q10 l2).bind fun r11 =>
  (f_X2_toAt q10 l2).bind fun r12 =>
  (f_X8_give q10 r11 r12).bind fun r13 =>
  b_X2_goByWell_109 rec_12 r13 l1 l2))))) FU
theorem rb_X2_goByWell_12 {E : EE} (hE : GE E) (q : SS) (l1 : Int32) (l2 : Int32) : R E (κV E) 5 22 12 [(0, .ref 37), (1, .int l1), (2, .int l2)] [] q (b_X2_goByWell_12 q l1 l2) := by
  unfold b_X2_goByWell_12
  refine fx3_ok (P := fun q l1 l2 o => R E (κV E) 5 22 12 [(0, .ref 37), (1, .int l1), (2, .int l2)] [] q o) (fun _ _ _ => r_no) (fun rec_12 hrec_12 q l1 l2 => ?_) _ _ _ _
  refine r_iload_n (x := l2) dX2_goByWell_12 rfl ?_
  refine r_iload_n (x := l1) dX2_goByWell_13 rfl ?_
  refine r_icmp_ge (t := 115) dX2_goByWell_14 rfl (fun h17 => ?_) (fun h17 => ?_)
  · exact r_return dX2_goByWell_115 rfl rfl
  · refine r_iload_n (x := l2) dX2_goByWell_17 rfl ?_
    refine r_aload_n (x := 37) dX2_goByWell_18 rfl ?_
    refine r_getI dX2_goByWell_19 (ff_2_40_37 hE) (by decide) ?_
    refine r_icmp_ge (t := 115) dX2_goByWell_22 rfl (fun h16 => ?_) (fun h16 => ?_)
    · exact r_return dX2_goByWell_115 rfl rfl
    · refine r_aload_n (x := 37) dX2_goByWell_25 rfl ?_
      refine r_getA dX2_goByWell_26 (fa_2_15_37 hE) ?_
      refine r_aload_n (x := 37) dX2_goByWell_29 rfl ?_
      refine r_iload_n (x := l2) dX2_goByWell_30 rfl ?_
      refine r_calli (k := 0) (idx := 67) (y := 16) (as := [.ref 37, .int l2]) (rest := [.ref 24]) (L0 := [(0, .ref 37), (1, .int l2)]) dX2_goByWell_31 rfl rfl rfl rfl rfl (vok_v (ob_37 hE) rfl) rfl (r_dep (by decide) (e_X2_ticketAt hE q l2)) (fun r3 => ?_)
      refine r_aload_n (x := 37) dX2_goByWell_34 rfl ?_
      refine r_iload_n (x := l2) dX2_goByWell_35 rfl ?_
      refine r_calli (k := 0) (idx := 70) (y := 17) (as := [.ref 37, .int l2]) (rest := [.int r3, .ref 24]) (L0 := [(0, .ref 37), (1, .int l2)]) dX2_goByWell_36 rfl rfl rfl rfl rfl (vok_v (ob_37 hE) rfl) rfl (r_dep (by decide) (e_X2_toAt hE q l2)) (fun r4 => ?_)
      refine r_calli (k := 0) (idx := 73) (y := 107) (as := [.ref 24, .int r3, .int r4]) (rest := []) (L0 := [(0, .ref 24), (1, .int r3), (2, .int r4)]) dX2_goByWell_39 rfl rfl rfl rfl rfl (vok_v (ob_24 hE) rfl) rfl (r_dep (by decide) (e_X8_canSlip hE q r3 r4)) (fun r5 => ?_)
      refine r_if_ne (t := 60) dX2_goByWell_42 rfl (fun h15 => ?_) (fun h15 => ?_)
      · refine r_aload_n (x := 37) dX2_goByWell_45 rfl ?_
        refine r_dup dX2_goByWell_46 rfl ?_
        refine r_getI dX2_goByWell_47 (ff_2_57_37 hE) (by decide) ?_
        refine r_iconst (v := (1 : Int32)) dX2_goByWell_50 rfl ?_
        refine r_iload_n (x := l2) dX2_goByWell_51 rfl ?_
        refine r_ishl dX2_goByWell_52 ?_
        refine r_ior dX2_goByWell_53 ?_
        refine r_putI dX2_goByWell_54 (ff_2_57_37 hE) ?_
        refine r_nmS fun q6 _ => ?_
        refine r_goto (t := 109) dX2_goByWell_57 rfl ?_
        exact r_sub (L' := [(0, .ref 37), (1, .int l1), (2, .int l2)]) (sub_c rfl (sub_c rfl (sub_c rfl sub_n))) (rb_X2_goByWell_109 hE hrec_12 q6 l1 l2)
      · refine r_aload_n (x := 37) dX2_goByWell_60 rfl ?_
        refine r_getA dX2_goByWell_61 (fa_2_15_37 hE) ?_
        refine r_aload_n (x := 37) dX2_goByWell_64 rfl ?_
        refine r_iload_n (x := l2) dX2_goByWell_65 rfl ?_
        refine r_calli (k := 0) (idx := 67) (y := 16) (as := [.ref 37, .int l2]) (rest := [.ref 24]) (L0 := [(0, .ref 37), (1, .int l2)]) dX2_goByWell_66 rfl rfl rfl rfl rfl (vok_v (ob_37 hE) rfl) rfl (r_dep (by decide) (e_X2_ticketAt hE q l2)) (fun r7 => ?_)
        refine r_aload_n (x := 37) dX2_goByWell_69 rfl ?_
        refine r_iload_n (x := l2) dX2_goByWell_70 rfl ?_
        refine r_calli (k := 0) (idx := 70) (y := 17) (as := [.ref 37, .int l2]) (rest := [.int r7, .ref 24]) (L0 := [(0, .ref 37), (1, .int l2)]) dX2_goByWell_71 rfl rfl rfl rfl rfl (vok_v (ob_37 hE) rfl) rfl (r_dep (by decide) (e_X2_toAt hE q l2)) (fun r8 => ?_)
        refine r_callI (k := 0) (idx := 77) (y := 109) (as := [.ref 24, .int r7, .int r8]) (rest := []) (L0 := [(0, .ref 24), (1, .int r7), (2, .int r8)]) dX2_goByWell_74 rfl rfl rfl rfl rfl (vok_v (ob_24 hE) rfl) rfl (r_dep (by decide) (e_X8_oddsOf hE q r7 r8)) (fun r9 => ?_)
        refine r_bipush (v := (6 : Int32)) dX2_goByWell_77 rfl ?_
        refine r_icmp_lt (t := 109) dX2_goByWell_79 rfl (fun h14 => ?_) (fun h14 => ?_)
        · exact r_sub (L' := [(0, .ref 37), (1, .int l1), (2, .int l2)]) (sub_c rfl (sub_c rfl (sub_c rfl sub_n))) (rb_X2_goByWell_109 hE hrec_12 r9.2 l1 l2)
        · refine r_aload_n (x := 37) dX2_goByWell_82 rfl ?_
          refine r_dup dX2_goByWell_83 rfl ?_
          refine r_getI dX2_goByWell_84 (ff_2_54_37 hE) (by decide) ?_
          refine r_iconst (v := (1 : Int32)) dX2_goByWell_87 rfl ?_
          refine r_iadd dX2_goByWell_88 ?_
          refine r_putI dX2_goByWell_89 (ff_2_54_37 hE) ?_
          refine r_nmS fun q10 _ => ?_
          refine r_aload_n (x := 37) dX2_goByWell_92 rfl ?_
          refine r_getA dX2_goByWell_93 (fa_2_15_37 hE) ?_
          refine r_aload_n (x := 37) dX2_goByWell_96 rfl ?_
          refine r_iload_n (x := l2) dX2_goByWell_97 rfl ?_
          refine r_calli (k := 0) (idx := 67) (y := 16) (as := [.ref 37, .int l2]) (rest := [.ref 24]) (L0 := [(0, .ref 37), (1, .int l2)]) dX2_goByWell_98 rfl rfl rfl rfl rfl (vok_v (ob_37 hE) rfl) rfl (r_dep (by decide) (e_X2_ticketAt hE q10 l2)) (fun r11 => ?_)
          refine r_aload_n (x := 37) dX2_goByWell_101 rfl ?_
          refine r_iload_n (x := l2) dX2_goByWell_102 rfl ?_
          refine r_calli (k := 0) (idx := 70) (y := 17) (as := [.ref 37, .int l2]) (rest := [.int r11, .ref 24]) (L0 := [(0, .ref 37), (1, .int l2)]) dX2_goByWell_103 rfl rfl rfl rfl rfl (vok_v (ob_37 hE) rfl) rfl (r_dep (by decide) (e_X2_toAt hE q10 l2)) (fun r12 => ?_)
          refine r_callV (k := 0) (idx := 80) (y := 99) (as := [.ref 24, .int r11, .int r12]) (rest := []) (L0 := [(0, .ref 24), (1, .int r11), (2, .int r12)]) dX2_goByWell_106 rfl rfl rfl rfl rfl (vok_v (ob_24 hE) rfl) rfl (r_dep (by decide) (e_X8_give hE q10 r11 r12)) (fun r13 => ?_)
          exact r_sub (L' := [(0, .ref 37), (1, .int l1), (2, .int l2)]) (sub_c rfl (sub_c rfl (sub_c rfl sub_n))) (rb_X2_goByWell_109 hE hrec_12 r13 l1 l2)
def f_X2_goByWell (q : SS) (a1 : Int32) : Option SS :=
  nm (sI q 37 4 (0 : Int32)) fun q1 =>
  nm (sI q1 37 5 (0 : Int32)) fun q2 =>
  b_X2_goByWell_12 q2 a1 (0 : Int32)
theorem e_X2_goByWell {E : EE} (hE : GE E) (q : SS) (a1 : Int32) : R E (κV E) 5 22 0 [(0, .ref 37), (1, .int a1)] [] q (f_X2_goByWell q a1) := by
  unfold f_X2_goByWell
  refine r_aload_n (x := 37) dX2_goByWell_0 rfl ?_
  refine r_iconst (v := (0 : Int32)) dX2_goByWell_1 rfl ?_
  refine r_putI dX2_goByWell_2 (ff_2_54_37 hE) ?_
  refine r_nmS fun q1 _ => ?_
  refine r_aload_n (x := 37) dX2_goByWell_5 rfl ?_
  refine r_iconst (v := (0 : Int32)) dX2_goByWell_6 rfl ?_
  refine r_putI dX2_goByWell_7 (ff_2_57_37 hE) ?_
  refine r_nmS fun q2 _ => ?_
  refine r_iconst (v := (0 : Int32)) dX2_goByWell_10 rfl ?_
  refine r_istore_n (L2 := [(0, .ref 37), (1, .int a1), (2, .int (0 : Int32))]) dX2_goByWell_11 rfl rfl ?_
  exact r_sub (L' := [(0, .ref 37), (1, .int a1), (2, .int (0 : Int32))]) (sub_c rfl (sub_c rfl (sub_c rfl sub_n))) (rb_X2_goByWell_12 hE q2 a1 (0 : Int32))
def f_X2_wells (q : SS)  : Option Int32 :=
  some (q.1 37 4)
theorem e_X2_wells {E : EE} (hE : GE E) (q : SS)  : R E (κi E q) 0 18 0 [(0, .ref 37)] [] q (f_X2_wells q) := by
  unfold f_X2_wells
  refine r_aload_n (x := 37) dX2_wells_0 rfl ?_
  refine r_getI dX2_wells_1 (ff_2_54_37 hE) (by decide) ?_
  exact r_ireturn dX2_wells_4 rfl rfl
def f_X2_leftOut (q : SS)  : Option Int32 :=
  some (q.1 37 5)
theorem e_X2_leftOut {E : EE} (hE : GE E) (q : SS)  : R E (κi E q) 0 19 0 [(0, .ref 37)] [] q (f_X2_leftOut q) := by
  unfold f_X2_leftOut
  refine r_aload_n (x := 37) dX2_leftOut_0 rfl ?_
  refine r_getI dX2_leftOut_1 (ff_2_57_37 hE) (by decide) ?_
  exact r_ireturn dX2_leftOut_4 rfl rfl
def b_X11_eve_45 (q : SS) (l1 : Int32) (l2 : Int32) (l3 : Int32) : Option (Int32 × SS) :=
  (f_X7_refusalOfBytes q l1).bind fun r2 =>
  if r2 = 0 then
  ((f_X2_begin q l1).bind fun r3 =>
  (f_X2_goByWell r3 l2).bind fun r4 =>
  if l3 = (-1 : Int32) then
  ((f_X2_wells r4).bind fun r5 =>
  some (r5, r4))
  else
  (if l3 = (-2 : Int32) then
  ((f_X2_leftOut r4).bind fun r6 =>
  some (r6, r4))
  else
  ((f_X8_realsOf r4 l3).bind fun r7 =>
  some (r7, r4))))
  else
  (some (r2, q))
theorem rb_X11_eve_45 {E : EE} (hE : GE E) (q : SS) (l1 : Int32) (l2 : Int32) (l3 : Int32) : R E (κI E) 6 150 45 [(0, .ref 0), (1, .int l1), (2, .int l2), (3, .int l3)] [] q (b_X11_eve_45 q l1 l2 l3) := by
  unfold b_X11_eve_45
  refine r_aload_n (x := 0) dX11_eve_45 rfl ?_
  refine r_getA dX11_eve_46 (fa_11_42_0 hE) ?_
  refine r_iload_n (x := l1) dX11_eve_49 rfl ?_
  refine r_calli (k := 0) (idx := 110) (y := 85) (as := [.ref 26, .int l1]) (rest := []) (L0 := [(0, .ref 26), (1, .int l1)]) dX11_eve_50 rfl rfl rfl rfl rfl (vok_v (ob_26 hE) rfl) rfl (r_dep (by decide) (e_X7_refusalOfBytes hE q l1)) (fun r2 => ?_)
  refine r_istore (L2 := [(0, .ref 0), (1, .int l1), (2, .int l2), (3, .int l3), (4, .int r2)]) dX11_eve_53 rfl rfl ?_
  refine r_iload (x := r2) dX11_eve_55 rfl ?_
  refine r_if_eq (t := 63) dX11_eve_57 rfl (fun h10 => ?_) (fun h10 => ?_)
  · refine r_aload_n (x := 0) dX11_eve_63 rfl ?_
    refine r_getA dX11_eve_64 (fa_11_51_0 hE) ?_
    refine r_aload_n (x := 0) dX11_eve_67 rfl ?_
    refine r_getA dX11_eve_68 (fa_11_42_0 hE) ?_
    refine r_iload_n (x := l1) dX11_eve_71 rfl ?_
    refine r_callV (k := 0) (idx := 183) (y := 14) (as := [.ref 37, .ref 26, .int l1]) (rest := []) (L0 := [(0, .ref 37), (1, .ref 26), (2, .int l1)]) dX11_eve_72 rfl rfl rfl rfl rfl (vok_v (ob_37 hE) rfl) rfl (r_dep (by decide) (e_X2_begin hE q l1)) (fun r3 => ?_)
    refine r_aload_n (x := 0) dX11_eve_75 rfl ?_
    refine r_getA dX11_eve_76 (fa_11_51_0 hE) ?_
    refine r_iload_n (x := l2) dX11_eve_79 rfl ?_
    refine r_callV (k := 0) (idx := 186) (y := 22) (as := [.ref 37, .int l2]) (rest := []) (L0 := [(0, .ref 37), (1, .int l2)]) dX11_eve_80 rfl rfl rfl rfl rfl (vok_v (ob_37 hE) rfl) rfl (r_dep (by decide) (e_X2_goByWell hE r3 l2)) (fun r4 => ?_)
    refine r_iload_n (x := l3) dX11_eve_83 rfl ?_
    refine r_iconst (v := (-1 : Int32)) dX11_eve_84 rfl ?_
    refine r_icmp_ne (t := 96) dX11_eve_85 rfl (fun h9 => ?_) (fun h9 => ?_)
    · refine r_aload_n (x := 0) dX11_eve_88 rfl ?_
      refine r_getA dX11_eve_89 (fa_11_51_0 hE) ?_
      refine r_calli (k := 0) (idx := 193) (y := 18) (as := [.ref 37]) (rest := []) (L0 := [(0, .ref 37)]) dX11_eve_92 rfl rfl rfl rfl rfl (vok_v (ob_37 hE) rfl) rfl (r_dep (by decide) (e_X2_wells hE r4)) (fun r5 => ?_)
      exact r_ireturn dX11_eve_95 rfl rfl
    · refine r_iload_n (x := l3) dX11_eve_96 rfl ?_
      refine r_bipush (v := (-2 : Int32)) dX11_eve_97 rfl ?_
      refine r_icmp_ne (t := 112) dX11_eve_99 rfl (fun h8 => ?_) (fun h8 => ?_)
      · refine r_aload_n (x := 0) dX11_eve_102 rfl ?_
        refine r_getA dX11_eve_103 (fa_11_51_0 hE) ?_
        refine r_calli (k := 0) (idx := 196) (y := 19) (as := [.ref 37]) (rest := []) (L0 := [(0, .ref 37)]) dX11_eve_106 rfl rfl rfl rfl rfl (vok_v (ob_37 hE) rfl) rfl (r_dep (by decide) (e_X2_leftOut hE r4)) (fun r6 => ?_)
        refine r_goto (t := 120) dX11_eve_109 rfl ?_
        exact r_ireturn dX11_eve_120 rfl rfl
      · refine r_aload_n (x := 0) dX11_eve_112 rfl ?_
        refine r_getA dX11_eve_113 (fa_11_35_0 hE) ?_
        refine r_iload_n (x := l3) dX11_eve_116 rfl ?_
        refine r_calli (k := 0) (idx := 150) (y := 101) (as := [.ref 24, .int l3]) (rest := []) (L0 := [(0, .ref 24), (1, .int l3)]) dX11_eve_117 rfl rfl rfl rfl rfl (vok_v (ob_24 hE) rfl) rfl (r_dep (by decide) (e_X8_realsOf hE r4 l3)) (fun r7 => ?_)
        exact r_ireturn dX11_eve_120 rfl rfl
  · refine r_iload (x := r2) dX11_eve_60 rfl ?_
    exact r_ireturn dX11_eve_62 rfl rfl
def f_X11_eve (q : SS) (a1 : Int32) (a2 : Int32) (a3 : Int32) : Option (Int32 × SS) :=
  (f_X7_isShelf q a1).bind fun r1 =>
  if r1 = 0 then
  (some ((-1 : Int32), q))
  else
  (if a2 < 0 then
  (some ((-1 : Int32), q))
  else
  (if (12 : Int32) < a2 then
  (some ((-1 : Int32), q))
  else
  (if a3 = (-1 : Int32) then
  (b_X11_eve_45 q a1 a2 a3)
  else
  (if a3 = (-2 : Int32) then
  (b_X11_eve_45 q a1 a2 a3)
  else
  ((f_X10_isPerson q a3).bind fun r11 =>
  if r11 = 0 then
  (some ((-1 : Int32), q))
  else
  (b_X11_eve_45 q a1 a2 a3))))))
theorem e_X11_eve {E : EE} (hE : GE E) (q : SS) (a1 : Int32) (a2 : Int32) (a3 : Int32) : R E (κI E) 6 150 0 [(0, .ref 0), (1, .int a1), (2, .int a2), (3, .int a3)] [] q (f_X11_eve q a1 a2 a3) := by
  unfold f_X11_eve
  refine r_aload_n (x := 0) dX11_eve_0 rfl ?_
  refine r_getA dX11_eve_1 (fa_11_42_0 hE) ?_
  refine r_iload_n (x := a1) dX11_eve_4 rfl ?_
  refine r_calli (k := 0) (idx := 106) (y := 79) (as := [.ref 26, .int a1]) (rest := []) (L0 := [(0, .ref 26), (1, .int a1)]) dX11_eve_5 rfl rfl rfl rfl rfl (vok_v (ob_26 hE) rfl) rfl (r_dep (by decide) (e_X7_isShelf hE q a1)) (fun r1 => ?_)
  refine r_if_eq (t := 43) dX11_eve_8 rfl (fun h17 => ?_) (fun h17 => ?_)
  · refine r_iconst (v := (-1 : Int32)) dX11_eve_43 rfl ?_
    exact r_ireturn dX11_eve_44 rfl rfl
  · refine r_iload_n (x := a2) dX11_eve_11 rfl ?_
    refine r_if_lt (t := 43) dX11_eve_12 rfl (fun h16 => ?_) (fun h16 => ?_)
    · refine r_iconst (v := (-1 : Int32)) dX11_eve_43 rfl ?_
      exact r_ireturn dX11_eve_44 rfl rfl
    · refine r_iload_n (x := a2) dX11_eve_15 rfl ?_
      refine r_bipush (v := (12 : Int32)) dX11_eve_16 rfl ?_
      refine r_icmp_gt (t := 43) dX11_eve_18 rfl (fun h15 => ?_) (fun h15 => ?_)
      · refine r_iconst (v := (-1 : Int32)) dX11_eve_43 rfl ?_
        exact r_ireturn dX11_eve_44 rfl rfl
      · refine r_iload_n (x := a3) dX11_eve_21 rfl ?_
        refine r_iconst (v := (-1 : Int32)) dX11_eve_22 rfl ?_
        refine r_icmp_eq (t := 45) dX11_eve_23 rfl (fun h14 => ?_) (fun h14 => ?_)
        · exact r_sub (L' := [(0, .ref 0), (1, .int a1), (2, .int a2), (3, .int a3)]) (sub_c rfl (sub_c rfl (sub_c rfl (sub_c rfl sub_n)))) (rb_X11_eve_45 hE q a1 a2 a3)
        · refine r_iload_n (x := a3) dX11_eve_26 rfl ?_
          refine r_bipush (v := (-2 : Int32)) dX11_eve_27 rfl ?_
          refine r_icmp_eq (t := 45) dX11_eve_29 rfl (fun h13 => ?_) (fun h13 => ?_)
          · exact r_sub (L' := [(0, .ref 0), (1, .int a1), (2, .int a2), (3, .int a3)]) (sub_c rfl (sub_c rfl (sub_c rfl (sub_c rfl sub_n)))) (rb_X11_eve_45 hE q a1 a2 a3)
          · refine r_aload_n (x := 0) dX11_eve_32 rfl ?_
            refine r_getA dX11_eve_33 (fa_11_10_0 hE) ?_
            refine r_iload_n (x := a3) dX11_eve_36 rfl ?_
            refine r_calli (k := 0) (idx := 140) (y := 128) (as := [.ref 1, .int a3]) (rest := []) (L0 := [(0, .ref 1), (1, .int a3)]) dX11_eve_37 rfl rfl rfl rfl rfl (vok_v (ob_1 hE) rfl) rfl (r_dep (by decide) (e_X10_isPerson hE q a3)) (fun r11 => ?_)
            refine r_if_ne (t := 45) dX11_eve_40 rfl (fun h12 => ?_) (fun h12 => ?_)
            · refine r_iconst (v := (-1 : Int32)) dX11_eve_43 rfl ?_
              exact r_ireturn dX11_eve_44 rfl rfl
            · exact r_sub (L' := [(0, .ref 0), (1, .int a1), (2, .int a2), (3, .int a3)]) (sub_c rfl (sub_c rfl (sub_c rfl (sub_c rfl sub_n)))) (rb_X11_eve_45 hE q a1 a2 a3)
def f_X12_areMany (q : SS) (a0 : Int32) : Option Int32 :=
  (f_X12_in q a0 (0 : Int32) (12 : Int32)).bind fun r1 =>
  if r1 = 0 ∨ r1 = 1 then some r1 else none
theorem e_X12_areMany {E : EE} (hE : GE E) (q : SS) (a0 : Int32) : R E (κi E q) 1 238 0 [(0, .int a0)] [] q (f_X12_areMany q a0) := by
  unfold f_X12_areMany
  refine r_iload_n (x := a0) dX12_areMany_0 rfl ?_
  refine r_iconst (v := (0 : Int32)) dX12_areMany_1 rfl ?_
  refine r_bipush (v := (12 : Int32)) dX12_areMany_2 rfl ?_
  refine r_calli (k := 2) (idx := 118) (y := 189) (as := [.int a0, .int (0 : Int32), .int (12 : Int32)]) (rest := []) (L0 := [(0, .int a0), (1, .int (0 : Int32)), (2, .int (12 : Int32))]) dX12_areMany_4 rfl rfl rfl rfl rfl vok_s rfl (r_dep (by decide) (e_X12_in hE q a0 (0 : Int32) (12 : Int32))) (fun r1 => ?_)
  exact r_zreturn dX12_areMany_7 rfl rfl
def b_X12_goEve_113 (rec_24 : SS → Int32 → Int32 → Int32 → Option SS) (q : SS) (l1 : Int32) (l3 : Int32) (l4 : Int32) : Option SS :=
  rec_24 q l1 l3 (l4 + (1 : Int32))
theorem rb_X12_goEve_113 {E : EE} (hE : GE E) {rec_24 : SS → Int32 → Int32 → Int32 → Option SS} (hrec_24 : ∀ (yq : SS) (yl1 : Int32) (yl3 : Int32) (yl4 : Int32), R E (κV E) 4 237 24 [(0, .ref 60), (1, .int yl1), (3, .int yl3), (4, .int yl4)] [] yq (rec_24 yq yl1 yl3 yl4)) (q : SS) (l1 : Int32) (l3 : Int32) (l4 : Int32) : R E (κV E) 4 237 113 [(0, .ref 60), (1, .int l1), (3, .int l3), (4, .int l4)] [] q (b_X12_goEve_113 rec_24 q l1 l3 l4) := by
  unfold b_X12_goEve_113
  refine r_iinc (x := l4) (v := (l4 + (1 : Int32))) (L2 := [(0, .ref 60), (1, .int l1), (3, .int l3), (4, .int (l4 + (1 : Int32)))]) dX12_goEve_113 rfl rfl rfl rfl ?_
  refine r_goto (t := 24) dX12_goEve_116 rfl ?_
  exact r_sub (L' := [(0, .ref 60), (1, .int l1), (3, .int l3), (4, .int (l4 + (1 : Int32)))]) (sub_c rfl (sub_c rfl (sub_c rfl (sub_c rfl sub_n)))) (hrec_24 q l1 l3 (l4 + (1 : Int32)))
def b_X12_goEve_24 : SS → Int32 → Int32 → Int32 → Option SS :=
  fx4 (fun (rec_24 : SS → Int32 → Int32 → Int32 → Option SS) (q : SS) (l1 : Int32) (l3 : Int32) (l4 : Int32) =>
  if l3 ≤ l4 then
  (some q)
  else
  ((f_X12_at q l1 l4).bind fun r5 =>
  nm (r5 / (8 : Int32)) fun v6 =>
  (f_X12_at q l1 l4).bind fun r7 =>
  nm (jrem r7 (8 : Int32)) fun v8 =>
  (f_X12_maySlip q v6 v8).bind fun r9 =>
  if r9 = 0 then
  (nm (sI q 60 34 ((q.1 60 34) ||| (jshl (1 : Int32) l4))) fun q10 =>
  b_X12_goEve_113 rec_24 q10 l1 l3 l4)
  else
  ((f_X12_oddsOf q v6 v8).bind fun r11 =>
  if r11.1 < (6 : Int32) then
  (b_X12_goEve_113 rec_24 r11.2 l1 l3 l4)
  else
  (if vin v6 12 then
  nm (sI r11.2 81 v6.toNatClampNeg v8) fun q12 =>
  nm (sI q12 60 33 ((q12.1 60 33) + (1 : Int32))) fun q13 =>
  b_X12_goEve_113 rec_24 q13 l1 l3 l4
  else none)))) FU
theorem rb_X12_goEve_24 {E : EE} (hE : GE E) (q : SS) (l1 : Int32) (l3 : Int32) (l4 : Int32) : R E (κV E) 4 237 24 [(0, .ref 60), (1, .int l1), (3, .int l3), (4, .int l4)] [] q (b_X12_goEve_24 q l1 l3 l4) := by
  unfold b_X12_goEve_24
  refine fx4_ok (P := fun q l1 l3 l4 o => R E (κV E) 4 237 24 [(0, .ref 60), (1, .int l1), (3, .int l3), (4, .int l4)] [] q o) (fun _ _ _ _ => r_no) (fun rec_24 hrec_24 q l1 l3 l4 => ?_) _ _ _ _ _
  refine r_iload (x := l4) dX12_goEve_24 rfl ?_
  refine r_iload_n (x := l3) dX12_goEve_26 rfl ?_
  refine r_icmp_ge (t := 119) dX12_goEve_27 rfl (fun h16 => ?_) (fun h16 => ?_)
  · exact r_return dX12_goEve_119 rfl rfl
  · refine r_aload_n (x := 60) dX12_goEve_30 rfl ?_
    refine r_iload_n (x := l1) dX12_goEve_31 rfl ?_
    refine r_iload (x := l4) dX12_goEve_32 rfl ?_
    refine r_calli (k := 0) (idx := 263) (y := 235) (as := [.ref 60, .int l1, .int l4]) (rest := []) (L0 := [(0, .ref 60), (1, .int l1), (2, .int l4)]) dX12_goEve_34 rfl rfl rfl rfl rfl (vok_v (ob_60 hE) rfl) rfl (r_dep (by decide) (e_X12_at hE q l1 l4)) (fun r5 => ?_)
    refine r_bipush (v := (8 : Int32)) dX12_goEve_37 rfl ?_
    refine r_idivC dX12_goEve_39 (by decide) ?_
    refine r_nmI fun v6 _ => ?_
    refine r_istore (L2 := [(0, .ref 60), (1, .int l1), (3, .int l3), (4, .int l4), (5, .int v6)]) dX12_goEve_40 rfl rfl ?_
    refine r_aload_n (x := 60) dX12_goEve_42 rfl ?_
    refine r_iload_n (x := l1) dX12_goEve_43 rfl ?_
    refine r_iload (x := l4) dX12_goEve_44 rfl ?_
    refine r_calli (k := 0) (idx := 263) (y := 235) (as := [.ref 60, .int l1, .int l4]) (rest := []) (L0 := [(0, .ref 60), (1, .int l1), (2, .int l4)]) dX12_goEve_46 rfl rfl rfl rfl rfl (vok_v (ob_60 hE) rfl) rfl (r_dep (by decide) (e_X12_at hE q l1 l4)) (fun r7 => ?_)
    refine r_bipush (v := (8 : Int32)) dX12_goEve_49 rfl ?_
    refine r_iremC dX12_goEve_51 (by decide) ?_
    refine r_nmI fun v8 _ => ?_
    refine r_istore (L2 := [(0, .ref 60), (1, .int l1), (3, .int l3), (4, .int l4), (5, .int v6), (6, .int v8)]) dX12_goEve_52 rfl rfl ?_
    refine r_aload_n (x := 60) dX12_goEve_54 rfl ?_
    refine r_iload (x := v6) dX12_goEve_55 rfl ?_
    refine r_iload (x := v8) dX12_goEve_57 rfl ?_
    refine r_calli (k := 0) (idx := 251) (y := 230) (as := [.ref 60, .int v6, .int v8]) (rest := []) (L0 := [(0, .ref 60), (1, .int v6), (2, .int v8)]) dX12_goEve_59 rfl rfl rfl rfl rfl (vok_v (ob_60 hE) rfl) rfl (r_dep (by decide) (e_X12_maySlip hE q v6 v8)) (fun r9 => ?_)
    refine r_if_ne (t := 81) dX12_goEve_62 rfl (fun h15 => ?_) (fun h15 => ?_)
    · refine r_aload_n (x := 60) dX12_goEve_65 rfl ?_
      refine r_dup dX12_goEve_66 rfl ?_
      refine r_getI dX12_goEve_67 (ff_12_269_60 hE) (by decide) ?_
      refine r_iconst (v := (1 : Int32)) dX12_goEve_70 rfl ?_
      refine r_iload (x := l4) dX12_goEve_71 rfl ?_
      refine r_ishl dX12_goEve_73 ?_
      refine r_ior dX12_goEve_74 ?_
      refine r_putI dX12_goEve_75 (ff_12_269_60 hE) ?_
      refine r_nmS fun q10 _ => ?_
      refine r_goto (t := 113) dX12_goEve_78 rfl ?_
      exact r_sub (L' := [(0, .ref 60), (1, .int l1), (3, .int l3), (4, .int l4)]) (sub_c rfl (sub_c rfl (sub_c rfl (sub_c rfl sub_n)))) (rb_X12_goEve_113 hE hrec_24 q10 l1 l3 l4)
    · refine r_aload_n (x := 60) dX12_goEve_81 rfl ?_
      refine r_iload (x := v6) dX12_goEve_82 rfl ?_
      refine r_iload (x := v8) dX12_goEve_84 rfl ?_
      refine r_callI (k := 0) (idx := 260) (y := 231) (as := [.ref 60, .int v6, .int v8]) (rest := []) (L0 := [(0, .ref 60), (1, .int v6), (2, .int v8)]) dX12_goEve_86 rfl rfl rfl rfl rfl (vok_v (ob_60 hE) rfl) rfl (r_dep (by decide) (e_X12_oddsOf hE q v6 v8)) (fun r11 => ?_)
      refine r_bipush (v := (6 : Int32)) dX12_goEve_89 rfl ?_
      refine r_icmp_lt (t := 113) dX12_goEve_91 rfl (fun h14 => ?_) (fun h14 => ?_)
      · exact r_sub (L' := [(0, .ref 60), (1, .int l1), (3, .int l3), (4, .int l4)]) (sub_c rfl (sub_c rfl (sub_c rfl (sub_c rfl sub_n)))) (rb_X12_goEve_113 hE hrec_24 r11.2 l1 l3 l4)
      · refine r_aload_n (x := 60) dX12_goEve_94 rfl ?_
        refine r_getA dX12_goEve_95 (fa_12_74_60 hE) ?_
        refine r_iload (x := v6) dX12_goEve_98 rfl ?_
        refine r_iload (x := v8) dX12_goEve_100 rfl ?_
        refine r_iastore dX12_goEve_102 (ar_81 hE) ?_
        refine r_nmS fun q12 _ => ?_
        refine r_aload_n (x := 60) dX12_goEve_103 rfl ?_
        refine r_dup dX12_goEve_104 rfl ?_
        refine r_getI dX12_goEve_105 (ff_12_266_60 hE) (by decide) ?_
        refine r_iconst (v := (1 : Int32)) dX12_goEve_108 rfl ?_
        refine r_iadd dX12_goEve_109 ?_
        refine r_putI dX12_goEve_110 (ff_12_266_60 hE) ?_
        refine r_nmS fun q13 _ => ?_
        exact r_sub (L' := [(0, .ref 60), (1, .int l1), (3, .int l3), (4, .int l4)]) (sub_c rfl (sub_c rfl (sub_c rfl (sub_c rfl sub_n)))) (rb_X12_goEve_113 hE hrec_24 q13 l1 l3 l4)
def f_X12_goEve (q : SS) (a1 : Int32) (a2 : Int32) : Option SS :=
  (f_X12_layNow q).bind fun r1 =>
  nm (sI r1 60 33 (0 : Int32)) fun q2 =>
  nm (sI q2 60 34 (0 : Int32)) fun q3 =>
  (f_X12_longOf q3 a1 a2).bind fun r4 =>
  b_X12_goEve_24 q3 a1 r4 (0 : Int32)
theorem e_X12_goEve {E : EE} (hE : GE E) (q : SS) (a1 : Int32) (a2 : Int32) : R E (κV E) 4 237 0 [(0, .ref 60), (1, .int a1), (2, .int a2)] [] q (f_X12_goEve q a1 a2) := by
  unfold f_X12_goEve
  refine r_aload_n (x := 60) dX12_goEve_0 rfl ?_
  refine r_callV (k := 0) (idx := 168) (y := 226) (as := [.ref 60]) (rest := []) (L0 := [(0, .ref 60)]) dX12_goEve_1 rfl rfl rfl rfl rfl (vok_v (ob_60 hE) rfl) rfl (r_dep (by decide) (e_X12_layNow hE q)) (fun r1 => ?_)
  refine r_aload_n (x := 60) dX12_goEve_4 rfl ?_
  refine r_iconst (v := (0 : Int32)) dX12_goEve_5 rfl ?_
  refine r_putI dX12_goEve_6 (ff_12_266_60 hE) ?_
  refine r_nmS fun q2 _ => ?_
  refine r_aload_n (x := 60) dX12_goEve_9 rfl ?_
  refine r_iconst (v := (0 : Int32)) dX12_goEve_10 rfl ?_
  refine r_putI dX12_goEve_11 (ff_12_269_60 hE) ?_
  refine r_nmS fun q3 _ => ?_
  refine r_aload_n (x := 60) dX12_goEve_14 rfl ?_
  refine r_iload_n (x := a1) dX12_goEve_15 rfl ?_
  refine r_iload_n (x := a2) dX12_goEve_16 rfl ?_
  refine r_calli (k := 0) (idx := 272) (y := 236) (as := [.ref 60, .int a1, .int a2]) (rest := []) (L0 := [(0, .ref 60), (1, .int a1), (2, .int a2)]) dX12_goEve_17 rfl rfl rfl rfl rfl (vok_v (ob_60 hE) rfl) rfl (r_dep (by decide) (e_X12_longOf hE q3 a1 a2)) (fun r4 => ?_)
  refine r_istore_n (L2 := [(0, .ref 60), (1, .int a1), (2, .int a2), (3, .int r4)]) dX12_goEve_20 rfl rfl ?_
  refine r_iconst (v := (0 : Int32)) dX12_goEve_21 rfl ?_
  refine r_istore (L2 := [(0, .ref 60), (1, .int a1), (2, .int a2), (3, .int r4), (4, .int (0 : Int32))]) dX12_goEve_22 rfl rfl ?_
  exact r_sub (L' := [(0, .ref 60), (1, .int a1), (3, .int r4), (4, .int (0 : Int32))]) (sub_c rfl (sub_c rfl (sub_c rfl (sub_c rfl sub_n)))) (rb_X12_goEve_24 hE q3 a1 r4 (0 : Int32))
def f_X12_eve (q : SS) (a1 : Int32) (a2 : Int32) (a3 : Int32) : Option (Int32 × SS) :=
  (f_X12_isShelf q a1).bind fun r1 =>
  if r1 = 0 then
  (some ((-1 : Int32), q))
  else
  ((f_X12_areMany q a2).bind fun r2 =>
  if r2 = 0 then
  (some ((-1 : Int32), q))
  else
  ((f_X12_in q a3 (-2 : Int32) ((q.1 60 1) - (1 : Int32))).bind fun r3 =>
  if r3 = 0 then
  (some ((-1 : Int32), q))
  else
  ((f_X12_rowFault q a1).bind fun r4 =>
  if 0 ≤ r4 then
  ((f_X12_goEve q a1 a2).bind fun r5 =>
  if a3 = (-1 : Int32) then
  (some ((r5.1 60 33), r5))
  else
  (if a3 = (-2 : Int32) then
  (some ((r5.1 60 34), r5))
  else
  ((f_X12_realOf r5 a3).bind fun r6 =>
  some (r6, r5))))
  else
  ((f_X12_rowFault q a1).bind fun r9 =>
  some (r9, q)))))
theorem e_X12_eve {E : EE} (hE : GE E) (q : SS) (a1 : Int32) (a2 : Int32) (a3 : Int32) : R E (κI E) 5 240 0 [(0, .ref 60), (1, .int a1), (2, .int a2), (3, .int a3)] [] q (f_X12_eve q a1 a2 a3) := by
  unfold f_X12_eve
  refine r_iload_n (x := a1) dX12_eve_0 rfl ?_
  refine r_calli (k := 2) (idx := 137) (y := 288) (as := [.int a1]) (rest := []) (L0 := [(0, .int a1)]) dX12_eve_1 rfl rfl rfl rfl rfl vok_s rfl (r_dep (by decide) (e_X12_isShelf hE q a1)) (fun r1 => ?_)
  refine r_if_eq (t := 29) dX12_eve_4 rfl (fun h13 => ?_) (fun h13 => ?_)
  · refine r_iconst (v := (-1 : Int32)) dX12_eve_29 rfl ?_
    exact r_ireturn dX12_eve_30 rfl rfl
  · refine r_iload_n (x := a2) dX12_eve_7 rfl ?_
    refine r_calli (k := 2) (idx := 275) (y := 238) (as := [.int a2]) (rest := []) (L0 := [(0, .int a2)]) dX12_eve_8 rfl rfl rfl rfl rfl vok_s rfl (r_dep (by decide) (e_X12_areMany hE q a2)) (fun r2 => ?_)
    refine r_if_eq (t := 29) dX12_eve_11 rfl (fun h12 => ?_) (fun h12 => ?_)
    · refine r_iconst (v := (-1 : Int32)) dX12_eve_29 rfl ?_
      exact r_ireturn dX12_eve_30 rfl rfl
    · refine r_iload_n (x := a3) dX12_eve_14 rfl ?_
      refine r_bipush (v := (-2 : Int32)) dX12_eve_15 rfl ?_
      refine r_aload_n (x := 60) dX12_eve_17 rfl ?_
      refine r_getI dX12_eve_18 (ff_12_115_60 hE) (by decide) ?_
      refine r_iconst (v := (1 : Int32)) dX12_eve_21 rfl ?_
      refine r_isub dX12_eve_22 ?_
      refine r_calli (k := 2) (idx := 118) (y := 189) (as := [.int a3, .int (-2 : Int32), .int ((q.1 60 1) - (1 : Int32))]) (rest := []) (L0 := [(0, .int a3), (1, .int (-2 : Int32)), (2, .int ((q.1 60 1) - (1 : Int32)))]) dX12_eve_23 rfl rfl rfl rfl rfl vok_s rfl (r_dep (by decide) (e_X12_in hE q a3 (-2 : Int32) ((q.1 60 1) - (1 : Int32)))) (fun r3 => ?_)
      refine r_if_ne (t := 31) dX12_eve_26 rfl (fun h11 => ?_) (fun h11 => ?_)
      · refine r_iconst (v := (-1 : Int32)) dX12_eve_29 rfl ?_
        exact r_ireturn dX12_eve_30 rfl rfl
      · refine r_aload_n (x := 60) dX12_eve_31 rfl ?_
        refine r_iload_n (x := a1) dX12_eve_32 rfl ?_
        refine r_calli (k := 0) (idx := 278) (y := 234) (as := [.ref 60, .int a1]) (rest := []) (L0 := [(0, .ref 60), (1, .int a1)]) dX12_eve_33 rfl rfl rfl rfl rfl (vok_v (ob_60 hE) rfl) rfl (r_dep (by decide) (e_X12_rowFault hE q a1)) (fun r4 => ?_)
        refine r_if_ge (t := 45) dX12_eve_36 rfl (fun h10 => ?_) (fun h10 => ?_)
        · refine r_aload_n (x := 60) dX12_eve_45 rfl ?_
          refine r_iload_n (x := a1) dX12_eve_46 rfl ?_
          refine r_iload_n (x := a2) dX12_eve_47 rfl ?_
          refine r_callV (k := 0) (idx := 281) (y := 237) (as := [.ref 60, .int a1, .int a2]) (rest := []) (L0 := [(0, .ref 60), (1, .int a1), (2, .int a2)]) dX12_eve_48 rfl rfl rfl rfl rfl (vok_v (ob_60 hE) rfl) rfl (r_dep (by decide) (e_X12_goEve hE q a1 a2)) (fun r5 => ?_)
          refine r_iload_n (x := a3) dX12_eve_51 rfl ?_
          refine r_iconst (v := (-1 : Int32)) dX12_eve_52 rfl ?_
          refine r_icmp_ne (t := 63) dX12_eve_53 rfl (fun h8 => ?_) (fun h8 => ?_)
          · refine r_aload_n (x := 60) dX12_eve_56 rfl ?_
            refine r_getI dX12_eve_57 (ff_12_266_60 hE) (by decide) ?_
            refine r_goto (t := 81) dX12_eve_60 rfl ?_
            exact r_ireturn dX12_eve_81 rfl rfl
          · refine r_iload_n (x := a3) dX12_eve_63 rfl ?_
            refine r_bipush (v := (-2 : Int32)) dX12_eve_64 rfl ?_
            refine r_icmp_ne (t := 76) dX12_eve_66 rfl (fun h7 => ?_) (fun h7 => ?_)
            · refine r_aload_n (x := 60) dX12_eve_69 rfl ?_
              refine r_getI dX12_eve_70 (ff_12_269_60 hE) (by decide) ?_
              refine r_goto (t := 81) dX12_eve_73 rfl ?_
              exact r_ireturn dX12_eve_81 rfl rfl
            · refine r_aload_n (x := 60) dX12_eve_76 rfl ?_
              refine r_iload_n (x := a3) dX12_eve_77 rfl ?_
              refine r_calli (k := 0) (idx := 175) (y := 228) (as := [.ref 60, .int a3]) (rest := []) (L0 := [(0, .ref 60), (1, .int a3)]) dX12_eve_78 rfl rfl rfl rfl rfl (vok_v (ob_60 hE) rfl) rfl (r_dep (by decide) (e_X12_realOf hE r5 a3)) (fun r6 => ?_)
              exact r_ireturn dX12_eve_81 rfl rfl
        · refine r_aload_n (x := 60) dX12_eve_39 rfl ?_
          refine r_iload_n (x := a1) dX12_eve_40 rfl ?_
          refine r_calli (k := 0) (idx := 278) (y := 234) (as := [.ref 60, .int a1]) (rest := []) (L0 := [(0, .ref 60), (1, .int a1)]) dX12_eve_41 rfl rfl rfl rfl rfl (vok_v (ob_60 hE) rfl) rfl (r_dep (by decide) (e_X12_rowFault hE q a1)) (fun r9 => ?_)
          exact r_ireturn dX12_eve_44 rfl rfl
def f_X11_later (q : SS) (a1 : Int32) (a2 : Int32) (a3 : Int32) : Option (Int32 × SS) :=
  (f_X7_isShelf q a1).bind fun r1 =>
  if r1 = 0 then
  (some ((-1 : Int32), q))
  else
  (if a2 < 0 then
  (some ((-1 : Int32), q))
  else
  (if (12 : Int32) < a2 then
  (some ((-1 : Int32), q))
  else
  ((f_X10_isTicket q a3).bind fun r2 =>
  if r2 = 0 then
  (some ((-1 : Int32), q))
  else
  ((f_X7_refusalOfBytes q a1).bind fun r3 =>
  if r3 = 0 then
  ((f_X2_begin q a1).bind fun r4 =>
  (f_X2_goByWell r4 a2).bind fun r5 =>
  (f_X8_holderOf r5 a3).bind fun r6 =>
  some (r6, r5))
  else
  (some (r3, q))))))
theorem e_X11_later {E : EE} (hE : GE E) (q : SS) (a1 : Int32) (a2 : Int32) (a3 : Int32) : R E (κI E) 6 149 0 [(0, .ref 0), (1, .int a1), (2, .int a2), (3, .int a3)] [] q (f_X11_later q a1 a2 a3) := by
  unfold f_X11_later
  refine r_aload_n (x := 0) dX11_later_0 rfl ?_
  refine r_getA dX11_later_1 (fa_11_42_0 hE) ?_
  refine r_iload_n (x := a1) dX11_later_4 rfl ?_
  refine r_calli (k := 0) (idx := 106) (y := 79) (as := [.ref 26, .int a1]) (rest := []) (L0 := [(0, .ref 26), (1, .int a1)]) dX11_later_5 rfl rfl rfl rfl rfl (vok_v (ob_26 hE) rfl) rfl (r_dep (by decide) (e_X7_isShelf hE q a1)) (fun r1 => ?_)
  refine r_if_eq (t := 32) dX11_later_8 rfl (fun h11 => ?_) (fun h11 => ?_)
  · refine r_iconst (v := (-1 : Int32)) dX11_later_32 rfl ?_
    exact r_ireturn dX11_later_33 rfl rfl
  · refine r_iload_n (x := a2) dX11_later_11 rfl ?_
    refine r_if_lt (t := 32) dX11_later_12 rfl (fun h10 => ?_) (fun h10 => ?_)
    · refine r_iconst (v := (-1 : Int32)) dX11_later_32 rfl ?_
      exact r_ireturn dX11_later_33 rfl rfl
    · refine r_iload_n (x := a2) dX11_later_15 rfl ?_
      refine r_bipush (v := (12 : Int32)) dX11_later_16 rfl ?_
      refine r_icmp_gt (t := 32) dX11_later_18 rfl (fun h9 => ?_) (fun h9 => ?_)
      · refine r_iconst (v := (-1 : Int32)) dX11_later_32 rfl ?_
        exact r_ireturn dX11_later_33 rfl rfl
      · refine r_aload_n (x := 0) dX11_later_21 rfl ?_
        refine r_getA dX11_later_22 (fa_11_10_0 hE) ?_
        refine r_iload_n (x := a3) dX11_later_25 rfl ?_
        refine r_calli (k := 0) (idx := 180) (y := 129) (as := [.ref 1, .int a3]) (rest := []) (L0 := [(0, .ref 1), (1, .int a3)]) dX11_later_26 rfl rfl rfl rfl rfl (vok_v (ob_1 hE) rfl) rfl (r_dep (by decide) (e_X10_isTicket hE q a3)) (fun r2 => ?_)
        refine r_if_ne (t := 34) dX11_later_29 rfl (fun h8 => ?_) (fun h8 => ?_)
        · refine r_iconst (v := (-1 : Int32)) dX11_later_32 rfl ?_
          exact r_ireturn dX11_later_33 rfl rfl
        · refine r_aload_n (x := 0) dX11_later_34 rfl ?_
          refine r_getA dX11_later_35 (fa_11_42_0 hE) ?_
          refine r_iload_n (x := a1) dX11_later_38 rfl ?_
          refine r_calli (k := 0) (idx := 110) (y := 85) (as := [.ref 26, .int a1]) (rest := []) (L0 := [(0, .ref 26), (1, .int a1)]) dX11_later_39 rfl rfl rfl rfl rfl (vok_v (ob_26 hE) rfl) rfl (r_dep (by decide) (e_X7_refusalOfBytes hE q a1)) (fun r3 => ?_)
          refine r_istore (L2 := [(0, .ref 0), (1, .int a1), (2, .int a2), (3, .int a3), (4, .int r3)]) dX11_later_42 rfl rfl ?_
          refine r_iload (x := r3) dX11_later_44 rfl ?_
          refine r_if_eq (t := 52) dX11_later_46 rfl (fun h7 => ?_) (fun h7 => ?_)
          · refine r_aload_n (x := 0) dX11_later_52 rfl ?_
            refine r_getA dX11_later_53 (fa_11_51_0 hE) ?_
            refine r_aload_n (x := 0) dX11_later_56 rfl ?_
            refine r_getA dX11_later_57 (fa_11_42_0 hE) ?_
            refine r_iload_n (x := a1) dX11_later_60 rfl ?_
            refine r_callV (k := 0) (idx := 183) (y := 14) (as := [.ref 37, .ref 26, .int a1]) (rest := []) (L0 := [(0, .ref 37), (1, .ref 26), (2, .int a1)]) dX11_later_61 rfl rfl rfl rfl rfl (vok_v (ob_37 hE) rfl) rfl (r_dep (by decide) (e_X2_begin hE q a1)) (fun r4 => ?_)
            refine r_aload_n (x := 0) dX11_later_64 rfl ?_
            refine r_getA dX11_later_65 (fa_11_51_0 hE) ?_
            refine r_iload_n (x := a2) dX11_later_68 rfl ?_
            refine r_callV (k := 0) (idx := 186) (y := 22) (as := [.ref 37, .int a2]) (rest := []) (L0 := [(0, .ref 37), (1, .int a2)]) dX11_later_69 rfl rfl rfl rfl rfl (vok_v (ob_37 hE) rfl) rfl (r_dep (by decide) (e_X2_goByWell hE r4 a2)) (fun r5 => ?_)
            refine r_aload_n (x := 0) dX11_later_72 rfl ?_
            refine r_getA dX11_later_73 (fa_11_35_0 hE) ?_
            refine r_iload_n (x := a3) dX11_later_76 rfl ?_
            refine r_calli (k := 0) (idx := 190) (y := 98) (as := [.ref 24, .int a3]) (rest := []) (L0 := [(0, .ref 24), (1, .int a3)]) dX11_later_77 rfl rfl rfl rfl rfl (vok_v (ob_24 hE) rfl) rfl (r_dep (by decide) (e_X8_holderOf hE r5 a3)) (fun r6 => ?_)
            exact r_ireturn dX11_later_80 rfl rfl
          · refine r_iload (x := r3) dX11_later_49 rfl ?_
            exact r_ireturn dX11_later_51 rfl rfl
def f_X12_later (q : SS) (a1 : Int32) (a2 : Int32) (a3 : Int32) : Option (Int32 × SS) :=
  (f_X12_isShelf q a1).bind fun r1 =>
  if r1 = 0 then
  (some ((-1 : Int32), q))
  else
  ((f_X12_areMany q a2).bind fun r2 =>
  if r2 = 0 then
  (some ((-1 : Int32), q))
  else
  ((f_X12_isTicket q a3).bind fun r3 =>
  if r3 = 0 then
  (some ((-1 : Int32), q))
  else
  ((f_X12_rowFault q a1).bind fun r4 =>
  if 0 ≤ r4 then
  ((f_X12_goEve q a1 a2).bind fun r5 =>
  if vin a3 12 then
  some ((r5.1 81 a3.toNatClampNeg), r5)
  else none)
  else
  ((f_X12_rowFault q a1).bind fun r6 =>
  some (r6, q)))))
theorem e_X12_later {E : EE} (hE : GE E) (q : SS) (a1 : Int32) (a2 : Int32) (a3 : Int32) : R E (κI E) 5 239 0 [(0, .ref 60), (1, .int a1), (2, .int a2), (3, .int a3)] [] q (f_X12_later q a1 a2 a3) := by
  unfold f_X12_later
  refine r_iload_n (x := a1) dX12_later_0 rfl ?_
  refine r_calli (k := 2) (idx := 137) (y := 288) (as := [.int a1]) (rest := []) (L0 := [(0, .int a1)]) dX12_later_1 rfl rfl rfl rfl rfl vok_s rfl (r_dep (by decide) (e_X12_isShelf hE q a1)) (fun r1 => ?_)
  refine r_if_eq (t := 22) dX12_later_4 rfl (fun h10 => ?_) (fun h10 => ?_)
  · refine r_iconst (v := (-1 : Int32)) dX12_later_22 rfl ?_
    exact r_ireturn dX12_later_23 rfl rfl
  · refine r_iload_n (x := a2) dX12_later_7 rfl ?_
    refine r_calli (k := 2) (idx := 275) (y := 238) (as := [.int a2]) (rest := []) (L0 := [(0, .int a2)]) dX12_later_8 rfl rfl rfl rfl rfl vok_s rfl (r_dep (by decide) (e_X12_areMany hE q a2)) (fun r2 => ?_)
    refine r_if_eq (t := 22) dX12_later_11 rfl (fun h9 => ?_) (fun h9 => ?_)
    · refine r_iconst (v := (-1 : Int32)) dX12_later_22 rfl ?_
      exact r_ireturn dX12_later_23 rfl rfl
    · refine r_aload_n (x := 60) dX12_later_14 rfl ?_
      refine r_iload_n (x := a3) dX12_later_15 rfl ?_
      refine r_calli (k := 0) (idx := 156) (y := 192) (as := [.ref 60, .int a3]) (rest := []) (L0 := [(0, .ref 60), (1, .int a3)]) dX12_later_16 rfl rfl rfl rfl rfl (vok_v (ob_60 hE) rfl) rfl (r_dep (by decide) (e_X12_isTicket hE q a3)) (fun r3 => ?_)
      refine r_if_ne (t := 24) dX12_later_19 rfl (fun h8 => ?_) (fun h8 => ?_)
      · refine r_iconst (v := (-1 : Int32)) dX12_later_22 rfl ?_
        exact r_ireturn dX12_later_23 rfl rfl
      · refine r_aload_n (x := 60) dX12_later_24 rfl ?_
        refine r_iload_n (x := a1) dX12_later_25 rfl ?_
        refine r_calli (k := 0) (idx := 278) (y := 234) (as := [.ref 60, .int a1]) (rest := []) (L0 := [(0, .ref 60), (1, .int a1)]) dX12_later_26 rfl rfl rfl rfl rfl (vok_v (ob_60 hE) rfl) rfl (r_dep (by decide) (e_X12_rowFault hE q a1)) (fun r4 => ?_)
        refine r_if_ge (t := 38) dX12_later_29 rfl (fun h7 => ?_) (fun h7 => ?_)
        · refine r_aload_n (x := 60) dX12_later_38 rfl ?_
          refine r_iload_n (x := a1) dX12_later_39 rfl ?_
          refine r_iload_n (x := a2) dX12_later_40 rfl ?_
          refine r_callV (k := 0) (idx := 281) (y := 237) (as := [.ref 60, .int a1, .int a2]) (rest := []) (L0 := [(0, .ref 60), (1, .int a1), (2, .int a2)]) dX12_later_41 rfl rfl rfl rfl rfl (vok_v (ob_60 hE) rfl) rfl (r_dep (by decide) (e_X12_goEve hE q a1 a2)) (fun r5 => ?_)
          refine r_aload_n (x := 60) dX12_later_44 rfl ?_
          refine r_getA dX12_later_45 (fa_12_74_60 hE) ?_
          refine r_iload_n (x := a3) dX12_later_48 rfl ?_
          refine r_iaload dX12_later_49 (ar_81 hE) ?_
          exact r_ireturn dX12_later_50 rfl rfl
        · refine r_aload_n (x := 60) dX12_later_32 rfl ?_
          refine r_iload_n (x := a1) dX12_later_33 rfl ?_
          refine r_calli (k := 0) (idx := 278) (y := 234) (as := [.ref 60, .int a1]) (rest := []) (L0 := [(0, .ref 60), (1, .int a1)]) dX12_later_34 rfl rfl rfl rfl rfl (vok_v (ob_60 hE) rfl) rfl (r_dep (by decide) (e_X12_rowFault hE q a1)) (fun r6 => ?_)
          exact r_ireturn dX12_later_37 rfl rfl

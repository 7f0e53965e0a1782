def f_X12_king (q : SS) (a1 : Int32) (a2 : Int32) : Option (Int64 × SS) :=
  (f_X12_isOne q a1).bind fun r1 =>
  if r1 = 0 then
  (some ((-9223372036854775808 : Int64), q))
  else
  ((f_X12_in q a2 (0 : Int32) (1 : Int32)).bind fun r2 =>
  if r2 = 0 then
  (some ((-9223372036854775808 : Int64), q))
  else
  ((f_X12_layNow q).bind fun r3 =>
  (f_X12_realOf r3 a1).bind fun r4 =>
  (f_X12_allReal r3).bind fun r5 =>
  (f_X12_lowest r3 (r4.toInt64) (r5.toInt64) a2).bind fun r6 =>
  some (r6, r3)))
theorem e_X12_king {E : EE} (hE : GE E) (q : SS) (a1 : Int32) (a2 : Int32) : R E (κL E) 2 244 0 [(0, .ref 60), (1, .int a1), (2, .int a2)] [] q (f_X12_king q a1 a2) := by
  unfold f_X12_king
  refine r_aload_n (x := 60) gX12_king_0.1 rfl ?_
  refine r_iload_n (x := a1) gX12_king_0.2.1 rfl ?_
  refine r_calli (k := 0) (idx := 125) (y := 191) (as := [.ref 60, .int a1]) (rest := []) (L0 := [(0, .ref 60), (1, .int a1)]) gX12_king_0.2.2.1 rfl rfl rfl rfl rfl (vok_v (ob_60 hE) rfl) rfl (r_dep (by decide) (e_X12_isOne hE q a1)) (fun r1 => ?_)
  refine r_if_eq (t := 17) gX12_king_0.2.2.2.1 rfl (fun h8 => ?_) (fun h8 => ?_)
  · refine r_ldc2 (v := (-9223372036854775808 : Int64)) gX12_king_0.2.2.2.2.2.2.2.2.2.1 rfl ?_
    exact r_lreturn gX12_king_0.2.2.2.2.2.2.2.2.2.2.1 rfl rfl
  · refine r_iload_n (x := a2) gX12_king_0.2.2.2.2.1 rfl ?_
    refine r_iconst (v := (0 : Int32)) gX12_king_0.2.2.2.2.2.1 rfl ?_
    refine r_iconst (v := (1 : Int32)) gX12_king_0.2.2.2.2.2.2.1 rfl ?_
    refine r_calli (k := 2) (idx := 118) (y := 189) (as := [.int a2, .int (0 : Int32), .int (1 : Int32)]) (rest := []) (L0 := [(0, .int a2), (1, .int (0 : Int32)), (2, .int (1 : Int32))]) gX12_king_0.2.2.2.2.2.2.2.1 rfl rfl rfl rfl rfl vok_s rfl (r_dep (by decide) (e_X12_in hE q a2 (0 : Int32) (1 : Int32))) (fun r2 => ?_)
    refine r_if_ne (t := 21) gX12_king_0.2.2.2.2.2.2.2.2.1 rfl (fun h7 => ?_) (fun h7 => ?_)
    · refine r_ldc2 (v := (-9223372036854775808 : Int64)) gX12_king_0.2.2.2.2.2.2.2.2.2.1 rfl ?_
      exact r_lreturn gX12_king_0.2.2.2.2.2.2.2.2.2.2.1 rfl rfl
    · refine r_aload_n (x := 60) gX12_king_0.2.2.2.2.2.2.2.2.2.2.2.1 rfl ?_
      refine r_callV (k := 0) (idx := 168) (y := 226) (as := [.ref 60]) (rest := []) (L0 := [(0, .ref 60)]) gX12_king_0.2.2.2.2.2.2.2.2.2.2.2.2.1 rfl rfl rfl rfl rfl (vok_v (ob_60 hE) rfl) rfl (r_dep (by decide) (e_X12_layNow hE q)) (fun r3 => ?_)
      refine r_aload_n (x := 60) gX12_king_0.2.2.2.2.2.2.2.2.2.2.2.2.2.1 rfl ?_
      refine r_iload_n (x := a1) gX12_king_0.2.2.2.2.2.2.2.2.2.2.2.2.2.2.1 rfl ?_
      refine r_calli (k := 0) (idx := 175) (y := 228) (as := [.ref 60, .int a1]) (rest := []) (L0 := [(0, .ref 60), (1, .int a1)]) gX12_king_0.2.2.2.2.2.2.2.2.2.2.2.2.2.2.2.1 rfl rfl rfl rfl rfl (vok_v (ob_60 hE) rfl) rfl (r_dep (by decide) (e_X12_realOf hE r3 a1)) (fun r4 => ?_)
      refine r_i2l gX12_king_30.1 ?_
      refine r_aload_n (x := 60) gX12_king_30.2.1 rfl ?_
      refine r_calli (k := 0) (idx := 292) (y := 229) (as := [.ref 60]) (rest := [.long (r4.toInt64)]) (L0 := [(0, .ref 60)]) gX12_king_30.2.2.1 rfl rfl rfl rfl rfl (vok_v (ob_60 hE) rfl) rfl (r_dep (by decide) (e_X12_allReal hE r3)) (fun r5 => ?_)
      refine r_i2l gX12_king_30.2.2.2.1 ?_
      refine r_iload_n (x := a2) gX12_king_30.2.2.2.2.1 rfl ?_
      refine r_calll (k := 2) (idx := 288) (y := 241) (as := [.long (r4.toInt64), .long (r5.toInt64), .int a2]) (rest := []) (L0 := [(0, .long (r4.toInt64)), (2, .long (r5.toInt64)), (4, .int a2)]) gX12_king_30.2.2.2.2.2.1 rfl rfl rfl rfl rfl vok_s rfl (r_dep (by decide) (e_X12_lowest hE r3 (r4.toInt64) (r5.toInt64) a2)) (fun r6 => ?_)
      exact r_lreturn gX12_king_30.2.2.2.2.2.2.1 rfl rfl
def b_X2_weighStep_37 (q : SS) (l1 : Int32) (l2 : Int32) (s0 : Int64) (s1 : Int64) : Option SS :=
  nm (sL q 37 6 (s1 * s0)) fun q4 =>
  nm (sL q4 37 7 ((q4.2 37 7) * (12 : Int64))) fun q5 =>
  if l2 = 0 then
  (some q5)
  else
  ((f_X2_ticketAt q5 l1).bind fun r6 =>
  (f_X2_toAt q5 l1).bind fun r7 =>
  (f_X8_give q5 r6 r7).bind fun r8 =>
  some r8)
theorem rb_X2_weighStep_37 {E : EE} (hE : GE E) (q : SS) (l1 : Int32) (l2 : Int32) (s0 : Int64) (s1 : Int64) : R E (κV E) 5 25 37 [(0, .ref 37), (1, .int l1), (2, .int l2)] [.long s0, .long s1, .ref 37] q (b_X2_weighStep_37 q l1 l2 s0 s1) := by
  unfold b_X2_weighStep_37
  refine r_lmul gX2_weighStep_28.2.2.2.2.2.2.1 ?_
  refine r_putL gX2_weighStep_28.2.2.2.2.2.2.2.1 (ff_2_60_37 hE) ?_
  refine r_nmS fun q4 _ => ?_
  refine r_aload_n (x := 37) gX2_weighStep_28.2.2.2.2.2.2.2.2.1 rfl ?_
  refine r_dup gX2_weighStep_28.2.2.2.2.2.2.2.2.2.1 rfl ?_
  refine r_getL gX2_weighStep_28.2.2.2.2.2.2.2.2.2.2.1 (ff_2_64_37 hE) ?_
  refine r_ldc2 (v := (12 : Int64)) gX2_weighStep_28.2.2.2.2.2.2.2.2.2.2.2.1 rfl ?_
  refine r_lmul gX2_weighStep_28.2.2.2.2.2.2.2.2.2.2.2.2.1 ?_
  refine r_putL gX2_weighStep_28.2.2.2.2.2.2.2.2.2.2.2.2.2.1 (ff_2_64_37 hE) ?_
  refine r_nmS fun q5 _ => ?_
  refine r_iload_n (x := l2) gX2_weighStep_28.2.2.2.2.2.2.2.2.2.2.2.2.2.2.1 rfl ?_
  refine r_if_eq (t := 74) gX2_weighStep_28.2.2.2.2.2.2.2.2.2.2.2.2.2.2.2.1 rfl (fun h9 => ?_) (fun h9 => ?_)
  · exact r_return gX2_weighStep_57.2.2.2.2.2.2.2.2.2.1 rfl rfl
  · refine r_aload_n (x := 37) gX2_weighStep_57.1 rfl ?_
    refine r_getA gX2_weighStep_57.2.1 (fa_2_15_37 hE) ?_
    refine r_aload_n (x := 37) gX2_weighStep_57.2.2.1 rfl ?_
    refine r_iload_n (x := l1) gX2_weighStep_57.2.2.2.1 rfl ?_
    refine r_calli (k := 0) (idx := 67) (y := 16) (as := [.ref 37, .int l1]) (rest := [.ref 24]) (L0 := [(0, .ref 37), (1, .int l1)]) gX2_weighStep_57.2.2.2.2.1 rfl rfl rfl rfl rfl (vok_v (ob_37 hE) rfl) rfl (r_dep (by decide) (e_X2_ticketAt hE q5 l1)) (fun r6 => ?_)
    refine r_aload_n (x := 37) gX2_weighStep_57.2.2.2.2.2.1 rfl ?_
    refine r_iload_n (x := l1) gX2_weighStep_57.2.2.2.2.2.2.1 rfl ?_
    refine r_calli (k := 0) (idx := 70) (y := 17) (as := [.ref 37, .int l1]) (rest := [.int r6, .ref 24]) (L0 := [(0, .ref 37), (1, .int l1)]) gX2_weighStep_57.2.2.2.2.2.2.2.1 rfl rfl rfl rfl rfl (vok_v (ob_37 hE) rfl) rfl (r_dep (by decide) (e_X2_toAt hE q5 l1)) (fun r7 => ?_)
    refine r_callV (k := 0) (idx := 80) (y := 99) (as := [.ref 24, .int r6, .int r7]) (rest := []) (L0 := [(0, .ref 24), (1, .int r6), (2, .int r7)]) gX2_weighStep_57.2.2.2.2.2.2.2.2.1 rfl rfl rfl rfl rfl (vok_v (ob_24 hE) rfl) rfl (r_dep (by decide) (e_X8_give hE q5 r6 r7)) (fun r8 => ?_)
    exact r_return gX2_weighStep_57.2.2.2.2.2.2.2.2.2.1 rfl rfl
def f_X2_weighStep (q : SS) (a1 : Int32) (a2 : Int32) : Option SS :=
  (f_X2_ticketAt q a1).bind fun r1 =>
  (f_X2_toAt q a1).bind fun r2 =>
  (f_X8_oddsOf q r1 r2).bind fun r3 =>
  if a2 = 0 then
  (b_X2_weighStep_37 r3.2 a1 a2 (((12 : Int32) - r3.1).toInt64) (r3.2.2 37 6))
  else
  (b_X2_weighStep_37 r3.2 a1 a2 (r3.1.toInt64) (r3.2.2 37 6))
theorem e_X2_weighStep {E : EE} (hE : GE E) (q : SS) (a1 : Int32) (a2 : Int32) : R E (κV E) 5 25 0 [(0, .ref 37), (1, .int a1), (2, .int a2)] [] q (f_X2_weighStep q a1 a2) := by
  unfold f_X2_weighStep
  refine r_aload_n (x := 37) gX2_weighStep_0.1 rfl ?_
  refine r_getA gX2_weighStep_0.2.1 (fa_2_15_37 hE) ?_
  refine r_aload_n (x := 37) gX2_weighStep_0.2.2.1 rfl ?_
  refine r_iload_n (x := a1) gX2_weighStep_0.2.2.2.1 rfl ?_
  refine r_calli (k := 0) (idx := 67) (y := 16) (as := [.ref 37, .int a1]) (rest := [.ref 24]) (L0 := [(0, .ref 37), (1, .int a1)]) gX2_weighStep_0.2.2.2.2.1 rfl rfl rfl rfl rfl (vok_v (ob_37 hE) rfl) rfl (r_dep (by decide) (e_X2_ticketAt hE q a1)) (fun r1 => ?_)
  refine r_aload_n (x := 37) gX2_weighStep_0.2.2.2.2.2.1 rfl ?_
  refine r_iload_n (x := a1) gX2_weighStep_0.2.2.2.2.2.2.1 rfl ?_
  refine r_calli (k := 0) (idx := 70) (y := 17) (as := [.ref 37, .int a1]) (rest := [.int r1, .ref 24]) (L0 := [(0, .ref 37), (1, .int a1)]) gX2_weighStep_0.2.2.2.2.2.2.2.1 rfl rfl rfl rfl rfl (vok_v (ob_37 hE) rfl) rfl (r_dep (by decide) (e_X2_toAt hE q a1)) (fun r2 => ?_)
  refine r_callI (k := 0) (idx := 77) (y := 109) (as := [.ref 24, .int r1, .int r2]) (rest := []) (L0 := [(0, .ref 24), (1, .int r1), (2, .int r2)]) gX2_weighStep_0.2.2.2.2.2.2.2.2.1 rfl rfl rfl rfl rfl (vok_v (ob_24 hE) rfl) rfl (r_dep (by decide) (e_X8_oddsOf hE q r1 r2)) (fun r3 => ?_)
  refine r_istore_n (L2 := [(0, .ref 37), (1, .int a1), (2, .int a2), (3, .int r3.1)]) gX2_weighStep_0.2.2.2.2.2.2.2.2.2.1 rfl rfl ?_
  refine r_aload_n (x := 37) gX2_weighStep_0.2.2.2.2.2.2.2.2.2.2.1 rfl ?_
  refine r_dup gX2_weighStep_0.2.2.2.2.2.2.2.2.2.2.2.1 rfl ?_
  refine r_getL gX2_weighStep_0.2.2.2.2.2.2.2.2.2.2.2.2.1 (ff_2_60_37 hE) ?_
  refine r_iload_n (x := a2) gX2_weighStep_0.2.2.2.2.2.2.2.2.2.2.2.2.2.1 rfl ?_
  refine r_if_eq (t := 32) gX2_weighStep_0.2.2.2.2.2.2.2.2.2.2.2.2.2.2.1 rfl (fun h10 => ?_) (fun h10 => ?_)
  · refine r_bipush (v := (12 : Int32)) gX2_weighStep_28.2.2.1 rfl ?_
    refine r_iload_n (x := r3.1) gX2_weighStep_28.2.2.2.1 rfl ?_
    refine r_isub gX2_weighStep_28.2.2.2.2.1 ?_
    refine r_i2l gX2_weighStep_28.2.2.2.2.2.1 ?_
    exact r_sub (L' := [(0, .ref 37), (1, .int a1), (2, .int a2)]) (sub_c rfl (sub_c rfl (sub_c rfl sub_n))) (rb_X2_weighStep_37 hE r3.2 a1 a2 (((12 : Int32) - r3.1).toInt64) (r3.2.2 37 6))
  · refine r_iload_n (x := r3.1) gX2_weighStep_0.2.2.2.2.2.2.2.2.2.2.2.2.2.2.2.1 rfl ?_
    refine r_i2l gX2_weighStep_28.1 ?_
    refine r_goto (t := 37) gX2_weighStep_28.2.1 rfl ?_
    exact r_sub (L' := [(0, .ref 37), (1, .int a1), (2, .int a2)]) (sub_c rfl (sub_c rfl (sub_c rfl sub_n))) (rb_X2_weighStep_37 hE r3.2 a1 a2 (r3.1.toInt64) (r3.2.2 37 6))
def b_X2_weighAllThatCan_46 (rec_12 : SS → Int32 → Option SS) (q : SS) (l1 : Int32) : Option SS :=
  rec_12 q (l1 + (1 : Int32))
theorem rb_X2_weighAllThatCan_46 {E : EE} (hE : GE E) {rec_12 : SS → Int32 → Option SS} (hrec_12 : ∀ (yq : SS) (yl1 : Int32), R E (κV E) 6 24 12 [(0, .ref 37), (1, .int yl1)] [] yq (rec_12 yq yl1)) (q : SS) (l1 : Int32) : R E (κV E) 6 24 46 [(0, .ref 37), (1, .int l1)] [] q (b_X2_weighAllThatCan_46 rec_12 q l1) := by
  unfold b_X2_weighAllThatCan_46
  refine r_iinc (x := l1) (v := (l1 + (1 : Int32))) (L2 := [(0, .ref 37), (1, .int (l1 + (1 : Int32)))]) gX2_weighAllThatCan_26.2.2.2.2.2.2.2.2.2.2.1 rfl rfl rfl rfl ?_
  refine r_goto (t := 12) gX2_weighAllThatCan_26.2.2.2.2.2.2.2.2.2.2.2.1 rfl ?_
  exact r_sub (L' := [(0, .ref 37), (1, .int (l1 + (1 : Int32)))]) (sub_c rfl (sub_c rfl sub_n)) (hrec_12 q (l1 + (1 : Int32)))
def b_X2_weighAllThatCan_12 : SS → Int32 → Option SS :=
  fx2 (fun (rec_12 : SS → Int32 → Option SS) (q : SS) (l1 : Int32) =>
  if (q.1 37 3) ≤ l1 then
  (some q)
  else
  ((f_X2_ticketAt q l1).bind fun r3 =>
  (f_X2_toAt q l1).bind fun r4 =>
  (f_X8_canSlip q r3 r4).bind fun r5 =>
  if r5 = 0 then
  (b_X2_weighAllThatCan_46 rec_12 q l1)
  else
  ((f_X2_weighStep q l1 (1 : Int32)).bind fun r6 =>
  b_X2_weighAllThatCan_46 rec_12 r6 l1))) FU
theorem rb_X2_weighAllThatCan_12 {E : EE} (hE : GE E) (q : SS) (l1 : Int32) : R E (κV E) 6 24 12 [(0, .ref 37), (1, .int l1)] [] q (b_X2_weighAllThatCan_12 q l1) := by
  unfold b_X2_weighAllThatCan_12
  refine fx2_ok (P := fun q l1 o => R E (κV E) 6 24 12 [(0, .ref 37), (1, .int l1)] [] q o) (fun _ _ => r_no) (fun rec_12 hrec_12 q l1 => ?_) _ _ _
  refine r_iload_n (x := l1) gX2_weighAllThatCan_0.2.2.2.2.2.2.2.2.1 rfl ?_
  refine r_aload_n (x := 37) gX2_weighAllThatCan_0.2.2.2.2.2.2.2.2.2.1 rfl ?_
  refine r_getI gX2_weighAllThatCan_0.2.2.2.2.2.2.2.2.2.2.1 (ff_2_40_37 hE) (by decide) ?_
  refine r_icmp_ge (t := 52) gX2_weighAllThatCan_0.2.2.2.2.2.2.2.2.2.2.2.1 rfl (fun h8 => ?_) (fun h8 => ?_)
  · exact r_return gX2_weighAllThatCan_26.2.2.2.2.2.2.2.2.2.2.2.2.1 rfl rfl
  · refine r_aload_n (x := 37) gX2_weighAllThatCan_0.2.2.2.2.2.2.2.2.2.2.2.2.1 rfl ?_
    refine r_getA gX2_weighAllThatCan_0.2.2.2.2.2.2.2.2.2.2.2.2.2.1 (fa_2_15_37 hE) ?_
    refine r_aload_n (x := 37) gX2_weighAllThatCan_0.2.2.2.2.2.2.2.2.2.2.2.2.2.2.1 rfl ?_
    refine r_iload_n (x := l1) gX2_weighAllThatCan_0.2.2.2.2.2.2.2.2.2.2.2.2.2.2.2.1 rfl ?_
    refine r_calli (k := 0) (idx := 67) (y := 16) (as := [.ref 37, .int l1]) (rest := [.ref 24]) (L0 := [(0, .ref 37), (1, .int l1)]) gX2_weighAllThatCan_26.1 rfl rfl rfl rfl rfl (vok_v (ob_37 hE) rfl) rfl (r_dep (by decide) (e_X2_ticketAt hE q l1)) (fun r3 => ?_)
    refine r_aload_n (x := 37) gX2_weighAllThatCan_26.2.1 rfl ?_
    refine r_iload_n (x := l1) gX2_weighAllThatCan_26.2.2.1 rfl ?_
    refine r_calli (k := 0) (idx := 70) (y := 17) (as := [.ref 37, .int l1]) (rest := [.int r3, .ref 24]) (L0 := [(0, .ref 37), (1, .int l1)]) gX2_weighAllThatCan_26.2.2.2.1 rfl rfl rfl rfl rfl (vok_v (ob_37 hE) rfl) rfl (r_dep (by decide) (e_X2_toAt hE q l1)) (fun r4 => ?_)
    refine r_calli (k := 0) (idx := 73) (y := 107) (as := [.ref 24, .int r3, .int r4]) (rest := []) (L0 := [(0, .ref 24), (1, .int r3), (2, .int r4)]) gX2_weighAllThatCan_26.2.2.2.2.1 rfl rfl rfl rfl rfl (vok_v (ob_24 hE) rfl) rfl (r_dep (by decide) (e_X8_canSlip hE q r3 r4)) (fun r5 => ?_)
    refine r_if_eq (t := 46) gX2_weighAllThatCan_26.2.2.2.2.2.1 rfl (fun h7 => ?_) (fun h7 => ?_)
    · exact r_sub (L' := [(0, .ref 37), (1, .int l1)]) (sub_c rfl (sub_c rfl sub_n)) (rb_X2_weighAllThatCan_46 hE hrec_12 q l1)
    · refine r_aload_n (x := 37) gX2_weighAllThatCan_26.2.2.2.2.2.2.1 rfl ?_
      refine r_iload_n (x := l1) gX2_weighAllThatCan_26.2.2.2.2.2.2.2.1 rfl ?_
      refine r_iconst (v := (1 : Int32)) gX2_weighAllThatCan_26.2.2.2.2.2.2.2.2.1 rfl ?_
      refine r_callV (k := 0) (idx := 84) (y := 25) (as := [.ref 37, .int l1, .int (1 : Int32)]) (rest := []) (L0 := [(0, .ref 37), (1, .int l1), (2, .int (1 : Int32))]) gX2_weighAllThatCan_26.2.2.2.2.2.2.2.2.2.1 rfl rfl rfl rfl rfl (vok_v (ob_37 hE) rfl) rfl (r_dep (by decide) (e_X2_weighStep hE q l1 (1 : Int32))) (fun r6 => ?_)
      exact r_sub (L' := [(0, .ref 37), (1, .int l1)]) (sub_c rfl (sub_c rfl sub_n)) (rb_X2_weighAllThatCan_46 hE hrec_12 r6 l1)
def f_X2_weighAllThatCan (q : SS)  : Option SS :=
  nm (sL q 37 6 (1 : Int64)) fun q1 =>
  nm (sL q1 37 7 (1 : Int64)) fun q2 =>
  b_X2_weighAllThatCan_12 q2 (0 : Int32)
theorem e_X2_weighAllThatCan {E : EE} (hE : GE E) (q : SS)  : R E (κV E) 6 24 0 [(0, .ref 37)] [] q (f_X2_weighAllThatCan q) := by
  unfold f_X2_weighAllThatCan
  refine r_aload_n (x := 37) gX2_weighAllThatCan_0.1 rfl ?_
  refine r_lconst (v := (1 : Int64)) gX2_weighAllThatCan_0.2.1 rfl ?_
  refine r_putL gX2_weighAllThatCan_0.2.2.1 (ff_2_60_37 hE) ?_
  refine r_nmS fun q1 _ => ?_
  refine r_aload_n (x := 37) gX2_weighAllThatCan_0.2.2.2.1 rfl ?_
  refine r_lconst (v := (1 : Int64)) gX2_weighAllThatCan_0.2.2.2.2.1 rfl ?_
  refine r_putL gX2_weighAllThatCan_0.2.2.2.2.2.1 (ff_2_64_37 hE) ?_
  refine r_nmS fun q2 _ => ?_
  refine r_iconst (v := (0 : Int32)) gX2_weighAllThatCan_0.2.2.2.2.2.2.1 rfl ?_
  refine r_istore_n (L2 := [(0, .ref 37), (1, .int (0 : Int32))]) gX2_weighAllThatCan_0.2.2.2.2.2.2.2.1 rfl rfl ?_
  exact r_sub (L' := [(0, .ref 37), (1, .int (0 : Int32))]) (sub_c rfl (sub_c rfl sub_n)) (rb_X2_weighAllThatCan_12 hE q2 (0 : Int32))
def f_X2_above (q : SS)  : Option Int64 :=
  some (q.2 37 6)
theorem e_X2_above {E : EE} (hE : GE E) (q : SS)  : R E (κl E q) 0 20 0 [(0, .ref 37)] [] q (f_X2_above q) := by
  unfold f_X2_above
  refine r_aload_n (x := 37) gX2_above_0.1 rfl ?_
  refine r_getL gX2_above_0.2.1 (ff_2_60_37 hE) ?_
  exact r_lreturn gX2_above_0.2.2.1 rfl rfl
def f_X2_below (q : SS)  : Option Int64 :=
  some (q.2 37 7)
theorem e_X2_below {E : EE} (hE : GE E) (q : SS)  : R E (κl E q) 0 21 0 [(0, .ref 37)] [] q (f_X2_below q) := by
  unfold f_X2_below
  refine r_aload_n (x := 37) gX2_below_0.1 rfl ?_
  refine r_getL gX2_below_0.2.1 (ff_2_64_37 hE) ?_
  exact r_lreturn gX2_below_0.2.2.1 rfl rfl
def f_X11_all (q : SS) (a1 : Int32) (a2 : Int32) : Option (Int64 × SS) :=
  (f_X7_refusalOfBytes q a1).bind fun r1 =>
  if r1 = 0 then
  ((f_X11_isPart q a2).bind fun r2 =>
  if r2 = 0 then
  (some ((-9223372036854775808 : Int64), q))
  else
  ((f_X2_begin q a1).bind fun r3 =>
  (f_X2_weighAllThatCan r3).bind fun r4 =>
  (f_X2_above r4).bind fun r5 =>
  (f_X2_below r4).bind fun r6 =>
  (f_X11_partOf r4 r5 r6 a2).bind fun r7 =>
  some (r7, r4)))
  else
  (some ((-9223372036854775808 : Int64), q))
theorem e_X11_all {E : EE} (hE : GE E) (q : SS) (a1 : Int32) (a2 : Int32) : R E (κL E) 7 152 0 [(0, .ref 0), (1, .int a1), (2, .int a2)] [] q (f_X11_all q a1 a2) := by
  unfold f_X11_all
  refine r_aload_n (x := 0) gX11_all_0.1 rfl ?_
  refine r_getA gX11_all_0.2.1 (fa_11_42_0 hE) ?_
  refine r_iload_n (x := a1) gX11_all_0.2.2.1 rfl ?_
  refine r_calli (k := 0) (idx := 110) (y := 85) (as := [.ref 26, .int a1]) (rest := []) (L0 := [(0, .ref 26), (1, .int a1)]) gX11_all_0.2.2.2.1 rfl rfl rfl rfl rfl (vok_v (ob_26 hE) rfl) rfl (r_dep (by decide) (e_X7_refusalOfBytes hE q a1)) (fun r1 => ?_)
  refine r_if_ne (t := 18) gX11_all_0.2.2.2.2.1 rfl (fun h9 => ?_) (fun h9 => ?_)
  · refine r_iload_n (x := a2) gX11_all_0.2.2.2.2.2.1 rfl ?_
    refine r_calli (k := 2) (idx := 199) (y := 153) (as := [.int a2]) (rest := []) (L0 := [(0, .int a2)]) gX11_all_0.2.2.2.2.2.2.1 rfl rfl rfl rfl rfl vok_s rfl (r_dep (by decide) (e_X11_isPart hE q a2)) (fun r2 => ?_)
    refine r_if_ne (t := 22) gX11_all_0.2.2.2.2.2.2.2.1 rfl (fun h8 => ?_) (fun h8 => ?_)
    · refine r_ldc2 (v := (-9223372036854775808 : Int64)) gX11_all_0.2.2.2.2.2.2.2.2.1 rfl ?_
      exact r_lreturn gX11_all_0.2.2.2.2.2.2.2.2.2.1 rfl rfl
    · refine r_aload_n (x := 0) gX11_all_0.2.2.2.2.2.2.2.2.2.2.1 rfl ?_
      refine r_getA gX11_all_0.2.2.2.2.2.2.2.2.2.2.2.1 (fa_11_51_0 hE) ?_
      refine r_aload_n (x := 0) gX11_all_0.2.2.2.2.2.2.2.2.2.2.2.2.1 rfl ?_
      refine r_getA gX11_all_0.2.2.2.2.2.2.2.2.2.2.2.2.2.1 (fa_11_42_0 hE) ?_
      refine r_iload_n (x := a1) gX11_all_0.2.2.2.2.2.2.2.2.2.2.2.2.2.2.1 rfl ?_
      refine r_callV (k := 0) (idx := 183) (y := 14) (as := [.ref 37, .ref 26, .int a1]) (rest := []) (L0 := [(0, .ref 37), (1, .ref 26), (2, .int a1)]) gX11_all_0.2.2.2.2.2.2.2.2.2.2.2.2.2.2.2.1 rfl rfl rfl rfl rfl (vok_v (ob_37 hE) rfl) rfl (r_dep (by decide) (e_X2_begin hE q a1)) (fun r3 => ?_)
      refine r_aload_n (x := 0) gX11_all_34.1 rfl ?_
      refine r_getA gX11_all_34.2.1 (fa_11_51_0 hE) ?_
      refine r_callV (k := 0) (idx := 220) (y := 24) (as := [.ref 37]) (rest := []) (L0 := [(0, .ref 37)]) gX11_all_34.2.2.1 rfl rfl rfl rfl rfl (vok_v (ob_37 hE) rfl) rfl (r_dep (by decide) (e_X2_weighAllThatCan hE r3)) (fun r4 => ?_)
      refine r_aload_n (x := 0) gX11_all_34.2.2.2.1 rfl ?_
      refine r_getA gX11_all_34.2.2.2.2.1 (fa_11_51_0 hE) ?_
      refine r_calll (k := 0) (idx := 209) (y := 20) (as := [.ref 37]) (rest := []) (L0 := [(0, .ref 37)]) gX11_all_34.2.2.2.2.2.1 rfl rfl rfl rfl rfl (vok_v (ob_37 hE) rfl) rfl (r_dep (by decide) (e_X2_above hE r4)) (fun r5 => ?_)
      refine r_aload_n (x := 0) gX11_all_34.2.2.2.2.2.2.1 rfl ?_
      refine r_getA gX11_all_34.2.2.2.2.2.2.2.1 (fa_11_51_0 hE) ?_
      refine r_calll (k := 0) (idx := 213) (y := 21) (as := [.ref 37]) (rest := [.long r5]) (L0 := [(0, .ref 37)]) gX11_all_34.2.2.2.2.2.2.2.2.1 rfl rfl rfl rfl rfl (vok_v (ob_37 hE) rfl) rfl (r_dep (by decide) (e_X2_below hE r4)) (fun r6 => ?_)
      refine r_iload_n (x := a2) gX11_all_34.2.2.2.2.2.2.2.2.2.1 rfl ?_
      refine r_calll (k := 2) (idx := 216) (y := 154) (as := [.long r5, .long r6, .int a2]) (rest := []) (L0 := [(0, .long r5), (2, .long r6), (4, .int a2)]) gX11_all_34.2.2.2.2.2.2.2.2.2.2.1 rfl rfl rfl rfl rfl vok_s rfl (r_dep (by decide) (e_X11_partOf hE r4 r5 r6 a2)) (fun r7 => ?_)
      exact r_lreturn gX11_all_34.2.2.2.2.2.2.2.2.2.2.2.1 rfl rfl
  · refine r_ldc2 (v := (-9223372036854775808 : Int64)) gX11_all_0.2.2.2.2.2.2.2.2.1 rfl ?_
    exact r_lreturn gX11_all_0.2.2.2.2.2.2.2.2.2.1 rfl rfl
def b_X12_all_124 (rec_49 : SS → Int32 → Int32 → Int32 → Int64 → Int64 → Int32 → Option (Int64 × SS)) (q : SS) (l1 : Int32) (l2 : Int32) (l3 : Int32) (l4 : Int64) (l6 : Int64) (l8 : Int32) : Option (Int64 × SS) :=
  rec_49 q l1 l2 l3 l4 l6 (l8 + (1 : Int32))
theorem rb_X12_all_124 {E : EE} (hE : GE E) {rec_49 : SS → Int32 → Int32 → Int32 → Int64 → Int64 → Int32 → Option (Int64 × SS)} (hrec_49 : ∀ (yq : SS) (yl1 : Int32) (yl2 : Int32) (yl3 : Int32) (yl4 : Int64) (yl6 : Int64) (yl8 : Int32), R E (κL E) 4 243 49 [(0, .ref 60), (1, .int yl1), (2, .int yl2), (3, .int yl3), (4, .long yl4), (6, .long yl6), (8, .int yl8)] [] yq (rec_49 yq yl1 yl2 yl3 yl4 yl6 yl8)) (q : SS) (l1 : Int32) (l2 : Int32) (l3 : Int32) (l4 : Int64) (l6 : Int64) (l8 : Int32) : R E (κL E) 4 243 124 [(0, .ref 60), (1, .int l1), (2, .int l2), (3, .int l3), (4, .long l4), (6, .long l6), (8, .int l8)] [] q (b_X12_all_124 rec_49 q l1 l2 l3 l4 l6 l8) := by
  unfold b_X12_all_124
  refine r_iinc (x := l8) (v := (l8 + (1 : Int32))) (L2 := [(0, .ref 60), (1, .int l1), (2, .int l2), (3, .int l3), (4, .long l4), (6, .long l6), (8, .int (l8 + (1 : Int32)))]) gX12_all_119.2.2.2.1 rfl rfl rfl rfl ?_
  refine r_goto (t := 49) gX12_all_119.2.2.2.2.1 rfl ?_
  exact r_sub (L' := [(0, .ref 60), (1, .int l1), (2, .int l2), (3, .int l3), (4, .long l4), (6, .long l6), (8, .int (l8 + (1 : Int32)))]) (sub_c rfl (sub_c rfl (sub_c rfl (sub_c rfl (sub_c rfl (sub_c rfl (sub_c rfl sub_n))))))) (hrec_49 q l1 l2 l3 l4 l6 (l8 + (1 : Int32)))
def b_X12_all_49 : SS → Int32 → Int32 → Int32 → Int64 → Int64 → Int32 → Option (Int64 × SS) :=
  fx7 (fun (rec_49 : SS → Int32 → Int32 → Int32 → Int64 → Int64 → Int32 → Option (Int64 × SS)) (q : SS) (l1 : Int32) (l2 : Int32) (l3 : Int32) (l4 : Int64) (l6 : Int64) (l8 : Int32) =>
  if l3 ≤ l8 then
  ((f_X12_lowest q l4 l6 l2).bind fun r6 =>
  some (r6, q))
  else
  ((f_X12_at q l1 l8).bind fun r7 =>
  nm (r7 / (8 : Int32)) fun v8 =>
  (f_X12_at q l1 l8).bind fun r9 =>
  nm (jrem r9 (8 : Int32)) fun v10 =>
  (f_X12_maySlip q v8 v10).bind fun r11 =>
  if r11 = 0 then
  (b_X12_all_124 rec_49 q l1 l2 l3 l4 l6 l8)
  else
  ((f_X12_oddsOf q v8 v10).bind fun r12 =>
  nm (l4 * (r12.1.toInt64)) fun v13 =>
  nm (l6 * (12 : Int64)) fun v14 =>
  if vin v8 12 then
  nm (sI r12.2 81 v8.toNatClampNeg v10) fun q15 =>
  b_X12_all_124 rec_49 q15 l1 l2 l3 v13 v14 l8
  else none))) FU
theorem rb_X12_all_49 {E : EE} (hE : GE E) (q : SS) (l1 : Int32) (l2 : Int32) (l3 : Int32) (l4 : Int64) (l6 : Int64) (l8 : Int32) : R E (κL E) 4 243 49 [(0, .ref 60), (1, .int l1), (2, .int l2), (3, .int l3), (4, .long l4), (6, .long l6), (8, .int l8)] [] q (b_X12_all_49 q l1 l2 l3 l4 l6 l8) := by
  unfold b_X12_all_49
  refine fx7_ok (P := fun q l1 l2 l3 l4 l6 l8 o => R E (κL E) 4 243 49 [(0, .ref 60), (1, .int l1), (2, .int l2), (3, .int l3), (4, .long l4), (6, .long l6), (8, .int l8)] [] q o) (fun _ _ _ _ _ _ _ => r_no) (fun rec_49 hrec_49 q l1 l2 l3 l4 l6 l8 => ?_) _ _ _ _ _ _ _ _
  refine r_iload (x := l8) gX12_all_32.2.2.2.2.2.2.2.2.2.2.2.1 rfl ?_
  refine r_iload_n (x := l3) gX12_all_32.2.2.2.2.2.2.2.2.2.2.2.2.1 rfl ?_
  refine r_icmp_ge (t := 130) gX12_all_32.2.2.2.2.2.2.2.2.2.2.2.2.2.1 rfl (fun h17 => ?_) (fun h17 => ?_)
  · refine r_lload (x := l4) gX12_all_119.2.2.2.2.2.1 rfl ?_
    refine r_lload (x := l6) gX12_all_119.2.2.2.2.2.2.1 rfl ?_
    refine r_iload_n (x := l2) gX12_all_119.2.2.2.2.2.2.2.1 rfl ?_
    refine r_calll (k := 2) (idx := 288) (y := 241) (as := [.long l4, .long l6, .int l2]) (rest := []) (L0 := [(0, .long l4), (2, .long l6), (4, .int l2)]) gX12_all_119.2.2.2.2.2.2.2.2.1 rfl rfl rfl rfl rfl vok_s rfl (r_dep (by decide) (e_X12_lowest hE q l4 l6 l2)) (fun r6 => ?_)
    exact r_lreturn gX12_all_119.2.2.2.2.2.2.2.2.2.1 rfl rfl
  · refine r_aload_n (x := 60) gX12_all_32.2.2.2.2.2.2.2.2.2.2.2.2.2.2.1 rfl ?_
    refine r_iload_n (x := l1) gX12_all_32.2.2.2.2.2.2.2.2.2.2.2.2.2.2.2.1 rfl ?_
    refine r_iload (x := l8) gX12_all_57.1 rfl ?_
    refine r_calli (k := 0) (idx := 263) (y := 235) (as := [.ref 60, .int l1, .int l8]) (rest := []) (L0 := [(0, .ref 60), (1, .int l1), (2, .int l8)]) gX12_all_57.2.1 rfl rfl rfl rfl rfl (vok_v (ob_60 hE) rfl) rfl (r_dep (by decide) (e_X12_at hE q l1 l8)) (fun r7 => ?_)
    refine r_bipush (v := (8 : Int32)) gX12_all_57.2.2.1 rfl ?_
    refine r_idivC gX12_all_57.2.2.2.1 (by decide) ?_
    refine r_nmI fun v8 _ => ?_
    refine r_istore (L2 := [(0, .ref 60), (1, .int l1), (2, .int l2), (3, .int l3), (4, .long l4), (6, .long l6), (8, .int l8), (9, .int v8)]) gX12_all_57.2.2.2.2.1 rfl rfl ?_
    refine r_aload_n (x := 60) gX12_all_57.2.2.2.2.2.1 rfl ?_
    refine r_iload_n (x := l1) gX12_all_57.2.2.2.2.2.2.1 rfl ?_
    refine r_iload (x := l8) gX12_all_57.2.2.2.2.2.2.2.1 rfl ?_
    refine r_calli (k := 0) (idx := 263) (y := 235) (as := [.ref 60, .int l1, .int l8]) (rest := []) (L0 := [(0, .ref 60), (1, .int l1), (2, .int l8)]) gX12_all_57.2.2.2.2.2.2.2.2.1 rfl rfl rfl rfl rfl (vok_v (ob_60 hE) rfl) rfl (r_dep (by decide) (e_X12_at hE q l1 l8)) (fun r9 => ?_)
    refine r_bipush (v := (8 : Int32)) gX12_all_57.2.2.2.2.2.2.2.2.2.1 rfl ?_
    refine r_iremC gX12_all_57.2.2.2.2.2.2.2.2.2.2.1 (by decide) ?_
    refine r_nmI fun v10 _ => ?_
    refine r_istore (L2 := [(0, .ref 60), (1, .int l1), (2, .int l2), (3, .int l3), (4, .long l4), (6, .long l6), (8, .int l8), (9, .int v8), (10, .int v10)]) gX12_all_57.2.2.2.2.2.2.2.2.2.2.2.1 rfl rfl ?_
    refine r_aload_n (x := 60) gX12_all_57.2.2.2.2.2.2.2.2.2.2.2.2.1 rfl ?_
    refine r_iload (x := v8) gX12_all_57.2.2.2.2.2.2.2.2.2.2.2.2.2.1 rfl ?_
    refine r_iload (x := v10) gX12_all_57.2.2.2.2.2.2.2.2.2.2.2.2.2.2.1 rfl ?_
    refine r_calli (k := 0) (idx := 251) (y := 230) (as := [.ref 60, .int v8, .int v10]) (rest := []) (L0 := [(0, .ref 60), (1, .int v8), (2, .int v10)]) gX12_all_57.2.2.2.2.2.2.2.2.2.2.2.2.2.2.2.1 rfl rfl rfl rfl rfl (vok_v (ob_60 hE) rfl) rfl (r_dep (by decide) (e_X12_maySlip hE q v8 v10)) (fun r11 => ?_)
    refine r_if_ne (t := 93) gX12_all_87.1 rfl (fun h16 => ?_) (fun h16 => ?_)
    · refine r_goto (t := 124) gX12_all_87.2.1 rfl ?_
      exact r_sub (L' := [(0, .ref 60), (1, .int l1), (2, .int l2), (3, .int l3), (4, .long l4), (6, .long l6), (8, .int l8)]) (sub_c rfl (sub_c rfl (sub_c rfl (sub_c rfl (sub_c rfl (sub_c rfl (sub_c rfl sub_n))))))) (rb_X12_all_124 hE hrec_49 q l1 l2 l3 l4 l6 l8)
    · refine r_lload (x := l4) gX12_all_87.2.2.1 rfl ?_
      refine r_aload_n (x := 60) gX12_all_87.2.2.2.1 rfl ?_
      refine r_iload (x := v8) gX12_all_87.2.2.2.2.1 rfl ?_
      refine r_iload (x := v10) gX12_all_87.2.2.2.2.2.1 rfl ?_
      refine r_callI (k := 0) (idx := 260) (y := 231) (as := [.ref 60, .int v8, .int v10]) (rest := [.long l4]) (L0 := [(0, .ref 60), (1, .int v8), (2, .int v10)]) gX12_all_87.2.2.2.2.2.2.1 rfl rfl rfl rfl rfl (vok_v (ob_60 hE) rfl) rfl (r_dep (by decide) (e_X12_oddsOf hE q v8 v10)) (fun r12 => ?_)
      refine r_i2l gX12_all_87.2.2.2.2.2.2.2.1 ?_
      refine r_lmul gX12_all_87.2.2.2.2.2.2.2.2.1 ?_
      refine r_nmL fun v13 _ => ?_
      refine r_lstore (L2 := [(0, .ref 60), (1, .int l1), (2, .int l2), (3, .int l3), (4, .long v13), (6, .long l6), (8, .int l8), (9, .int v8), (10, .int v10)]) gX12_all_87.2.2.2.2.2.2.2.2.2.1 rfl rfl ?_
      refine r_lload (x := l6) gX12_all_87.2.2.2.2.2.2.2.2.2.2.1 rfl ?_
      refine r_ldc2 (v := (12 : Int64)) gX12_all_87.2.2.2.2.2.2.2.2.2.2.2.1 rfl ?_
      refine r_lmul gX12_all_87.2.2.2.2.2.2.2.2.2.2.2.2.1 ?_
      refine r_nmL fun v14 _ => ?_
      refine r_lstore (L2 := [(0, .ref 60), (1, .int l1), (2, .int l2), (3, .int l3), (4, .long v13), (6, .long v14), (8, .int l8), (9, .int v8), (10, .int v10)]) gX12_all_87.2.2.2.2.2.2.2.2.2.2.2.2.2.1 rfl rfl ?_
      refine r_aload_n (x := 60) gX12_all_87.2.2.2.2.2.2.2.2.2.2.2.2.2.2.1 rfl ?_
      refine r_getA gX12_all_87.2.2.2.2.2.2.2.2.2.2.2.2.2.2.2.1 (fa_12_74_60 hE) ?_
      refine r_iload (x := v8) gX12_all_119.1 rfl ?_
      refine r_iload (x := v10) gX12_all_119.2.1 rfl ?_
      refine r_iastore gX12_all_119.2.2.1 (ar_81 hE) ?_
      refine r_nmS fun q15 _ => ?_
      exact r_sub (L' := [(0, .ref 60), (1, .int l1), (2, .int l2), (3, .int l3), (4, .long v13), (6, .long v14), (8, .int l8)]) (sub_c rfl (sub_c rfl (sub_c rfl (sub_c rfl (sub_c rfl (sub_c rfl (sub_c rfl sub_n))))))) (rb_X12_all_124 hE hrec_49 q15 l1 l2 l3 v13 v14 l8)
def f_X12_all (q : SS) (a1 : Int32) (a2 : Int32) : Option (Int64 × SS) :=
  (f_X12_isShelf q a1).bind fun r1 =>
  if r1 = 0 then
  (some ((-9223372036854775808 : Int64), q))
  else
  ((f_X12_in q a2 (0 : Int32) (1 : Int32)).bind fun r2 =>
  if r2 = 0 then
  (some ((-9223372036854775808 : Int64), q))
  else
  ((f_X12_rowFault q a1).bind fun r3 =>
  if 0 ≤ r3 then
  ((f_X12_layNow q).bind fun r4 =>
  (f_X12_longOf r4 a1 (12 : Int32)).bind fun r5 =>
  b_X12_all_49 r4 a1 a2 r5 (1 : Int64) (1 : Int64) (0 : Int32))
  else
  (some ((-9223372036854775808 : Int64), q))))
theorem e_X12_all {E : EE} (hE : GE E) (q : SS) (a1 : Int32) (a2 : Int32) : R E (κL E) 4 243 0 [(0, .ref 60), (1, .int a1), (2, .int a2)] [] q (f_X12_all q a1 a2) := by
  unfold f_X12_all
  refine r_iload_n (x := a1) gX12_all_0.1 rfl ?_
  refine r_calli (k := 2) (idx := 137) (y := 288) (as := [.int a1]) (rest := []) (L0 := [(0, .int a1)]) gX12_all_0.2.1 rfl rfl rfl rfl rfl vok_s rfl (r_dep (by decide) (e_X12_isShelf hE q a1)) (fun r1 => ?_)
  refine r_if_eq (t := 24) gX12_all_0.2.2.1 rfl (fun h20 => ?_) (fun h20 => ?_)
  · refine r_ldc2 (v := (-9223372036854775808 : Int64)) gX12_all_0.2.2.2.2.2.2.2.2.2.2.2.2.1 rfl ?_
    exact r_lreturn gX12_all_0.2.2.2.2.2.2.2.2.2.2.2.2.2.1 rfl rfl
  · refine r_iload_n (x := a2) gX12_all_0.2.2.2.1 rfl ?_
    refine r_iconst (v := (0 : Int32)) gX12_all_0.2.2.2.2.1 rfl ?_
    refine r_iconst (v := (1 : Int32)) gX12_all_0.2.2.2.2.2.1 rfl ?_
    refine r_calli (k := 2) (idx := 118) (y := 189) (as := [.int a2, .int (0 : Int32), .int (1 : Int32)]) (rest := []) (L0 := [(0, .int a2), (1, .int (0 : Int32)), (2, .int (1 : Int32))]) gX12_all_0.2.2.2.2.2.2.1 rfl rfl rfl rfl rfl vok_s rfl (r_dep (by decide) (e_X12_in hE q a2 (0 : Int32) (1 : Int32))) (fun r2 => ?_)
    refine r_if_eq (t := 24) gX12_all_0.2.2.2.2.2.2.2.1 rfl (fun h19 => ?_) (fun h19 => ?_)
    · refine r_ldc2 (v := (-9223372036854775808 : Int64)) gX12_all_0.2.2.2.2.2.2.2.2.2.2.2.2.1 rfl ?_
      exact r_lreturn gX12_all_0.2.2.2.2.2.2.2.2.2.2.2.2.2.1 rfl rfl
    · refine r_aload_n (x := 60) gX12_all_0.2.2.2.2.2.2.2.2.1 rfl ?_
      refine r_iload_n (x := a1) gX12_all_0.2.2.2.2.2.2.2.2.2.1 rfl ?_
      refine r_calli (k := 0) (idx := 278) (y := 234) (as := [.ref 60, .int a1]) (rest := []) (L0 := [(0, .ref 60), (1, .int a1)]) gX12_all_0.2.2.2.2.2.2.2.2.2.2.1 rfl rfl rfl rfl rfl (vok_v (ob_60 hE) rfl) rfl (r_dep (by decide) (e_X12_rowFault hE q a1)) (fun r3 => ?_)
      refine r_if_ge (t := 28) gX12_all_0.2.2.2.2.2.2.2.2.2.2.2.1 rfl (fun h18 => ?_) (fun h18 => ?_)
      · refine r_aload_n (x := 60) gX12_all_0.2.2.2.2.2.2.2.2.2.2.2.2.2.2.1 rfl ?_
        refine r_callV (k := 0) (idx := 168) (y := 226) (as := [.ref 60]) (rest := []) (L0 := [(0, .ref 60)]) gX12_all_0.2.2.2.2.2.2.2.2.2.2.2.2.2.2.2.1 rfl rfl rfl rfl rfl (vok_v (ob_60 hE) rfl) rfl (r_dep (by decide) (e_X12_layNow hE q)) (fun r4 => ?_)
        refine r_aload_n (x := 60) gX12_all_32.1 rfl ?_
        refine r_iload_n (x := a1) gX12_all_32.2.1 rfl ?_
        refine r_bipush (v := (12 : Int32)) gX12_all_32.2.2.1 rfl ?_
        refine r_calli (k := 0) (idx := 272) (y := 236) (as := [.ref 60, .int a1, .int (12 : Int32)]) (rest := []) (L0 := [(0, .ref 60), (1, .int a1), (2, .int (12 : Int32))]) gX12_all_32.2.2.2.1 rfl rfl rfl rfl rfl (vok_v (ob_60 hE) rfl) rfl (r_dep (by decide) (e_X12_longOf hE r4 a1 (12 : Int32))) (fun r5 => ?_)
        refine r_istore_n (L2 := [(0, .ref 60), (1, .int a1), (2, .int a2), (3, .int r5)]) gX12_all_32.2.2.2.2.1 rfl rfl ?_
        refine r_lconst (v := (1 : Int64)) gX12_all_32.2.2.2.2.2.1 rfl ?_
        refine r_lstore (L2 := [(0, .ref 60), (1, .int a1), (2, .int a2), (3, .int r5), (4, .long (1 : Int64))]) gX12_all_32.2.2.2.2.2.2.1 rfl rfl ?_
        refine r_lconst (v := (1 : Int64)) gX12_all_32.2.2.2.2.2.2.2.1 rfl ?_
        refine r_lstore (L2 := [(0, .ref 60), (1, .int a1), (2, .int a2), (3, .int r5), (4, .long (1 : Int64)), (6, .long (1 : Int64))]) gX12_all_32.2.2.2.2.2.2.2.2.1 rfl rfl ?_
        refine r_iconst (v := (0 : Int32)) gX12_all_32.2.2.2.2.2.2.2.2.2.1 rfl ?_
        refine r_istore (L2 := [(0, .ref 60), (1, .int a1), (2, .int a2), (3, .int r5), (4, .long (1 : Int64)), (6, .long (1 : Int64)), (8, .int (0 : Int32))]) gX12_all_32.2.2.2.2.2.2.2.2.2.2.1 rfl rfl ?_
        exact r_sub (L' := [(0, .ref 60), (1, .int a1), (2, .int a2), (3, .int r5), (4, .long (1 : Int64)), (6, .long (1 : Int64)), (8, .int (0 : Int32))]) (sub_c rfl (sub_c rfl (sub_c rfl (sub_c rfl (sub_c rfl (sub_c rfl (sub_c rfl sub_n))))))) (rb_X12_all_49 hE r4 a1 a2 r5 (1 : Int64) (1 : Int64) (0 : Int32))
      · refine r_ldc2 (v := (-9223372036854775808 : Int64)) gX12_all_0.2.2.2.2.2.2.2.2.2.2.2.2.1 rfl ?_
        exact r_lreturn gX12_all_0.2.2.2.2.2.2.2.2.2.2.2.2.2.1 rfl rfl
def b_X2_weighSet_88 (rec_27 : SS → Int32 → Int32 → Int32 → Option SS) (q : SS) (l1 : Int32) (l2 : Int32) (l3 : Int32) : Option SS :=
  rec_27 q l1 l2 (l3 + (1 : Int32))
theorem rb_X2_weighSet_88 {E : EE} (hE : GE E) {rec_27 : SS → Int32 → Int32 → Int32 → Option SS} (hrec_27 : ∀ (yq : SS) (yl1 : Int32) (yl2 : Int32) (yl3 : Int32), R E (κV E) 6 23 27 [(0, .ref 37), (1, .int yl1), (2, .int yl2), (3, .int yl3)] [] yq (rec_27 yq yl1 yl2 yl3)) (q : SS) (l1 : Int32) (l2 : Int32) (l3 : Int32) : R E (κV E) 6 23 88 [(0, .ref 37), (1, .int l1), (2, .int l2), (3, .int l3)] [] q (b_X2_weighSet_88 rec_27 q l1 l2 l3) := by
  unfold b_X2_weighSet_88
  refine r_iinc (x := l3) (v := (l3 + (1 : Int32))) (L2 := [(0, .ref 37), (1, .int l1), (2, .int l2), (3, .int (l3 + (1 : Int32)))]) gX2_weighSet_83.2.2.2.1 rfl rfl rfl rfl ?_
  refine r_goto (t := 27) gX2_weighSet_83.2.2.2.2.1 rfl ?_
  exact r_sub (L' := [(0, .ref 37), (1, .int l1), (2, .int l2), (3, .int (l3 + (1 : Int32)))]) (sub_c rfl (sub_c rfl (sub_c rfl (sub_c rfl sub_n)))) (hrec_27 q l1 l2 (l3 + (1 : Int32)))
def b_X2_weighSet_49 (rec_27 : SS → Int32 → Int32 → Int32 → Option SS) (q : SS) (l1 : Int32) (l2 : Int32) (l3 : Int32) (s0 : Int32) : Option SS :=
  (f_X2_ticketAt q l3).bind fun r5 =>
  (f_X2_toAt q l3).bind fun r6 =>
  (f_X8_canSlip q r5 r6).bind fun r7 =>
  if r7 = 0 then
  (if s0 = 0 then
  (b_X2_weighSet_88 rec_27 q l1 l2 l3)
  else
  (b_X2_weighSet_88 rec_27 q l1 (0 : Int32) l3))
  else
  ((f_X2_weighStep q l3 s0).bind fun r9 =>
  b_X2_weighSet_88 rec_27 r9 l1 l2 l3)
theorem rb_X2_weighSet_49 {E : EE} (hE : GE E) {rec_27 : SS → Int32 → Int32 → Int32 → Option SS} (hrec_27 : ∀ (yq : SS) (yl1 : Int32) (yl2 : Int32) (yl3 : Int32), R E (κV E) 6 23 27 [(0, .ref 37), (1, .int yl1), (2, .int yl2), (3, .int yl3)] [] yq (rec_27 yq yl1 yl2 yl3)) (q : SS) (l1 : Int32) (l2 : Int32) (l3 : Int32) (s0 : Int32) : R E (κV E) 6 23 49 [(0, .ref 37), (1, .int l1), (2, .int l2), (3, .int l3)] [.int s0] q (b_X2_weighSet_49 rec_27 q l1 l2 l3 s0) := by
  unfold b_X2_weighSet_49
  refine r_istore (L2 := [(0, .ref 37), (1, .int l1), (2, .int l2), (3, .int l3), (4, .int s0)]) gX2_weighSet_26.2.2.2.2.2.2.2.2.2.2.2.2.2.2.2.1 rfl rfl ?_
  refine r_aload_n (x := 37) gX2_weighSet_51.1 rfl ?_
  refine r_getA gX2_weighSet_51.2.1 (fa_2_15_37 hE) ?_
  refine r_aload_n (x := 37) gX2_weighSet_51.2.2.1 rfl ?_
  refine r_iload_n (x := l3) gX2_weighSet_51.2.2.2.1 rfl ?_
  refine r_calli (k := 0) (idx := 67) (y := 16) (as := [.ref 37, .int l3]) (rest := [.ref 24]) (L0 := [(0, .ref 37), (1, .int l3)]) gX2_weighSet_51.2.2.2.2.1 rfl rfl rfl rfl rfl (vok_v (ob_37 hE) rfl) rfl (r_dep (by decide) (e_X2_ticketAt hE q l3)) (fun r5 => ?_)
  refine r_aload_n (x := 37) gX2_weighSet_51.2.2.2.2.2.1 rfl ?_
  refine r_iload_n (x := l3) gX2_weighSet_51.2.2.2.2.2.2.1 rfl ?_
  refine r_calli (k := 0) (idx := 70) (y := 17) (as := [.ref 37, .int l3]) (rest := [.int r5, .ref 24]) (L0 := [(0, .ref 37), (1, .int l3)]) gX2_weighSet_51.2.2.2.2.2.2.2.1 rfl rfl rfl rfl rfl (vok_v (ob_37 hE) rfl) rfl (r_dep (by decide) (e_X2_toAt hE q l3)) (fun r6 => ?_)
  refine r_calli (k := 0) (idx := 73) (y := 107) (as := [.ref 24, .int r5, .int r6]) (rest := []) (L0 := [(0, .ref 24), (1, .int r5), (2, .int r6)]) gX2_weighSet_51.2.2.2.2.2.2.2.2.1 rfl rfl rfl rfl rfl (vok_v (ob_24 hE) rfl) rfl (r_dep (by decide) (e_X8_canSlip hE q r5 r6)) (fun r7 => ?_)
  refine r_if_eq (t := 81) gX2_weighSet_51.2.2.2.2.2.2.2.2.2.1 rfl (fun h10 => ?_) (fun h10 => ?_)
  · refine r_iload (x := s0) gX2_weighSet_51.2.2.2.2.2.2.2.2.2.2.2.2.2.2.2.1 rfl ?_
    refine r_if_eq (t := 88) gX2_weighSet_83.1 rfl (fun h8 => ?_) (fun h8 => ?_)
    · exact r_sub (L' := [(0, .ref 37), (1, .int l1), (2, .int l2), (3, .int l3)]) (sub_c rfl (sub_c rfl (sub_c rfl (sub_c rfl sub_n)))) (rb_X2_weighSet_88 hE hrec_27 q l1 l2 l3)
    · refine r_iconst (v := (0 : Int32)) gX2_weighSet_83.2.1 rfl ?_
      refine r_istore_n (L2 := [(0, .ref 37), (1, .int l1), (2, .int (0 : Int32)), (3, .int l3), (4, .int s0)]) gX2_weighSet_83.2.2.1 rfl rfl ?_
      exact r_sub (L' := [(0, .ref 37), (1, .int l1), (2, .int (0 : Int32)), (3, .int l3)]) (sub_c rfl (sub_c rfl (sub_c rfl (sub_c rfl sub_n)))) (rb_X2_weighSet_88 hE hrec_27 q l1 (0 : Int32) l3)
  · refine r_aload_n (x := 37) gX2_weighSet_51.2.2.2.2.2.2.2.2.2.2.1 rfl ?_
    refine r_iload_n (x := l3) gX2_weighSet_51.2.2.2.2.2.2.2.2.2.2.2.1 rfl ?_
    refine r_iload (x := s0) gX2_weighSet_51.2.2.2.2.2.2.2.2.2.2.2.2.1 rfl ?_
    refine r_callV (k := 0) (idx := 84) (y := 25) (as := [.ref 37, .int l3, .int s0]) (rest := []) (L0 := [(0, .ref 37), (1, .int l3), (2, .int s0)]) gX2_weighSet_51.2.2.2.2.2.2.2.2.2.2.2.2.2.1 rfl rfl rfl rfl rfl (vok_v (ob_37 hE) rfl) rfl (r_dep (by decide) (e_X2_weighStep hE q l3 s0)) (fun r9 => ?_)
    refine r_goto (t := 88) gX2_weighSet_51.2.2.2.2.2.2.2.2.2.2.2.2.2.2.1 rfl ?_
    exact r_sub (L' := [(0, .ref 37), (1, .int l1), (2, .int l2), (3, .int l3)]) (sub_c rfl (sub_c rfl (sub_c rfl (sub_c rfl sub_n)))) (rb_X2_weighSet_88 hE hrec_27 r9 l1 l2 l3)
def b_X2_weighSet_27 : SS → Int32 → Int32 → Int32 → Option SS :=
  fx4 (fun (rec_27 : SS → Int32 → Int32 → Int32 → Option SS) (q : SS) (l1 : Int32) (l2 : Int32) (l3 : Int32) =>
  if (q.1 37 3) ≤ l3 then
  (if l2 = 0 then
  (nm (sL q 37 6 (0 : Int64)) fun q3 =>
  some q3)
  else
  (some q))
  else
  (if ((jshr l1 l3) &&& (1 : Int32)) = (1 : Int32) then
  (b_X2_weighSet_49 rec_27 q l1 l2 l3 (1 : Int32))
  else
  (b_X2_weighSet_49 rec_27 q l1 l2 l3 (0 : Int32)))) FU
theorem rb_X2_weighSet_27 {E : EE} (hE : GE E) (q : SS) (l1 : Int32) (l2 : Int32) (l3 : Int32) : R E (κV E) 6 23 27 [(0, .ref 37), (1, .int l1), (2, .int l2), (3, .int l3)] [] q (b_X2_weighSet_27 q l1 l2 l3) := by
  unfold b_X2_weighSet_27
  refine fx4_ok (P := fun q l1 l2 l3 o => R E (κV E) 6 23 27 [(0, .ref 37), (1, .int l1), (2, .int l2), (3, .int l3)] [] q o) (fun _ _ _ _ => r_no) (fun rec_27 hrec_27 q l1 l2 l3 => ?_) _ _ _ _ _
  refine r_iload_n (x := l3) gX2_weighSet_26.2.1 rfl ?_
  refine r_aload_n (x := 37) gX2_weighSet_26.2.2.1 rfl ?_
  refine r_getI gX2_weighSet_26.2.2.2.1 (ff_2_40_37 hE) (by decide) ?_
  refine r_icmp_ge (t := 94) gX2_weighSet_26.2.2.2.2.1 rfl (fun h12 => ?_) (fun h12 => ?_)
  · refine r_iload_n (x := l2) gX2_weighSet_83.2.2.2.2.2.1 rfl ?_
    refine r_if_ne (t := 103) gX2_weighSet_83.2.2.2.2.2.2.1 rfl (fun h4 => ?_) (fun h4 => ?_)
    · refine r_aload_n (x := 37) gX2_weighSet_83.2.2.2.2.2.2.2.1 rfl ?_
      refine r_lconst (v := (0 : Int64)) gX2_weighSet_83.2.2.2.2.2.2.2.2.1 rfl ?_
      refine r_putL gX2_weighSet_83.2.2.2.2.2.2.2.2.2.1 (ff_2_60_37 hE) ?_
      refine r_nmS fun q3 _ => ?_
      exact r_return gX2_weighSet_83.2.2.2.2.2.2.2.2.2.2.1 rfl rfl
    · exact r_return gX2_weighSet_83.2.2.2.2.2.2.2.2.2.2.1 rfl rfl
  · refine r_iload_n (x := l1) gX2_weighSet_26.2.2.2.2.2.1 rfl ?_
    refine r_iload_n (x := l3) gX2_weighSet_26.2.2.2.2.2.2.1 rfl ?_
    refine r_ishr gX2_weighSet_26.2.2.2.2.2.2.2.1 ?_
    refine r_iconst (v := (1 : Int32)) gX2_weighSet_26.2.2.2.2.2.2.2.2.1 rfl ?_
    refine r_iand gX2_weighSet_26.2.2.2.2.2.2.2.2.2.1 ?_
    refine r_iconst (v := (1 : Int32)) gX2_weighSet_26.2.2.2.2.2.2.2.2.2.2.1 rfl ?_
    refine r_icmp_ne (t := 48) gX2_weighSet_26.2.2.2.2.2.2.2.2.2.2.2.1 rfl (fun h11 => ?_) (fun h11 => ?_)
    · refine r_iconst (v := (1 : Int32)) gX2_weighSet_26.2.2.2.2.2.2.2.2.2.2.2.2.1 rfl ?_
      refine r_goto (t := 49) gX2_weighSet_26.2.2.2.2.2.2.2.2.2.2.2.2.2.1 rfl ?_
      exact r_sub (L' := [(0, .ref 37), (1, .int l1), (2, .int l2), (3, .int l3)]) (sub_c rfl (sub_c rfl (sub_c rfl (sub_c rfl sub_n)))) (rb_X2_weighSet_49 hE hrec_27 q l1 l2 l3 (1 : Int32))
    · refine r_iconst (v := (0 : Int32)) gX2_weighSet_26.2.2.2.2.2.2.2.2.2.2.2.2.2.2.1 rfl ?_
      exact r_sub (L' := [(0, .ref 37), (1, .int l1), (2, .int l2), (3, .int l3)]) (sub_c rfl (sub_c rfl (sub_c rfl (sub_c rfl sub_n)))) (rb_X2_weighSet_49 hE hrec_27 q l1 l2 l3 (0 : Int32))
def b_X2_weighSet_14 (q : SS) (l1 : Int32) (s0 : Int32) : Option SS :=
  nm (sL q 37 6 (1 : Int64)) fun q1 =>
  nm (sL q1 37 7 (1 : Int64)) fun q2 =>
  b_X2_weighSet_27 q2 l1 s0 (0 : Int32)
theorem rb_X2_weighSet_14 {E : EE} (hE : GE E) (q : SS) (l1 : Int32) (s0 : Int32) : R E (κV E) 6 23 14 [(0, .ref 37), (1, .int l1)] [.int s0] q (b_X2_weighSet_14 q l1 s0) := by
  unfold b_X2_weighSet_14
  refine r_istore_n (L2 := [(0, .ref 37), (1, .int l1), (2, .int s0)]) gX2_weighSet_0.2.2.2.2.2.2.2.2.1 rfl rfl ?_
  refine r_aload_n (x := 37) gX2_weighSet_0.2.2.2.2.2.2.2.2.2.1 rfl ?_
  refine r_lconst (v := (1 : Int64)) gX2_weighSet_0.2.2.2.2.2.2.2.2.2.2.1 rfl ?_
  refine r_putL gX2_weighSet_0.2.2.2.2.2.2.2.2.2.2.2.1 (ff_2_60_37 hE) ?_
  refine r_nmS fun q1 _ => ?_
  refine r_aload_n (x := 37) gX2_weighSet_0.2.2.2.2.2.2.2.2.2.2.2.2.1 rfl ?_
  refine r_lconst (v := (1 : Int64)) gX2_weighSet_0.2.2.2.2.2.2.2.2.2.2.2.2.2.1 rfl ?_
  refine r_putL gX2_weighSet_0.2.2.2.2.2.2.2.2.2.2.2.2.2.2.1 (ff_2_64_37 hE) ?_
  refine r_nmS fun q2 _ => ?_
  refine r_iconst (v := (0 : Int32)) gX2_weighSet_0.2.2.2.2.2.2.2.2.2.2.2.2.2.2.2.1 rfl ?_
  refine r_istore_n (L2 := [(0, .ref 37), (1, .int l1), (2, .int s0), (3, .int (0 : Int32))]) gX2_weighSet_26.1 rfl rfl ?_
  exact r_sub (L' := [(0, .ref 37), (1, .int l1), (2, .int s0), (3, .int (0 : Int32))]) (sub_c rfl (sub_c rfl (sub_c rfl (sub_c rfl sub_n)))) (rb_X2_weighSet_27 hE q2 l1 s0 (0 : Int32))
def f_X2_weighSet (q : SS) (a1 : Int32) : Option SS :=
  if (jushr a1 (q.1 37 3)) = 0 then
  (b_X2_weighSet_14 q a1 (1 : Int32))
  else
  (b_X2_weighSet_14 q a1 (0 : Int32))
theorem e_X2_weighSet {E : EE} (hE : GE E) (q : SS) (a1 : Int32) : R E (κV E) 6 23 0 [(0, .ref 37), (1, .int a1)] [] q (f_X2_weighSet q a1) := by
  unfold f_X2_weighSet
  refine r_iload_n (x := a1) gX2_weighSet_0.1 rfl ?_
  refine r_aload_n (x := 37) gX2_weighSet_0.2.1 rfl ?_
  refine r_getI gX2_weighSet_0.2.2.1 (ff_2_40_37 hE) (by decide) ?_
  refine r_iushr gX2_weighSet_0.2.2.2.1 ?_
  refine r_if_ne (t := 13) gX2_weighSet_0.2.2.2.2.1 rfl (fun h13 => ?_) (fun h13 => ?_)
  · refine r_iconst (v := (1 : Int32)) gX2_weighSet_0.2.2.2.2.2.1 rfl ?_
    refine r_goto (t := 14) gX2_weighSet_0.2.2.2.2.2.2.1 rfl ?_
    exact r_sub (L' := [(0, .ref 37), (1, .int a1)]) (sub_c rfl (sub_c rfl sub_n)) (rb_X2_weighSet_14 hE q a1 (1 : Int32))
  · refine r_iconst (v := (0 : Int32)) gX2_weighSet_0.2.2.2.2.2.2.2.1 rfl ?_
    exact r_sub (L' := [(0, .ref 37), (1, .int a1)]) (sub_c rfl (sub_c rfl sub_n)) (rb_X2_weighSet_14 hE q a1 (0 : Int32))
def f_X11_likely (q : SS) (a1 : Int32) (a2 : Int32) (a3 : Int32) : Option (Int64 × SS) :=
  (f_X7_refusalOfBytes q a1).bind fun r1 =>
  if r1 = 0 then
  (if a2 < 0 then
  (some ((-9223372036854775808 : Int64), q))
  else
  (if (4095 : Int32) < a2 then
  (some ((-9223372036854775808 : Int64), q))
  else
  ((f_X11_isPart q a3).bind fun r2 =>
  if r2 = 0 then
  (some ((-9223372036854775808 : Int64), q))
  else
  ((f_X2_begin q a1).bind fun r3 =>
  (f_X2_weighSet r3 a2).bind fun r4 =>
  (f_X2_above r4).bind fun r5 =>
  (f_X2_below r4).bind fun r6 =>
  (f_X11_partOf r4 r5 r6 a3).bind fun r7 =>
  some (r7, r4)))))
  else
  (some ((-9223372036854775808 : Int64), q))
theorem e_X11_likely {E : EE} (hE : GE E) (q : SS) (a1 : Int32) (a2 : Int32) (a3 : Int32) : R E (κL E) 7 151 0 [(0, .ref 0), (1, .int a1), (2, .int a2), (3, .int a3)] [] q (f_X11_likely q a1 a2 a3) := by
  unfold f_X11_likely
  refine r_aload_n (x := 0) gX11_likely_0.1 rfl ?_
  refine r_getA gX11_likely_0.2.1 (fa_11_42_0 hE) ?_
  refine r_iload_n (x := a1) gX11_likely_0.2.2.1 rfl ?_
  refine r_calli (k := 0) (idx := 110) (y := 85) (as := [.ref 26, .int a1]) (rest := []) (L0 := [(0, .ref 26), (1, .int a1)]) gX11_likely_0.2.2.2.1 rfl rfl rfl rfl rfl (vok_v (ob_26 hE) rfl) rfl (r_dep (by decide) (e_X7_refusalOfBytes hE q a1)) (fun r1 => ?_)
  refine r_if_ne (t := 29) gX11_likely_0.2.2.2.2.1 rfl (fun h11 => ?_) (fun h11 => ?_)
  · refine r_iload_n (x := a2) gX11_likely_0.2.2.2.2.2.1 rfl ?_
    refine r_if_lt (t := 29) gX11_likely_0.2.2.2.2.2.2.1 rfl (fun h10 => ?_) (fun h10 => ?_)
    · refine r_ldc2 (v := (-9223372036854775808 : Int64)) gX11_likely_0.2.2.2.2.2.2.2.2.2.2.2.2.2.1 rfl ?_
      exact r_lreturn gX11_likely_0.2.2.2.2.2.2.2.2.2.2.2.2.2.2.1 rfl rfl
    · refine r_iload_n (x := a2) gX11_likely_0.2.2.2.2.2.2.2.1 rfl ?_
      refine r_sipush (v := (4095 : Int32)) gX11_likely_0.2.2.2.2.2.2.2.2.1 rfl ?_
      refine r_icmp_gt (t := 29) gX11_likely_0.2.2.2.2.2.2.2.2.2.1 rfl (fun h9 => ?_) (fun h9 => ?_)
      · refine r_ldc2 (v := (-9223372036854775808 : Int64)) gX11_likely_0.2.2.2.2.2.2.2.2.2.2.2.2.2.1 rfl ?_
        exact r_lreturn gX11_likely_0.2.2.2.2.2.2.2.2.2.2.2.2.2.2.1 rfl rfl
      · refine r_iload_n (x := a3) gX11_likely_0.2.2.2.2.2.2.2.2.2.2.1 rfl ?_
        refine r_calli (k := 2) (idx := 199) (y := 153) (as := [.int a3]) (rest := []) (L0 := [(0, .int a3)]) gX11_likely_0.2.2.2.2.2.2.2.2.2.2.2.1 rfl rfl rfl rfl rfl vok_s rfl (r_dep (by decide) (e_X11_isPart hE q a3)) (fun r2 => ?_)
        refine r_if_ne (t := 33) gX11_likely_0.2.2.2.2.2.2.2.2.2.2.2.2.1 rfl (fun h8 => ?_) (fun h8 => ?_)
        · refine r_ldc2 (v := (-9223372036854775808 : Int64)) gX11_likely_0.2.2.2.2.2.2.2.2.2.2.2.2.2.1 rfl ?_
          exact r_lreturn gX11_likely_0.2.2.2.2.2.2.2.2.2.2.2.2.2.2.1 rfl rfl
        · refine r_aload_n (x := 0) gX11_likely_0.2.2.2.2.2.2.2.2.2.2.2.2.2.2.2.1 rfl ?_
          refine r_getA gX11_likely_34.1 (fa_11_51_0 hE) ?_
          refine r_aload_n (x := 0) gX11_likely_34.2.1 rfl ?_
          refine r_getA gX11_likely_34.2.2.1 (fa_11_42_0 hE) ?_
          refine r_iload_n (x := a1) gX11_likely_34.2.2.2.1 rfl ?_
          refine r_callV (k := 0) (idx := 183) (y := 14) (as := [.ref 37, .ref 26, .int a1]) (rest := []) (L0 := [(0, .ref 37), (1, .ref 26), (2, .int a1)]) gX11_likely_34.2.2.2.2.1 rfl rfl rfl rfl rfl (vok_v (ob_37 hE) rfl) rfl (r_dep (by decide) (e_X2_begin hE q a1)) (fun r3 => ?_)
          refine r_aload_n (x := 0) gX11_likely_34.2.2.2.2.2.1 rfl ?_
          refine r_getA gX11_likely_34.2.2.2.2.2.2.1 (fa_11_51_0 hE) ?_
          refine r_iload_n (x := a2) gX11_likely_34.2.2.2.2.2.2.2.1 rfl ?_
          refine r_callV (k := 0) (idx := 206) (y := 23) (as := [.ref 37, .int a2]) (rest := []) (L0 := [(0, .ref 37), (1, .int a2)]) gX11_likely_34.2.2.2.2.2.2.2.2.1 rfl rfl rfl rfl rfl (vok_v (ob_37 hE) rfl) rfl (r_dep (by decide) (e_X2_weighSet hE r3 a2)) (fun r4 => ?_)
          refine r_aload_n (x := 0) gX11_likely_34.2.2.2.2.2.2.2.2.2.1 rfl ?_
          refine r_getA gX11_likely_34.2.2.2.2.2.2.2.2.2.2.1 (fa_11_51_0 hE) ?_
          refine r_calll (k := 0) (idx := 209) (y := 20) (as := [.ref 37]) (rest := []) (L0 := [(0, .ref 37)]) gX11_likely_34.2.2.2.2.2.2.2.2.2.2.2.1 rfl rfl rfl rfl rfl (vok_v (ob_37 hE) rfl) rfl (r_dep (by decide) (e_X2_above hE r4)) (fun r5 => ?_)
          refine r_aload_n (x := 0) gX11_likely_34.2.2.2.2.2.2.2.2.2.2.2.2.1 rfl ?_
          refine r_getA gX11_likely_34.2.2.2.2.2.2.2.2.2.2.2.2.2.1 (fa_11_51_0 hE) ?_
          refine r_calll (k := 0) (idx := 213) (y := 21) (as := [.ref 37]) (rest := [.long r5]) (L0 := [(0, .ref 37)]) gX11_likely_34.2.2.2.2.2.2.2.2.2.2.2.2.2.2.1 rfl rfl rfl rfl rfl (vok_v (ob_37 hE) rfl) rfl (r_dep (by decide) (e_X2_below hE r4)) (fun r6 => ?_)
          refine r_iload_n (x := a3) gX11_likely_34.2.2.2.2.2.2.2.2.2.2.2.2.2.2.2.1 rfl ?_
          refine r_calll (k := 2) (idx := 216) (y := 154) (as := [.long r5, .long r6, .int a3]) (rest := []) (L0 := [(0, .long r5), (2, .long r6), (4, .int a3)]) gX11_likely_68.1 rfl rfl rfl rfl rfl vok_s rfl (r_dep (by decide) (e_X11_partOf hE r4 r5 r6 a3)) (fun r7 => ?_)
          exact r_lreturn gX11_likely_68.2.1 rfl rfl
  · refine r_ldc2 (v := (-9223372036854775808 : Int64)) gX11_likely_0.2.2.2.2.2.2.2.2.2.2.2.2.2.1 rfl ?_
    exact r_lreturn gX11_likely_0.2.2.2.2.2.2.2.2.2.2.2.2.2.2.1 rfl rfl
def b_X12_likely_196 (rec_72 : SS → Int32 → Int32 → Int32 → Int32 → Int64 → Int64 → Int32 → Option (Int64 × SS)) (q : SS) (l1 : Int32) (l2 : Int32) (l3 : Int32) (l4 : Int32) (l5 : Int64) (l7 : Int64) (l9 : Int32) : Option (Int64 × SS) :=
  rec_72 q l1 l2 l3 l4 l5 l7 (l9 + (1 : Int32))
theorem rb_X12_likely_196 {E : EE} (hE : GE E) {rec_72 : SS → Int32 → Int32 → Int32 → Int32 → Int64 → Int64 → Int32 → Option (Int64 × SS)} (hrec_72 : ∀ (yq : SS) (yl1 : Int32) (yl2 : Int32) (yl3 : Int32) (yl4 : Int32) (yl5 : Int64) (yl7 : Int64) (yl9 : Int32), R E (κL E) 4 242 72 [(0, .ref 60), (1, .int yl1), (2, .int yl2), (3, .int yl3), (4, .int yl4), (5, .long yl5), (7, .long yl7), (9, .int yl9)] [] yq (rec_72 yq yl1 yl2 yl3 yl4 yl5 yl7 yl9)) (q : SS) (l1 : Int32) (l2 : Int32) (l3 : Int32) (l4 : Int32) (l5 : Int64) (l7 : Int64) (l9 : Int32) : R E (κL E) 4 242 196 [(0, .ref 60), (1, .int l1), (2, .int l2), (3, .int l3), (4, .int l4), (5, .long l5), (7, .long l7), (9, .int l9)] [] q (b_X12_likely_196 rec_72 q l1 l2 l3 l4 l5 l7 l9) := by
  unfold b_X12_likely_196
  refine r_iinc (x := l9) (v := (l9 + (1 : Int32))) (L2 := [(0, .ref 60), (1, .int l1), (2, .int l2), (3, .int l3), (4, .int l4), (5, .long l5), (7, .long l7), (9, .int (l9 + (1 : Int32)))]) gX12_likely_180.2.2.2.2.2.2.2.2.1 rfl rfl rfl rfl ?_
  refine r_goto (t := 72) gX12_likely_180.2.2.2.2.2.2.2.2.2.1 rfl ?_
  exact r_sub (L' := [(0, .ref 60), (1, .int l1), (2, .int l2), (3, .int l3), (4, .int l4), (5, .long l5), (7, .long l7), (9, .int (l9 + (1 : Int32)))]) (sub_c rfl (sub_c rfl (sub_c rfl (sub_c rfl (sub_c rfl (sub_c rfl (sub_c rfl (sub_c rfl sub_n)))))))) (hrec_72 q l1 l2 l3 l4 l5 l7 (l9 + (1 : Int32)))
def b_X12_likely_171 (rec_72 : SS → Int32 → Int32 → Int32 → Int32 → Int64 → Int64 → Int32 → Option (Int64 × SS)) (q : SS) (l1 : Int32) (l2 : Int32) (l3 : Int32) (l4 : Int32) (l7 : Int64) (l9 : Int32) (l10 : Int32) (l11 : Int32) (l12 : Int32) (s0 : Int64) (s1 : Int64) : Option (Int64 × SS) :=
  nm (s1 * s0) fun v15 =>
  nm (l7 * (12 : Int64)) fun v16 =>
  if l12 = 0 then
  (b_X12_likely_196 rec_72 q l1 l2 l3 l4 v15 v16 l9)
  else
  (if vin l10 12 then
  nm (sI q 81 l10.toNatClampNeg l11) fun q17 =>
  b_X12_likely_196 rec_72 q17 l1 l2 l3 l4 v15 v16 l9
  else none)
theorem rb_X12_likely_171 {E : EE} (hE : GE E) {rec_72 : SS → Int32 → Int32 → Int32 → Int32 → Int64 → Int64 → Int32 → Option (Int64 × SS)} (hrec_72 : ∀ (yq : SS) (yl1 : Int32) (yl2 : Int32) (yl3 : Int32) (yl4 : Int32) (yl5 : Int64) (yl7 : Int64) (yl9 : Int32), R E (κL E) 4 242 72 [(0, .ref 60), (1, .int yl1), (2, .int yl2), (3, .int yl3), (4, .int yl4), (5, .long yl5), (7, .long yl7), (9, .int yl9)] [] yq (rec_72 yq yl1 yl2 yl3 yl4 yl5 yl7 yl9)) (q : SS) (l1 : Int32) (l2 : Int32) (l3 : Int32) (l4 : Int32) (l7 : Int64) (l9 : Int32) (l10 : Int32) (l11 : Int32) (l12 : Int32) (s0 : Int64) (s1 : Int64) : R E (κL E) 4 242 171 [(0, .ref 60), (1, .int l1), (2, .int l2), (3, .int l3), (4, .int l4), (7, .long l7), (9, .int l9), (10, .int l10), (11, .int l11), (12, .int l12)] [.long s0, .long s1] q (b_X12_likely_171 rec_72 q l1 l2 l3 l4 l7 l9 l10 l11 l12 s0 s1) := by
  unfold b_X12_likely_171
  refine r_lmul gX12_likely_150.2.2.2.2.2.2.2.2.2.2.2.1 ?_
  refine r_nmL fun v15 _ => ?_
  refine r_lstore (L2 := [(0, .ref 60), (1, .int l1), (2, .int l2), (3, .int l3), (4, .int l4), (5, .long v15), (7, .long l7), (9, .int l9), (10, .int l10), (11, .int l11), (12, .int l12)]) gX12_likely_150.2.2.2.2.2.2.2.2.2.2.2.2.1 rfl rfl ?_
  refine r_lload (x := l7) gX12_likely_150.2.2.2.2.2.2.2.2.2.2.2.2.2.1 rfl ?_
  refine r_ldc2 (v := (12 : Int64)) gX12_likely_150.2.2.2.2.2.2.2.2.2.2.2.2.2.2.1 rfl ?_
  refine r_lmul gX12_likely_150.2.2.2.2.2.2.2.2.2.2.2.2.2.2.2.1 ?_
  refine r_nmL fun v16 _ => ?_
  refine r_lstore (L2 := [(0, .ref 60), (1, .int l1), (2, .int l2), (3, .int l3), (4, .int l4), (5, .long v15), (7, .long v16), (9, .int l9), (10, .int l10), (11, .int l11), (12, .int l12)]) gX12_likely_180.1 rfl rfl ?_
  refine r_iload (x := l12) gX12_likely_180.2.1 rfl ?_
  refine r_if_eq (t := 196) gX12_likely_180.2.2.1 rfl (fun h18 => ?_) (fun h18 => ?_)
  · exact r_sub (L' := [(0, .ref 60), (1, .int l1), (2, .int l2), (3, .int l3), (4, .int l4), (5, .long v15), (7, .long v16), (9, .int l9)]) (sub_c rfl (sub_c rfl (sub_c rfl (sub_c rfl (sub_c rfl (sub_c rfl (sub_c rfl (sub_c rfl sub_n)))))))) (rb_X12_likely_196 hE hrec_72 q l1 l2 l3 l4 v15 v16 l9)
  · refine r_aload_n (x := 60) gX12_likely_180.2.2.2.1 rfl ?_
    refine r_getA gX12_likely_180.2.2.2.2.1 (fa_12_74_60 hE) ?_
    refine r_iload (x := l10) gX12_likely_180.2.2.2.2.2.1 rfl ?_
    refine r_iload (x := l11) gX12_likely_180.2.2.2.2.2.2.1 rfl ?_
    refine r_iastore gX12_likely_180.2.2.2.2.2.2.2.1 (ar_81 hE) ?_
    refine r_nmS fun q17 _ => ?_
    exact r_sub (L' := [(0, .ref 60), (1, .int l1), (2, .int l2), (3, .int l3), (4, .int l4), (5, .long v15), (7, .long v16), (9, .int l9)]) (sub_c rfl (sub_c rfl (sub_c rfl (sub_c rfl (sub_c rfl (sub_c rfl (sub_c rfl (sub_c rfl sub_n)))))))) (rb_X12_likely_196 hE hrec_72 q17 l1 l2 l3 l4 v15 v16 l9)
def b_X12_likely_118 (rec_72 : SS → Int32 → Int32 → Int32 → Int32 → Int64 → Int64 → Int32 → Option (Int64 × SS)) (q : SS) (l1 : Int32) (l2 : Int32) (l3 : Int32) (l4 : Int32) (l5 : Int64) (l7 : Int64) (l9 : Int32) (l10 : Int32) (l11 : Int32) (s0 : Int32) : Option (Int64 × SS) :=
  (f_X12_maySlip q l10 l11).bind fun r12 =>
  if r12 = 0 then
  (if s0 = 0 then
  (b_X12_likely_196 rec_72 q l1 l2 l3 l4 l5 l7 l9)
  else
  (b_X12_likely_196 rec_72 q l1 l2 l3 l4 (0 : Int64) l7 l9))
  else
  ((f_X12_oddsOf q l10 l11).bind fun r14 =>
  if s0 = 0 then
  (b_X12_likely_171 rec_72 r14.2 l1 l2 l3 l4 l7 l9 l10 l11 s0 (((12 : Int32) - r14.1).toInt64) l5)
  else
  (b_X12_likely_171 rec_72 r14.2 l1 l2 l3 l4 l7 l9 l10 l11 s0 (r14.1.toInt64) l5))
theorem rb_X12_likely_118 {E : EE} (hE : GE E) {rec_72 : SS → Int32 → Int32 → Int32 → Int32 → Int64 → Int64 → Int32 → Option (Int64 × SS)} (hrec_72 : ∀ (yq : SS) (yl1 : Int32) (yl2 : Int32) (yl3 : Int32) (yl4 : Int32) (yl5 : Int64) (yl7 : Int64) (yl9 : Int32), R E (κL E) 4 242 72 [(0, .ref 60), (1, .int yl1), (2, .int yl2), (3, .int yl3), (4, .int yl4), (5, .long yl5), (7, .long yl7), (9, .int yl9)] [] yq (rec_72 yq yl1 yl2 yl3 yl4 yl5 yl7 yl9)) (q : SS) (l1 : Int32) (l2 : Int32) (l3 : Int32) (l4 : Int32) (l5 : Int64) (l7 : Int64) (l9 : Int32) (l10 : Int32) (l11 : Int32) (s0 : Int32) : R E (κL E) 4 242 118 [(0, .ref 60), (1, .int l1), (2, .int l2), (3, .int l3), (4, .int l4), (5, .long l5), (7, .long l7), (9, .int l9), (10, .int l10), (11, .int l11)] [.int s0] q (b_X12_likely_118 rec_72 q l1 l2 l3 l4 l5 l7 l9 l10 l11 s0) := by
  unfold b_X12_likely_118
  refine r_istore (L2 := [(0, .ref 60), (1, .int l1), (2, .int l2), (3, .int l3), (4, .int l4), (5, .long l5), (7, .long l7), (9, .int l9), (10, .int l10), (11, .int l11), (12, .int s0)]) gX12_likely_117.2.1 rfl rfl ?_
  refine r_aload_n (x := 60) gX12_likely_117.2.2.1 rfl ?_
  refine r_iload (x := l10) gX12_likely_117.2.2.2.1 rfl ?_
  refine r_iload (x := l11) gX12_likely_117.2.2.2.2.1 rfl ?_
  refine r_calli (k := 0) (idx := 251) (y := 230) (as := [.ref 60, .int l10, .int l11]) (rest := []) (L0 := [(0, .ref 60), (1, .int l10), (2, .int l11)]) gX12_likely_117.2.2.2.2.2.1 rfl rfl rfl rfl rfl (vok_v (ob_60 hE) rfl) rfl (r_dep (by decide) (e_X12_maySlip hE q l10 l11)) (fun r12 => ?_)
  refine r_if_ne (t := 142) gX12_likely_117.2.2.2.2.2.2.1 rfl (fun h20 => ?_) (fun h20 => ?_)
  · refine r_iload (x := s0) gX12_likely_117.2.2.2.2.2.2.2.1 rfl ?_
    refine r_if_eq (t := 196) gX12_likely_117.2.2.2.2.2.2.2.2.1 rfl (fun h13 => ?_) (fun h13 => ?_)
    · exact r_sub (L' := [(0, .ref 60), (1, .int l1), (2, .int l2), (3, .int l3), (4, .int l4), (5, .long l5), (7, .long l7), (9, .int l9)]) (sub_c rfl (sub_c rfl (sub_c rfl (sub_c rfl (sub_c rfl (sub_c rfl (sub_c rfl (sub_c rfl sub_n)))))))) (rb_X12_likely_196 hE hrec_72 q l1 l2 l3 l4 l5 l7 l9)
    · refine r_lconst (v := (0 : Int64)) gX12_likely_117.2.2.2.2.2.2.2.2.2.1 rfl ?_
      refine r_lstore (L2 := [(0, .ref 60), (1, .int l1), (2, .int l2), (3, .int l3), (4, .int l4), (5, .long (0 : Int64)), (7, .long l7), (9, .int l9), (10, .int l10), (11, .int l11), (12, .int s0)]) gX12_likely_117.2.2.2.2.2.2.2.2.2.2.1 rfl rfl ?_
      refine r_goto (t := 196) gX12_likely_117.2.2.2.2.2.2.2.2.2.2.2.1 rfl ?_
      exact r_sub (L' := [(0, .ref 60), (1, .int l1), (2, .int l2), (3, .int l3), (4, .int l4), (5, .long (0 : Int64)), (7, .long l7), (9, .int l9)]) (sub_c rfl (sub_c rfl (sub_c rfl (sub_c rfl (sub_c rfl (sub_c rfl (sub_c rfl (sub_c rfl sub_n)))))))) (rb_X12_likely_196 hE hrec_72 q l1 l2 l3 l4 (0 : Int64) l7 l9)
  · refine r_aload_n (x := 60) gX12_likely_117.2.2.2.2.2.2.2.2.2.2.2.2.1 rfl ?_
    refine r_iload (x := l10) gX12_likely_117.2.2.2.2.2.2.2.2.2.2.2.2.2.1 rfl ?_
    refine r_iload (x := l11) gX12_likely_117.2.2.2.2.2.2.2.2.2.2.2.2.2.2.1 rfl ?_
    refine r_callI (k := 0) (idx := 260) (y := 231) (as := [.ref 60, .int l10, .int l11]) (rest := []) (L0 := [(0, .ref 60), (1, .int l10), (2, .int l11)]) gX12_likely_117.2.2.2.2.2.2.2.2.2.2.2.2.2.2.2.1 rfl rfl rfl rfl rfl (vok_v (ob_60 hE) rfl) rfl (r_dep (by decide) (e_X12_oddsOf hE q l10 l11)) (fun r14 => ?_)
    refine r_istore (L2 := [(0, .ref 60), (1, .int l1), (2, .int l2), (3, .int l3), (4, .int l4), (5, .long l5), (7, .long l7), (9, .int l9), (10, .int l10), (11, .int l11), (12, .int s0), (13, .int r14.1)]) gX12_likely_150.1 rfl rfl ?_
    refine r_lload (x := l5) gX12_likely_150.2.1 rfl ?_
    refine r_iload (x := s0) gX12_likely_150.2.2.1 rfl ?_
    refine r_if_eq (t := 165) gX12_likely_150.2.2.2.1 rfl (fun h19 => ?_) (fun h19 => ?_)
    · refine r_bipush (v := (12 : Int32)) gX12_likely_150.2.2.2.2.2.2.2.1 rfl ?_
      refine r_iload (x := r14.1) gX12_likely_150.2.2.2.2.2.2.2.2.1 rfl ?_
      refine r_isub gX12_likely_150.2.2.2.2.2.2.2.2.2.1 ?_
      refine r_i2l gX12_likely_150.2.2.2.2.2.2.2.2.2.2.1 ?_
      exact r_sub (L' := [(0, .ref 60), (1, .int l1), (2, .int l2), (3, .int l3), (4, .int l4), (7, .long l7), (9, .int l9), (10, .int l10), (11, .int l11), (12, .int s0)]) (sub_c rfl (sub_c rfl (sub_c rfl (sub_c rfl (sub_c rfl (sub_c rfl (sub_c rfl (sub_c rfl (sub_c rfl (sub_c rfl sub_n)))))))))) (rb_X12_likely_171 hE hrec_72 r14.2 l1 l2 l3 l4 l7 l9 l10 l11 s0 (((12 : Int32) - r14.1).toInt64) l5)
    · refine r_iload (x := r14.1) gX12_likely_150.2.2.2.2.1 rfl ?_
      refine r_i2l gX12_likely_150.2.2.2.2.2.1 ?_
      refine r_goto (t := 171) gX12_likely_150.2.2.2.2.2.2.1 rfl ?_
      exact r_sub (L' := [(0, .ref 60), (1, .int l1), (2, .int l2), (3, .int l3), (4, .int l4), (7, .long l7), (9, .int l9), (10, .int l10), (11, .int l11), (12, .int s0)]) (sub_c rfl (sub_c rfl (sub_c rfl (sub_c rfl (sub_c rfl (sub_c rfl (sub_c rfl (sub_c rfl (sub_c rfl (sub_c rfl sub_n)))))))))) (rb_X12_likely_171 hE hrec_72 r14.2 l1 l2 l3 l4 l7 l9 l10 l11 s0 (r14.1.toInt64) l5)
def b_X12_likely_72 : SS → Int32 → Int32 → Int32 → Int32 → Int64 → Int64 → Int32 → Option (Int64 × SS) :=
  fx8 (fun (rec_72 : SS → Int32 → Int32 → Int32 → Int32 → Int64 → Int64 → Int32 → Option (Int64 × SS)) (q : SS) (l1 : Int32) (l2 : Int32) (l3 : Int32) (l4 : Int32) (l5 : Int64) (l7 : Int64) (l9 : Int32) =>
  if l4 ≤ l9 then
  ((f_X12_lowest q l5 l7 l3).bind fun r7 =>
  some (r7, q))
  else
  ((f_X12_at q l1 l9).bind fun r8 =>
  nm (r8 / (8 : Int32)) fun v9 =>
  (f_X12_at q l1 l9).bind fun r10 =>
  nm (jrem r10 (8 : Int32)) fun v11 =>
  if ((jshr l2 l9) &&& (1 : Int32)) = (1 : Int32) then
  (b_X12_likely_118 rec_72 q l1 l2 l3 l4 l5 l7 l9 v9 v11 (1 : Int32))
  else
  (b_X12_likely_118 rec_72 q l1 l2 l3 l4 l5 l7 l9 v9 v11 (0 : Int32)))) FU
theorem rb_X12_likely_72 {E : EE} (hE : GE E) (q : SS) (l1 : Int32) (l2 : Int32) (l3 : Int32) (l4 : Int32) (l5 : Int64) (l7 : Int64) (l9 : Int32) : R E (κL E) 4 242 72 [(0, .ref 60), (1, .int l1), (2, .int l2), (3, .int l3), (4, .int l4), (5, .long l5), (7, .long l7), (9, .int l9)] [] q (b_X12_likely_72 q l1 l2 l3 l4 l5 l7 l9) := by
  unfold b_X12_likely_72
  refine fx8_ok (P := fun q l1 l2 l3 l4 l5 l7 l9 o => R E (κL E) 4 242 72 [(0, .ref 60), (1, .int l1), (2, .int l2), (3, .int l3), (4, .int l4), (5, .long l5), (7, .long l7), (9, .int l9)] [] q o) (fun _ _ _ _ _ _ _ _ => r_no) (fun rec_72 hrec_72 q l1 l2 l3 l4 l5 l7 l9 => ?_) _ _ _ _ _ _ _ _ _
  refine r_iload (x := l9) gX12_likely_63.2.2.2.2.2.2.1 rfl ?_
  refine r_iload (x := l4) gX12_likely_63.2.2.2.2.2.2.2.1 rfl ?_
  refine r_icmp_ge (t := 202) gX12_likely_63.2.2.2.2.2.2.2.2.1 rfl (fun h22 => ?_) (fun h22 => ?_)
  · refine r_lload (x := l5) gX12_likely_180.2.2.2.2.2.2.2.2.2.2.1 rfl ?_
    refine r_lload (x := l7) gX12_likely_180.2.2.2.2.2.2.2.2.2.2.2.1 rfl ?_
    refine r_iload_n (x := l3) gX12_likely_180.2.2.2.2.2.2.2.2.2.2.2.2.1 rfl ?_
    refine r_calll (k := 2) (idx := 288) (y := 241) (as := [.long l5, .long l7, .int l3]) (rest := []) (L0 := [(0, .long l5), (2, .long l7), (4, .int l3)]) gX12_likely_180.2.2.2.2.2.2.2.2.2.2.2.2.2.1 rfl rfl rfl rfl rfl vok_s rfl (r_dep (by decide) (e_X12_lowest hE q l5 l7 l3)) (fun r7 => ?_)
    exact r_lreturn gX12_likely_180.2.2.2.2.2.2.2.2.2.2.2.2.2.2.1 rfl rfl
  · refine r_aload_n (x := 60) gX12_likely_63.2.2.2.2.2.2.2.2.2.1 rfl ?_
    refine r_iload_n (x := l1) gX12_likely_63.2.2.2.2.2.2.2.2.2.2.1 rfl ?_
    refine r_iload (x := l9) gX12_likely_63.2.2.2.2.2.2.2.2.2.2.2.1 rfl ?_
    refine r_calli (k := 0) (idx := 263) (y := 235) (as := [.ref 60, .int l1, .int l9]) (rest := []) (L0 := [(0, .ref 60), (1, .int l1), (2, .int l9)]) gX12_likely_63.2.2.2.2.2.2.2.2.2.2.2.2.1 rfl rfl rfl rfl rfl (vok_v (ob_60 hE) rfl) rfl (r_dep (by decide) (e_X12_at hE q l1 l9)) (fun r8 => ?_)
    refine r_bipush (v := (8 : Int32)) gX12_likely_63.2.2.2.2.2.2.2.2.2.2.2.2.2.1 rfl ?_
    refine r_idivC gX12_likely_63.2.2.2.2.2.2.2.2.2.2.2.2.2.2.1 (by decide) ?_
    refine r_nmI fun v9 _ => ?_
    refine r_istore (L2 := [(0, .ref 60), (1, .int l1), (2, .int l2), (3, .int l3), (4, .int l4), (5, .long l5), (7, .long l7), (9, .int l9), (10, .int v9)]) gX12_likely_63.2.2.2.2.2.2.2.2.2.2.2.2.2.2.2.1 rfl rfl ?_
    refine r_aload_n (x := 60) gX12_likely_91.1 rfl ?_
    refine r_iload_n (x := l1) gX12_likely_91.2.1 rfl ?_
    refine r_iload (x := l9) gX12_likely_91.2.2.1 rfl ?_
    refine r_calli (k := 0) (idx := 263) (y := 235) (as := [.ref 60, .int l1, .int l9]) (rest := []) (L0 := [(0, .ref 60), (1, .int l1), (2, .int l9)]) gX12_likely_91.2.2.2.1 rfl rfl rfl rfl rfl (vok_v (ob_60 hE) rfl) rfl (r_dep (by decide) (e_X12_at hE q l1 l9)) (fun r10 => ?_)
    refine r_bipush (v := (8 : Int32)) gX12_likely_91.2.2.2.2.1 rfl ?_
    refine r_iremC gX12_likely_91.2.2.2.2.2.1 (by decide) ?_
    refine r_nmI fun v11 _ => ?_
    refine r_istore (L2 := [(0, .ref 60), (1, .int l1), (2, .int l2), (3, .int l3), (4, .int l4), (5, .long l5), (7, .long l7), (9, .int l9), (10, .int v9), (11, .int v11)]) gX12_likely_91.2.2.2.2.2.2.1 rfl rfl ?_
    refine r_iload_n (x := l2) gX12_likely_91.2.2.2.2.2.2.2.1 rfl ?_
    refine r_iload (x := l9) gX12_likely_91.2.2.2.2.2.2.2.2.1 rfl ?_
    refine r_ishr gX12_likely_91.2.2.2.2.2.2.2.2.2.1 ?_
    refine r_iconst (v := (1 : Int32)) gX12_likely_91.2.2.2.2.2.2.2.2.2.2.1 rfl ?_
    refine r_iand gX12_likely_91.2.2.2.2.2.2.2.2.2.2.2.1 ?_
    refine r_iconst (v := (1 : Int32)) gX12_likely_91.2.2.2.2.2.2.2.2.2.2.2.2.1 rfl ?_
    refine r_icmp_ne (t := 117) gX12_likely_91.2.2.2.2.2.2.2.2.2.2.2.2.2.1 rfl (fun h21 => ?_) (fun h21 => ?_)
    · refine r_iconst (v := (1 : Int32)) gX12_likely_91.2.2.2.2.2.2.2.2.2.2.2.2.2.2.1 rfl ?_
      refine r_goto (t := 118) gX12_likely_91.2.2.2.2.2.2.2.2.2.2.2.2.2.2.2.1 rfl ?_
      exact r_sub (L' := [(0, .ref 60), (1, .int l1), (2, .int l2), (3, .int l3), (4, .int l4), (5, .long l5), (7, .long l7), (9, .int l9), (10, .int v9), (11, .int v11)]) (sub_c rfl (sub_c rfl (sub_c rfl (sub_c rfl (sub_c rfl (sub_c rfl (sub_c rfl (sub_c rfl (sub_c rfl (sub_c rfl sub_n)))))))))) (rb_X12_likely_118 hE hrec_72 q l1 l2 l3 l4 l5 l7 l9 v9 v11 (1 : Int32))
    · refine r_iconst (v := (0 : Int32)) gX12_likely_117.1 rfl ?_
      exact r_sub (L' := [(0, .ref 60), (1, .int l1), (2, .int l2), (3, .int l3), (4, .int l4), (5, .long l5), (7, .long l7), (9, .int l9), (10, .int v9), (11, .int v11)]) (sub_c rfl (sub_c rfl (sub_c rfl (sub_c rfl (sub_c rfl (sub_c rfl (sub_c rfl (sub_c rfl (sub_c rfl (sub_c rfl sub_n)))))))))) (rb_X12_likely_118 hE hrec_72 q l1 l2 l3 l4 l5 l7 l9 v9 v11 (0 : Int32))
def b_X12_likely_64 (q : SS) (l1 : Int32) (l2 : Int32) (l3 : Int32) (l4 : Int32) (s0 : Int64) : Option (Int64 × SS) :=
  b_X12_likely_72 q l1 l2 l3 l4 s0 (1 : Int64) (0 : Int32)
theorem rb_X12_likely_64 {E : EE} (hE : GE E) (q : SS) (l1 : Int32) (l2 : Int32) (l3 : Int32) (l4 : Int32) (s0 : Int64) : R E (κL E) 4 242 64 [(0, .ref 60), (1, .int l1), (2, .int l2), (3, .int l3), (4, .int l4)] [.long s0] q (b_X12_likely_64 q l1 l2 l3 l4 s0) := by
  unfold b_X12_likely_64
  refine r_lstore (L2 := [(0, .ref 60), (1, .int l1), (2, .int l2), (3, .int l3), (4, .int l4), (5, .long s0)]) gX12_likely_63.2.1 rfl rfl ?_
  refine r_lconst (v := (1 : Int64)) gX12_likely_63.2.2.1 rfl ?_
  refine r_lstore (L2 := [(0, .ref 60), (1, .int l1), (2, .int l2), (3, .int l3), (4, .int l4), (5, .long s0), (7, .long (1 : Int64))]) gX12_likely_63.2.2.2.1 rfl rfl ?_
  refine r_iconst (v := (0 : Int32)) gX12_likely_63.2.2.2.2.1 rfl ?_
  refine r_istore (L2 := [(0, .ref 60), (1, .int l1), (2, .int l2), (3, .int l3), (4, .int l4), (5, .long s0), (7, .long (1 : Int64)), (9, .int (0 : Int32))]) gX12_likely_63.2.2.2.2.2.1 rfl rfl ?_
  exact r_sub (L' := [(0, .ref 60), (1, .int l1), (2, .int l2), (3, .int l3), (4, .int l4), (5, .long s0), (7, .long (1 : Int64)), (9, .int (0 : Int32))]) (sub_c rfl (sub_c rfl (sub_c rfl (sub_c rfl (sub_c rfl (sub_c rfl (sub_c rfl (sub_c rfl sub_n)))))))) (rb_X12_likely_72 hE q l1 l2 l3 l4 s0 (1 : Int64) (0 : Int32))
def f_X12_likely (q : SS) (a1 : Int32) (a2 : Int32) (a3 : Int32) : Option (Int64 × SS) :=
  (f_X12_isShelf q a1).bind fun r1 =>
  if r1 = 0 then
  (some ((-9223372036854775808 : Int64), q))
  else
  ((f_X12_in q a2 (0 : Int32) (4095 : Int32)).bind fun r2 =>
  if r2 = 0 then
  (some ((-9223372036854775808 : Int64), q))
  else
  ((f_X12_in q a3 (0 : Int32) (1 : Int32)).bind fun r3 =>
  if r3 = 0 then
  (some ((-9223372036854775808 : Int64), q))
  else
  ((f_X12_rowFault q a1).bind fun r4 =>
  if 0 ≤ r4 then
  ((f_X12_layNow q).bind fun r5 =>
  (f_X12_longOf r5 a1 (12 : Int32)).bind fun r6 =>
  if (jshr a2 r6) = 0 then
  (b_X12_likely_64 r5 a1 a2 a3 r6 (1 : Int64))
  else
  (b_X12_likely_64 r5 a1 a2 a3 r6 (0 : Int64)))
  else
  (some ((-9223372036854775808 : Int64), q)))))
theorem e_X12_likely {E : EE} (hE : GE E) (q : SS) (a1 : Int32) (a2 : Int32) (a3 : Int32) : R E (κL E) 4 242 0 [(0, .ref 60), (1, .int a1), (2, .int a2), (3, .int a3)] [] q (f_X12_likely q a1 a2 a3) := by
  unfold f_X12_likely
  refine r_iload_n (x := a1) gX12_likely_0.1 rfl ?_
  refine r_calli (k := 2) (idx := 137) (y := 288) (as := [.int a1]) (rest := []) (L0 := [(0, .int a1)]) gX12_likely_0.2.1 rfl rfl rfl rfl rfl vok_s rfl (r_dep (by decide) (e_X12_isShelf hE q a1)) (fun r1 => ?_)
  refine r_if_eq (t := 35) gX12_likely_0.2.2.1 rfl (fun h27 => ?_) (fun h27 => ?_)
  · refine r_ldc2 (v := (-9223372036854775808 : Int64)) gX12_likely_32.2.1 rfl ?_
    exact r_lreturn gX12_likely_32.2.2.1 rfl rfl
  · refine r_iload_n (x := a2) gX12_likely_0.2.2.2.1 rfl ?_
    refine r_iconst (v := (0 : Int32)) gX12_likely_0.2.2.2.2.1 rfl ?_
    refine r_sipush (v := (4095 : Int32)) gX12_likely_0.2.2.2.2.2.1 rfl ?_
    refine r_calli (k := 2) (idx := 118) (y := 189) (as := [.int a2, .int (0 : Int32), .int (4095 : Int32)]) (rest := []) (L0 := [(0, .int a2), (1, .int (0 : Int32)), (2, .int (4095 : Int32))]) gX12_likely_0.2.2.2.2.2.2.1 rfl rfl rfl rfl rfl vok_s rfl (r_dep (by decide) (e_X12_in hE q a2 (0 : Int32) (4095 : Int32))) (fun r2 => ?_)
    refine r_if_eq (t := 35) gX12_likely_0.2.2.2.2.2.2.2.1 rfl (fun h26 => ?_) (fun h26 => ?_)
    · refine r_ldc2 (v := (-9223372036854775808 : Int64)) gX12_likely_32.2.1 rfl ?_
      exact r_lreturn gX12_likely_32.2.2.1 rfl rfl
    · refine r_iload_n (x := a3) gX12_likely_0.2.2.2.2.2.2.2.2.1 rfl ?_
      refine r_iconst (v := (0 : Int32)) gX12_likely_0.2.2.2.2.2.2.2.2.2.1 rfl ?_
      refine r_iconst (v := (1 : Int32)) gX12_likely_0.2.2.2.2.2.2.2.2.2.2.1 rfl ?_
      refine r_calli (k := 2) (idx := 118) (y := 189) (as := [.int a3, .int (0 : Int32), .int (1 : Int32)]) (rest := []) (L0 := [(0, .int a3), (1, .int (0 : Int32)), (2, .int (1 : Int32))]) gX12_likely_0.2.2.2.2.2.2.2.2.2.2.2.1 rfl rfl rfl rfl rfl vok_s rfl (r_dep (by decide) (e_X12_in hE q a3 (0 : Int32) (1 : Int32))) (fun r3 => ?_)
      refine r_if_eq (t := 35) gX12_likely_0.2.2.2.2.2.2.2.2.2.2.2.2.1 rfl (fun h25 => ?_) (fun h25 => ?_)
      · refine r_ldc2 (v := (-9223372036854775808 : Int64)) gX12_likely_32.2.1 rfl ?_
        exact r_lreturn gX12_likely_32.2.2.1 rfl rfl
      · refine r_aload_n (x := 60) gX12_likely_0.2.2.2.2.2.2.2.2.2.2.2.2.2.1 rfl ?_
        refine r_iload_n (x := a1) gX12_likely_0.2.2.2.2.2.2.2.2.2.2.2.2.2.2.1 rfl ?_
        refine r_calli (k := 0) (idx := 278) (y := 234) (as := [.ref 60, .int a1]) (rest := []) (L0 := [(0, .ref 60), (1, .int a1)]) gX12_likely_0.2.2.2.2.2.2.2.2.2.2.2.2.2.2.2.1 rfl rfl rfl rfl rfl (vok_v (ob_60 hE) rfl) rfl (r_dep (by decide) (e_X12_rowFault hE q a1)) (fun r4 => ?_)
        refine r_if_ge (t := 39) gX12_likely_32.1 rfl (fun h24 => ?_) (fun h24 => ?_)
        · refine r_aload_n (x := 60) gX12_likely_32.2.2.2.1 rfl ?_
          refine r_callV (k := 0) (idx := 168) (y := 226) (as := [.ref 60]) (rest := []) (L0 := [(0, .ref 60)]) gX12_likely_32.2.2.2.2.1 rfl rfl rfl rfl rfl (vok_v (ob_60 hE) rfl) rfl (r_dep (by decide) (e_X12_layNow hE q)) (fun r5 => ?_)
          refine r_aload_n (x := 60) gX12_likely_32.2.2.2.2.2.1 rfl ?_
          refine r_iload_n (x := a1) gX12_likely_32.2.2.2.2.2.2.1 rfl ?_
          refine r_bipush (v := (12 : Int32)) gX12_likely_32.2.2.2.2.2.2.2.1 rfl ?_
          refine r_calli (k := 0) (idx := 272) (y := 236) (as := [.ref 60, .int a1, .int (12 : Int32)]) (rest := []) (L0 := [(0, .ref 60), (1, .int a1), (2, .int (12 : Int32))]) gX12_likely_32.2.2.2.2.2.2.2.2.1 rfl rfl rfl rfl rfl (vok_v (ob_60 hE) rfl) rfl (r_dep (by decide) (e_X12_longOf hE r5 a1 (12 : Int32))) (fun r6 => ?_)
          refine r_istore (L2 := [(0, .ref 60), (1, .int a1), (2, .int a2), (3, .int a3), (4, .int r6)]) gX12_likely_32.2.2.2.2.2.2.2.2.2.1 rfl rfl ?_
          refine r_iload_n (x := a2) gX12_likely_32.2.2.2.2.2.2.2.2.2.2.1 rfl ?_
          refine r_iload (x := r6) gX12_likely_32.2.2.2.2.2.2.2.2.2.2.2.1 rfl ?_
          refine r_ishr gX12_likely_32.2.2.2.2.2.2.2.2.2.2.2.2.1 ?_
          refine r_if_ne (t := 63) gX12_likely_32.2.2.2.2.2.2.2.2.2.2.2.2.2.1 rfl (fun h23 => ?_) (fun h23 => ?_)
          · refine r_lconst (v := (1 : Int64)) gX12_likely_32.2.2.2.2.2.2.2.2.2.2.2.2.2.2.1 rfl ?_
            refine r_goto (t := 64) gX12_likely_32.2.2.2.2.2.2.2.2.2.2.2.2.2.2.2.1 rfl ?_
            exact r_sub (L' := [(0, .ref 60), (1, .int a1), (2, .int a2), (3, .int a3), (4, .int r6)]) (sub_c rfl (sub_c rfl (sub_c rfl (sub_c rfl (sub_c rfl sub_n))))) (rb_X12_likely_64 hE r5 a1 a2 a3 r6 (1 : Int64))
          · refine r_lconst (v := (0 : Int64)) gX12_likely_63.1 rfl ?_
            exact r_sub (L' := [(0, .ref 60), (1, .int a1), (2, .int a2), (3, .int a3), (4, .int r6)]) (sub_c rfl (sub_c rfl (sub_c rfl (sub_c rfl (sub_c rfl sub_n))))) (rb_X12_likely_64 hE r5 a1 a2 a3 r6 (0 : Int64))
        · refine r_ldc2 (v := (-9223372036854775808 : Int64)) gX12_likely_32.2.1 rfl ?_
          exact r_lreturn gX12_likely_32.2.2.1 rfl rfl
def b_X2_goByWell_109 (rec_12 : SS → Int32 → Int32 → Option SS) (q : SS) (l1 : Int32) (l2 : Int32) : Option SS :=
  rec_12 q l1 (l2 + (1 : Int32))
theorem rb_X2_goByWell_109 {E : EE} (hE : GE E) {rec_12 : SS → Int32 → Int32 → Option SS} (hrec_12 : ∀ (yq : SS) (yl1 : Int32) (yl2 : Int32), R E (κV E) 5 22 12 [(0, .ref 37), (1, .int yl1), (2, .int yl2)] [] yq (rec_12 yq yl1 yl2)) (q : SS) (l1 : Int32) (l2 : Int32) : R E (κV E) 5 22 109 [(0, .ref 37), (1, .int l1), (2, .int l2)] [] q (b_X2_goByWell_109 rec_12 q l1 l2) := by
  unfold b_X2_goByWell_109
  refine r_iinc (x := l2) (v := (l2 + (1 : Int32))) (L2 := [(0, .ref 37), (1, .int l1), (2, .int (l2 + (1 : Int32)))]) gX2_goByWell_87.2.2.2.2.2.2.2.2.2.2.2.2.1 rfl rfl rfl rfl ?_
  refine r_goto (t := 12) gX2_goByWell_87.2.2.2.2.2.2.2.2.2.2.2.2.2.1 rfl ?_
  exact r_sub (L' := [(0, .ref 37), (1, .int l1), (2, .int (l2 + (1 : Int32)))]) (sub_c rfl (sub_c rfl (sub_c rfl sub_n))) (hrec_12 q l1 (l2 + (1 : Int32)))
def b_X2_goByWell_12 : SS → Int32 → Int32 → Option SS :=
  fx3 (fun (rec_12 : SS → Int32 → Int32 → Option SS) (q : SS) (l1 : Int32) (l2 : Int32) =>
  if l1 ≤ l2 then
  (some q)
  else
  (if (q.1 37 3) ≤ l2 then
  (some q)
  else
  ((f_X2_ticketAt q l2).bind fun r3 =>
  (f_X2_toAt q l2).bind fun r4 =>
  (f_X8_canSlip q r3 r4).bind fun r5 =>
  if r5 = 0 then
  (nm (sI q 37 5 ((q.1 37 5) ||| (jshl (1 : Int32) l2))) fun q6 =>
  b_X2_goByWell_109 rec_12 q6 l1 l2)
  else
  ((f_X2_ticketAt q l2).bind fun r7 =>
  (f_X2_toAt q l2).bind fun r8 =>
  (f_X8_oddsOf q r7 r8).bind fun r9 =>
  if r9.1 < (6 : Int32) then
  (b_X2_goByWell_109 rec_12 r9.2 l1 l2)
  else
  (nm (sI r9.2 37 4 ((r9.2.1 37 4) + (1 : Int32))) fun q10 =>
  (f_X2_ticketAt q10 l2).bind fun r11 =>
  (f_X2_toAt q10 l2).bind fun r12 =>
  (f_X8_give q10 r11 r12).bind fun r13 =>
  b_X2_goByWell_109 rec_12 r13 l1 l2))))) FU
theorem rb_X2_goByWell_12 {E : EE} (hE : GE E) (q : SS) (l1 : Int32) (l2 : Int32) : R E (κV E) 5 22 12 [(0, .ref 37), (1, .int l1), (2, .int l2)] [] q (b_X2_goByWell_12 q l1 l2) := by
  unfold b_X2_goByWell_12
  refine fx3_ok (P := fun q l1 l2 o => R E (κV E) 5 22 12 [(0, .ref 37), (1, .int l1), (2, .int l2)] [] q o) (fun _ _ _ => r_no) (fun rec_12 hrec_12 q l1 l2 => ?_) _ _ _ _
  refine r_iload_n (x := l2) gX2_goByWell_0.2.2.2.2.2.2.2.2.1 rfl ?_
  refine r_iload_n (x := l1) gX2_goByWell_0.2.2.2.2.2.2.2.2.2.1 rfl ?_
  refine r_icmp_ge (t := 115) gX2_goByWell_0.2.2.2.2.2.2.2.2.2.2.1 rfl (fun h17 => ?_) (fun h17 => ?_)
  · exact r_return gX2_goByWell_87.2.2.2.2.2.2.2.2.2.2.2.2.2.2.1 rfl rfl
  · refine r_iload_n (x := l2) gX2_goByWell_0.2.2.2.2.2.2.2.2.2.2.2.1 rfl ?_
    refine r_aload_n (x := 37) gX2_goByWell_0.2.2.2.2.2.2.2.2.2.2.2.2.1 rfl ?_
    refine r_getI gX2_goByWell_0.2.2.2.2.2.2.2.2.2.2.2.2.2.1 (ff_2_40_37 hE) (by decide) ?_
    refine r_icmp_ge (t := 115) gX2_goByWell_0.2.2.2.2.2.2.2.2.2.2.2.2.2.2.1 rfl (fun h16 => ?_) (fun h16 => ?_)
    · exact r_return gX2_goByWell_87.2.2.2.2.2.2.2.2.2.2.2.2.2.2.1 rfl rfl
    · refine r_aload_n (x := 37) gX2_goByWell_0.2.2.2.2.2.2.2.2.2.2.2.2.2.2.2.1 rfl ?_
      refine r_getA gX2_goByWell_26.1 (fa_2_15_37 hE) ?_
      refine r_aload_n (x := 37) gX2_goByWell_26.2.1 rfl ?_
      refine r_iload_n (x := l2) gX2_goByWell_26.2.2.1 rfl ?_
      refine r_calli (k := 0) (idx := 67) (y := 16) (as := [.ref 37, .int l2]) (rest := [.ref 24]) (L0 := [(0, .ref 37), (1, .int l2)]) gX2_goByWell_26.2.2.2.1 rfl rfl rfl rfl rfl (vok_v (ob_37 hE) rfl) rfl (r_dep (by decide) (e_X2_ticketAt hE q l2)) (fun r3 => ?_)
      refine r_aload_n (x := 37) gX2_goByWell_26.2.2.2.2.1 rfl ?_
      refine r_iload_n (x := l2) gX2_goByWell_26.2.2.2.2.2.1 rfl ?_
      refine r_calli (k := 0) (idx := 70) (y := 17) (as := [.ref 37, .int l2]) (rest := [.int r3, .ref 24]) (L0 := [(0, .ref 37), (1, .int l2)]) gX2_goByWell_26.2.2.2.2.2.2.1 rfl rfl rfl rfl rfl (vok_v (ob_37 hE) rfl) rfl (r_dep (by decide) (e_X2_toAt hE q l2)) (fun r4 => ?_)
      refine r_calli (k := 0) (idx := 73) (y := 107) (as := [.ref 24, .int r3, .int r4]) (rest := []) (L0 := [(0, .ref 24), (1, .int r3), (2, .int r4)]) gX2_goByWell_26.2.2.2.2.2.2.2.1 rfl rfl rfl rfl rfl (vok_v (ob_24 hE) rfl) rfl (r_dep (by decide) (e_X8_canSlip hE q r3 r4)) (fun r5 => ?_)
      refine r_if_ne (t := 60) gX2_goByWell_26.2.2.2.2.2.2.2.2.1 rfl (fun h15 => ?_) (fun h15 => ?_)
      · refine r_aload_n (x := 37) gX2_goByWell_26.2.2.2.2.2.2.2.2.2.1 rfl ?_
        refine r_dup gX2_goByWell_26.2.2.2.2.2.2.2.2.2.2.1 rfl ?_
        refine r_getI gX2_goByWell_26.2.2.2.2.2.2.2.2.2.2.2.1 (ff_2_57_37 hE) (by decide) ?_
        refine r_iconst (v := (1 : Int32)) gX2_goByWell_26.2.2.2.2.2.2.2.2.2.2.2.2.1 rfl ?_
        refine r_iload_n (x := l2) gX2_goByWell_26.2.2.2.2.2.2.2.2.2.2.2.2.2.1 rfl ?_
        refine r_ishl gX2_goByWell_26.2.2.2.2.2.2.2.2.2.2.2.2.2.2.1 ?_
        refine r_ior gX2_goByWell_26.2.2.2.2.2.2.2.2.2.2.2.2.2.2.2.1 ?_
        refine r_putI gX2_goByWell_54.1 (ff_2_57_37 hE) ?_
        refine r_nmS fun q6 _ => ?_
        refine r_goto (t := 109) gX2_goByWell_54.2.1 rfl ?_
        exact r_sub (L' := [(0, .ref 37), (1, .int l1), (2, .int l2)]) (sub_c rfl (sub_c rfl (sub_c rfl sub_n))) (rb_X2_goByWell_109 hE hrec_12 q6 l1 l2)
      · refine r_aload_n (x := 37) gX2_goByWell_54.2.2.1 rfl ?_
        refine r_getA gX2_goByWell_54.2.2.2.1 (fa_2_15_37 hE) ?_
        refine r_aload_n (x := 37) gX2_goByWell_54.2.2.2.2.1 rfl ?_
        refine r_iload_n (x := l2) gX2_goByWell_54.2.2.2.2.2.1 rfl ?_
        refine r_calli (k := 0) (idx := 67) (y := 16) (as := [.ref 37, .int l2]) (rest := [.ref 24]) (L0 := [(0, .ref 37), (1, .int l2)]) gX2_goByWell_54.2.2.2.2.2.2.1 rfl rfl rfl rfl rfl (vok_v (ob_37 hE) rfl) rfl (r_dep (by decide) (e_X2_ticketAt hE q l2)) (fun r7 => ?_)
        refine r_aload_n (x := 37) gX2_goByWell_54.2.2.2.2.2.2.2.1 rfl ?_
        refine r_iload_n (x := l2) gX2_goByWell_54.2.2.2.2.2.2.2.2.1 rfl ?_
        refine r_calli (k := 0) (idx := 70) (y := 17) (as := [.ref 37, .int l2]) (rest := [.int r7, .ref 24]) (L0 := [(0, .ref 37), (1, .int l2)]) gX2_goByWell_54.2.2.2.2.2.2.2.2.2.1 rfl rfl rfl rfl rfl (vok_v (ob_37 hE) rfl) rfl (r_dep (by decide) (e_X2_toAt hE q l2)) (fun r8 => ?_)
        refine r_callI (k := 0) (idx := 77) (y := 109) (as := [.ref 24, .int r7, .int r8]) (rest := []) (L0 := [(0, .ref 24), (1, .int r7), (2, .int r8)]) gX2_goByWell_54.2.2.2.2.2.2.2.2.2.2.1 rfl rfl rfl rfl rfl (vok_v (ob_24 hE) rfl) rfl (r_dep (by decide) (e_X8_oddsOf hE q r7 r8)) (fun r9 => ?_)
        refine r_bipush (v := (6 : Int32)) gX2_goByWell_54.2.2.2.2.2.2.2.2.2.2.2.1 rfl ?_
        refine r_icmp_lt (t := 109) gX2_goByWell_54.2.2.2.2.2.2.2.2.2.2.2.2.1 rfl (fun h14 => ?_) (fun h14 => ?_)
        · exact r_sub (L' := [(0, .ref 37), (1, .int l1), (2, .int l2)]) (sub_c rfl (sub_c rfl (sub_c rfl sub_n))) (rb_X2_goByWell_109 hE hrec_12 r9.2 l1 l2)
        · refine r_aload_n (x := 37) gX2_goByWell_54.2.2.2.2.2.2.2.2.2.2.2.2.2.1 rfl ?_
          refine r_dup gX2_goByWell_54.2.2.2.2.2.2.2.2.2.2.2.2.2.2.1 rfl ?_
          refine r_getI gX2_goByWell_54.2.2.2.2.2.2.2.2.2.2.2.2.2.2.2.1 (ff_2_54_37 hE) (by decide) ?_
          refine r_iconst (v := (1 : Int32)) gX2_goByWell_87.1 rfl ?_
          refine r_iadd gX2_goByWell_87.2.1 ?_
          refine r_putI gX2_goByWell_87.2.2.1 (ff_2_54_37 hE) ?_
          refine r_nmS fun q10 _ => ?_
          refine r_aload_n (x := 37) gX2_goByWell_87.2.2.2.1 rfl ?_
          refine r_getA gX2_goByWell_87.2.2.2.2.1 (fa_2_15_37 hE) ?_
          refine r_aload_n (x := 37) gX2_goByWell_87.2.2.2.2.2.1 rfl ?_
          refine r_iload_n (x := l2) gX2_goByWell_87.2.2.2.2.2.2.1 rfl ?_
          refine r_calli (k := 0) (idx := 67) (y := 16) (as := [.ref 37, .int l2]) (rest := [.ref 24]) (L0 := [(0, .ref 37), (1, .int l2)]) gX2_goByWell_87.2.2.2.2.2.2.2.1 rfl rfl rfl rfl rfl (vok_v (ob_37 hE) rfl) rfl (r_dep (by decide) (e_X2_ticketAt hE q10 l2)) (fun r11 => ?_)
          refine r_aload_n (x := 37) gX2_goByWell_87.2.2.2.2.2.2.2.2.1 rfl ?_
          refine r_iload_n (x := l2) gX2_goByWell_87.2.2.2.2.2.2.2.2.2.1 rfl ?_
          refine r_calli (k := 0) (idx := 70) (y := 17) (as := [.ref 37, .int l2]) (rest := [.int r11, .ref 24]) (L0 := [(0, .ref 37), (1, .int l2)]) gX2_goByWell_87.2.2.2.2.2.2.2.2.2.2.1 rfl rfl rfl rfl rfl (vok_v (ob_37 hE) rfl) rfl (r_dep (by decide) (e_X2_toAt hE q10 l2)) (fun r12 => ?_)
          refine r_callV (k := 0) (idx := 80) (y := 99) (as := [.ref 24, .int r11, .int r12]) (rest := []) (L0 := [(0, .ref 24), (1, .int r11), (2, .int r12)]) gX2_goByWell_87.2.2.2.2.2.2.2.2.2.2.2.1 rfl rfl rfl rfl rfl (vok_v (ob_24 hE) rfl) rfl (r_dep (by decide) (e_X8_give hE q10 r11 r12)) (fun r13 => ?_)
          exact r_sub (L' := [(0, .ref 37), (1, .int l1), (2, .int l2)]) (sub_c rfl (sub_c rfl (sub_c rfl sub_n))) (rb_X2_goByWell_109 hE hrec_12 r13 l1 l2)
def f_X2_goByWell (q : SS) (a1 : Int32) : Option SS :=
  nm (sI q 37 4 (0 : Int32)) fun q1 =>
  nm (sI q1 37 5 (0 : Int32)) fun q2 =>
  b_X2_goByWell_12 q2 a1 (0 : Int32)
theorem e_X2_goByWell {E : EE} (hE : GE E) (q : SS) (a1 : Int32) : R E (κV E) 5 22 0 [(0, .ref 37), (1, .int a1)] [] q (f_X2_goByWell q a1) := by
  unfold f_X2_goByWell
  refine r_aload_n (x := 37) gX2_goByWell_0.1 rfl ?_
  refine r_iconst (v := (0 : Int32)) gX2_goByWell_0.2.1 rfl ?_
  refine r_putI gX2_goByWell_0.2.2.1 (ff_2_54_37 hE) ?_
  refine r_nmS fun q1 _ => ?_
  refine r_aload_n (x := 37) gX2_goByWell_0.2.2.2.1 rfl ?_
  refine r_iconst (v := (0 : Int32)) gX2_goByWell_0.2.2.2.2.1 rfl ?_
  refine r_putI gX2_goByWell_0.2.2.2.2.2.1 (ff_2_57_37 hE) ?_
  refine r_nmS fun q2 _ => ?_
  refine r_iconst (v := (0 : Int32)) gX2_goByWell_0.2.2.2.2.2.2.1 rfl ?_
  refine r_istore_n (L2 := [(0, .ref 37), (1, .int a1), (2, .int (0 : Int32))]) gX2_goByWell_0.2.2.2.2.2.2.2.1 rfl rfl ?_
  exact r_sub (L' := [(0, .ref 37), (1, .int a1), (2, .int (0 : Int32))]) (sub_c rfl (sub_c rfl (sub_c rfl sub_n))) (rb_X2_goByWell_12 hE q2 a1 (0 : Int32))
def f_X2_wells (q : SS)  : Option Int32 :=
  some (q.1 37 4)
theorem e_X2_wells {E : EE} (hE : GE E) (q : SS)  : R E (κi E q) 0 18 0 [(0, .ref 37)] [] q (f_X2_wells q) := by
  unfold f_X2_wells
  refine r_aload_n (x := 37) gX2_wells_0.1 rfl ?_
  refine r_getI gX2_wells_0.2.1 (ff_2_54_37 hE) (by decide) ?_
  exact r_ireturn gX2_wells_0.2.2.1 rfl rfl
def f_X2_leftOut (q : SS)  : Option Int32 :=
  some (q.1 37 5)
theorem e_X2_leftOut {E : EE} (hE : GE E) (q : SS)  : R E (κi E q) 0 19 0 [(0, .ref 37)] [] q (f_X2_leftOut q) := by
  unfold f_X2_leftOut
  refine r_aload_n (x := 37) gX2_leftOut_0.1 rfl ?_
  refine r_getI gX2_leftOut_0.2.1 (ff_2_57_37 hE) (by decide) ?_
  exact r_ireturn gX2_leftOut_0.2.2.1 rfl rfl
def b_X11_eve_45 (q : SS) (l1 : Int32) (l2 : Int32) (l3 : Int32) : Option (Int32 × SS) :=
  (f_X7_refusalOfBytes q l1).bind fun r2 =>
  if r2 = 0 then
  ((f_X2_begin q l1).bind fun r3 =>
  (f_X2_goByWell r3 l2).bind fun r4 =>
  if l3 = (-1 : Int32) then
  ((f_X2_wells r4).bind fun r5 =>
  some (r5, r4))
  else
  (if l3 = (-2 : Int32) then
  ((f_X2_leftOut r4).bind fun r6 =>
  some (r6, r4))
  else
  ((f_X8_realsOf r4 l3).bind fun r7 =>
  some (r7, r4))))
  else
  (some (r2, q))
theorem rb_X11_eve_45 {E : EE} (hE : GE E) (q : SS) (l1 : Int32) (l2 : Int32) (l3 : Int32) : R E (κI E) 6 150 45 [(0, .ref 0), (1, .int l1), (2, .int l2), (3, .int l3)] [] q (b_X11_eve_45 q l1 l2 l3) := by
  unfold b_X11_eve_45
  refine r_aload_n (x := 0) gX11_eve_32.2.2.2.2.2.2.2.1 rfl ?_
  refine r_getA gX11_eve_32.2.2.2.2.2.2.2.2.1 (fa_11_42_0 hE) ?_
  refine r_iload_n (x := l1) gX11_eve_32.2.2.2.2.2.2.2.2.2.1 rfl ?_
  refine r_calli (k := 0) (idx := 110) (y := 85) (as := [.ref 26, .int l1]) (rest := []) (L0 := [(0, .ref 26), (1, .int l1)]) gX11_eve_32.2.2.2.2.2.2.2.2.2.2.1 rfl rfl rfl rfl rfl (vok_v (ob_26 hE) rfl) rfl (r_dep (by decide) (e_X7_refusalOfBytes hE q l1)) (fun r2 => ?_)
  refine r_istore (L2 := [(0, .ref 0), (1, .int l1), (2, .int l2), (3, .int l3), (4, .int r2)]) gX11_eve_32.2.2.2.2.2.2.2.2.2.2.2.1 rfl rfl ?_
  refine r_iload (x := r2) gX11_eve_32.2.2.2.2.2.2.2.2.2.2.2.2.1 rfl ?_
  refine r_if_eq (t := 63) gX11_eve_32.2.2.2.2.2.2.2.2.2.2.2.2.2.1 rfl (fun h10 => ?_) (fun h10 => ?_)
  · refine r_aload_n (x := 0) gX11_eve_63.1 rfl ?_
    refine r_getA gX11_eve_63.2.1 (fa_11_51_0 hE) ?_
    refine r_aload_n (x := 0) gX11_eve_63.2.2.1 rfl ?_
    refine r_getA gX11_eve_63.2.2.2.1 (fa_11_42_0 hE) ?_
    refine r_iload_n (x := l1) gX11_eve_63.2.2.2.2.1 rfl ?_
    refine r_callV (k := 0) (idx := 183) (y := 14) (as := [.ref 37, .ref 26, .int l1]) (rest := []) (L0 := [(0, .ref 37), (1, .ref 26), (2, .int l1)]) gX11_eve_63.2.2.2.2.2.1 rfl rfl rfl rfl rfl (vok_v (ob_37 hE) rfl) rfl (r_dep (by decide) (e_X2_begin hE q l1)) (fun r3 => ?_)
    refine r_aload_n (x := 0) gX11_eve_63.2.2.2.2.2.2.1 rfl ?_
    refine r_getA gX11_eve_63.2.2.2.2.2.2.2.1 (fa_11_51_0 hE) ?_
    refine r_iload_n (x := l2) gX11_eve_63.2.2.2.2.2.2.2.2.1 rfl ?_
    refine r_callV (k := 0) (idx := 186) (y := 22) (as := [.ref 37, .int l2]) (rest := []) (L0 := [(0, .ref 37), (1, .int l2)]) gX11_eve_63.2.2.2.2.2.2.2.2.2.1 rfl rfl rfl rfl rfl (vok_v (ob_37 hE) rfl) rfl (r_dep (by decide) (e_X2_goByWell hE r3 l2)) (fun r4 => ?_)
    refine r_iload_n (x := l3) gX11_eve_63.2.2.2.2.2.2.2.2.2.2.1 rfl ?_
    refine r_iconst (v := (-1 : Int32)) gX11_eve_63.2.2.2.2.2.2.2.2.2.2.2.1 rfl ?_
    refine r_icmp_ne (t := 96) gX11_eve_63.2.2.2.2.2.2.2.2.2.2.2.2.1 rfl (fun h9 => ?_) (fun h9 => ?_)
    · refine r_aload_n (x := 0) gX11_eve_63.2.2.2.2.2.2.2.2.2.2.2.2.2.1 rfl ?_
      refine r_getA gX11_eve_63.2.2.2.2.2.2.2.2.2.2.2.2.2.2.1 (fa_11_51_0 hE) ?_
      refine r_calli (k := 0) (idx := 193) (y := 18) (as := [.ref 37]) (rest := []) (L0 := [(0, .ref 37)]) gX11_eve_63.2.2.2.2.2.2.2.2.2.2.2.2.2.2.2.1 rfl rfl rfl rfl rfl (vok_v (ob_37 hE) rfl) rfl (r_dep (by decide) (e_X2_wells hE r4)) (fun r5 => ?_)
      exact r_ireturn gX11_eve_95.1 rfl rfl
    · refine r_iload_n (x := l3) gX11_eve_95.2.1 rfl ?_
      refine r_bipush (v := (-2 : Int32)) gX11_eve_95.2.2.1 rfl ?_
      refine r_icmp_ne (t := 112) gX11_eve_95.2.2.2.1 rfl (fun h8 => ?_) (fun h8 => ?_)
      · refine r_aload_n (x := 0) gX11_eve_95.2.2.2.2.1 rfl ?_
        refine r_getA gX11_eve_95.2.2.2.2.2.1 (fa_11_51_0 hE) ?_
        refine r_calli (k := 0) (idx := 196) (y := 19) (as := [.ref 37]) (rest := []) (L0 := [(0, .ref 37)]) gX11_eve_95.2.2.2.2.2.2.1 rfl rfl rfl rfl rfl (vok_v (ob_37 hE) rfl) rfl (r_dep (by decide) (e_X2_leftOut hE r4)) (fun r6 => ?_)
        refine r_goto (t := 120) gX11_eve_95.2.2.2.2.2.2.2.1 rfl ?_
        exact r_ireturn gX11_eve_95.2.2.2.2.2.2.2.2.2.2.2.2.1 rfl rfl
      · refine r_aload_n (x := 0) gX11_eve_95.2.2.2.2.2.2.2.2.1 rfl ?_
        refine r_getA gX11_eve_95.2.2.2.2.2.2.2.2.2.1 (fa_11_35_0 hE) ?_
        refine r_iload_n (x := l3) gX11_eve_95.2.2.2.2.2.2.2.2.2.2.1 rfl ?_
        refine r_calli (k := 0) (idx := 150) (y := 101) (as := [.ref 24, .int l3]) (rest := []) (L0 := [(0, .ref 24), (1, .int l3)]) gX11_eve_95.2.2.2.2.2.2.2.2.2.2.2.1 rfl rfl rfl rfl rfl (vok_v (ob_24 hE) rfl) rfl (r_dep (by decide) (e_X8_realsOf hE r4 l3)) (fun r7 => ?_)
        exact r_ireturn gX11_eve_95.2.2.2.2.2.2.2.2.2.2.2.2.1 rfl rfl
  · refine r_iload (x := r2) gX11_eve_32.2.2.2.2.2.2.2.2.2.2.2.2.2.2.1 rfl ?_
    exact r_ireturn gX11_eve_32.2.2.2.2.2.2.2.2.2.2.2.2.2.2.2.1 rfl rfl
def f_X11_eve (q : SS) (a1 : Int32) (a2 : Int32) (a3 : Int32) : Option (Int32 × SS) :=
  (f_X7_isShelf q a1).bind fun r1 =>
  if r1 = 0 then
  (some ((-1 : Int32), q))
  else
  (if a2 < 0 then
  (some ((-1 : Int32), q))
  else
  (if (12 : Int32) < a2 then
  (some ((-1 : Int32), q))
  else
  (if a3 = (-1 : Int32) then
  (b_X11_eve_45 q a1 a2 a3)
  else
  (if a3 = (-2 : Int32) then
  (b_X11_eve_45 q a1 a2 a3)
  else
  ((f_X10_isPerson q a3).bind fun r11 =>
  if r11 = 0 then
  (some ((-1 : Int32), q))
  else
  (b_X11_eve_45 q a1 a2 a3))))))
theorem e_X11_eve {E : EE} (hE : GE E) (q : SS) (a1 : Int32) (a2 : Int32) (a3 : Int32) : R E (κI E) 6 150 0 [(0, .ref 0), (1, .int a1), (2, .int a2), (3, .int a3)] [] q (f_X11_eve q a1 a2 a3) := by
  unfold f_X11_eve
  refine r_aload_n (x := 0) gX11_eve_0.1 rfl ?_
  refine r_getA gX11_eve_0.2.1 (fa_11_42_0 hE) ?_
  refine r_iload_n (x := a1) gX11_eve_0.2.2.1 rfl ?_
  refine r_calli (k := 0) (idx := 106) (y := 79) (as := [.ref 26, .int a1]) (rest := []) (L0 := [(0, .ref 26), (1, .int a1)]) gX11_eve_0.2.2.2.1 rfl rfl rfl rfl rfl (vok_v (ob_26 hE) rfl) rfl (r_dep (by decide) (e_X7_isShelf hE q a1)) (fun r1 => ?_)
  refine r_if_eq (t := 43) gX11_eve_0.2.2.2.2.1 rfl (fun h17 => ?_) (fun h17 => ?_)
  · refine r_iconst (v := (-1 : Int32)) gX11_eve_32.2.2.2.2.2.1 rfl ?_
    exact r_ireturn gX11_eve_32.2.2.2.2.2.2.1 rfl rfl
  · refine r_iload_n (x := a2) gX11_eve_0.2.2.2.2.2.1 rfl ?_
    refine r_if_lt (t := 43) gX11_eve_0.2.2.2.2.2.2.1 rfl (fun h16 => ?_) (fun h16 => ?_)
    · refine r_iconst (v := (-1 : Int32)) gX11_eve_32.2.2.2.2.2.1 rfl ?_
      exact r_ireturn gX11_eve_32.2.2.2.2.2.2.1 rfl rfl
    · refine r_iload_n (x := a2) gX11_eve_0.2.2.2.2.2.2.2.1 rfl ?_
      refine r_bipush (v := (12 : Int32)) gX11_eve_0.2.2.2.2.2.2.2.2.1 rfl ?_
      refine r_icmp_gt (t := 43) gX11_eve_0.2.2.2.2.2.2.2.2.2.1 rfl (fun h15 => ?_) (fun h15 => ?_)
      · refine r_iconst (v := (-1 : Int32)) gX11_eve_32.2.2.2.2.2.1 rfl ?_
        exact r_ireturn gX11_eve_32.2.2.2.2.2.2.1 rfl rfl
      · refine r_iload_n (x := a3) gX11_eve_0.2.2.2.2.2.2.2.2.2.2.1 rfl ?_
        refine r_iconst (v := (-1 : Int32)) gX11_eve_0.2.2.2.2.2.2.2.2.2.2.2.1 rfl ?_
        refine r_icmp_eq (t := 45) gX11_eve_0.2.2.2.2.2.2.2.2.2.2.2.2.1 rfl (fun h14 => ?_) (fun h14 => ?_)
        · exact r_sub (L' := [(0, .ref 0), (1, .int a1), (2, .int a2), (3, .int a3)]) (sub_c rfl (sub_c rfl (sub_c rfl (sub_c rfl sub_n)))) (rb_X11_eve_45 hE q a1 a2 a3)
        · refine r_iload_n (x := a3) gX11_eve_0.2.2.2.2.2.2.2.2.2.2.2.2.2.1 rfl ?_
          refine r_bipush (v := (-2 : Int32)) gX11_eve_0.2.2.2.2.2.2.2.2.2.2.2.2.2.2.1 rfl ?_
          refine r_icmp_eq (t := 45) gX11_eve_0.2.2.2.2.2.2.2.2.2.2.2.2.2.2.2.1 rfl (fun h13 => ?_) (fun h13 => ?_)
          · exact r_sub (L' := [(0, .ref 0), (1, .int a1), (2, .int a2), (3, .int a3)]) (sub_c rfl (sub_c rfl (sub_c rfl (sub_c rfl sub_n)))) (rb_X11_eve_45 hE q a1 a2 a3)
          · refine r_aload_n (x := 0) gX11_eve_32.1 rfl ?_
            refine r_getA gX11_eve_32.2.1 (fa_11_10_0 hE) ?_
            refine r_iload_n (x := a3) gX11_eve_32.2.2.1 rfl ?_
            refine r_calli (k := 0) (idx := 140) (y := 128) (as := [.ref 1, .int a3]) (rest := []) (L0 := [(0, .ref 1), (1, .int a3)]) gX11_eve_32.2.2.2.1 rfl rfl rfl rfl rfl (vok_v (ob_1 hE) rfl) rfl (r_dep (by decide) (e_X10_isPerson hE q a3)) (fun r11 => ?_)
            refine r_if_ne (t := 45) gX11_eve_32.2.2.2.2.1 rfl (fun h12 => ?_) (fun h12 => ?_)
            · refine r_iconst (v := (-1 : Int32)) gX11_eve_32.2.2.2.2.2.1 rfl ?_
              exact r_ireturn gX11_eve_32.2.2.2.2.2.2.1 rfl rfl
            · exact r_sub (L' := [(0, .ref 0), (1, .int a1), (2, .int a2), (3, .int a3)]) (sub_c rfl (sub_c rfl (sub_c rfl (sub_c rfl sub_n)))) (rb_X11_eve_45 hE q a1 a2 a3)
def f_X12_areMany (q : SS) (a0 : Int32) : Option Int32 :=
  (f_X12_in q a0 (0 : Int32) (12 : Int32)).bind fun r1 =>
  if r1 = 0 ∨ r1 = 1 then some r1 else none
theorem e_X12_areMany {E : EE} (hE : GE E) (q : SS) (a0 : Int32) : R E (κi E q) 1 238 0 [(0, .int a0)] [] q (f_X12_areMany q a0) := by
  unfold f_X12_areMany
  refine r_iload_n (x := a0) gX12_areMany_0.1 rfl ?_
  refine r_iconst (v := (0 : Int32)) gX12_areMany_0.2.1 rfl ?_
  refine r_bipush (v := (12 : Int32)) gX12_areMany_0.2.2.1 rfl ?_
  refine r_calli (k := 2) (idx := 118) (y := 189) (as := [.int a0, .int (0 : Int32), .int (12 : Int32)]) (rest := []) (L0 := [(0, .int a0), (1, .int (0 : Int32)), (2, .int (12 : Int32))]) gX12_areMany_0.2.2.2.1 rfl rfl rfl rfl rfl vok_s rfl (r_dep (by decide) (e_X12_in hE q a0 (0 : Int32) (12 : Int32))) (fun r1 => ?_)
  exact r_zreturn gX12_areMany_0.2.2.2.2.1 rfl rfl
def b_X12_goEve_113 (rec_24 : SS → Int32 → Int32 → Int32 → Option SS) (q : SS) (l1 : Int32) (l3 : Int32) (l4 : Int32) : Option SS :=
  rec_24 q l1 l3 (l4 + (1 : Int32))
theorem rb_X12_goEve_113 {E : EE} (hE : GE E) {rec_24 : SS → Int32 → Int32 → Int32 → Option SS} (hrec_24 : ∀ (yq : SS) (yl1 : Int32) (yl3 : Int32) (yl4 : Int32), R E (κV E) 4 237 24 [(0, .ref 60), (1, .int yl1), (3, .int yl3), (4, .int yl4)] [] yq (rec_24 yq yl1 yl3 yl4)) (q : SS) (l1 : Int32) (l3 : Int32) (l4 : Int32) : R E (κV E) 4 237 113 [(0, .ref 60), (1, .int l1), (3, .int l3), (4, .int l4)] [] q (b_X12_goEve_113 rec_24 q l1 l3 l4) := by
  unfold b_X12_goEve_113
  refine r_iinc (x := l4) (v := (l4 + (1 : Int32))) (L2 := [(0, .ref 60), (1, .int l1), (3, .int l3), (4, .int (l4 + (1 : Int32)))]) gX12_goEve_84.2.2.2.2.2.2.2.2.2.2.2.2.2.2.2.1 rfl rfl rfl rfl ?_
  refine r_goto (t := 24) gX12_goEve_116.1 rfl ?_
  exact r_sub (L' := [(0, .ref 60), (1, .int l1), (3, .int l3), (4, .int (l4 + (1 : Int32)))]) (sub_c rfl (sub_c rfl (sub_c rfl (sub_c rfl sub_n)))) (hrec_24 q l1 l3 (l4 + (1 : Int32)))
def b_X12_goEve_24 : SS → Int32 → Int32 → Int32 → Option SS :=
  fx4 (fun (rec_24 : SS → Int32 → Int32 → Int32 → Option SS) (q : SS) (l1 : Int32) (l3 : Int32) (l4 : Int32) =>
  if l3 ≤ l4 then
  (some q)
  else
  ((f_X12_at q l1 l4).bind fun r5 =>
  nm (r5 / (8 : Int32)) fun v6 =>
  (f_X12_at q l1 l4).bind fun r7 =>
  nm (jrem r7 (8 : Int32)) fun v8 =>
  (f_X12_maySlip q v6 v8).bind fun r9 =>
  if r9 = 0 then
  (nm (sI q 60 34 ((q.1 60 34) ||| (jshl (1 : Int32) l4))) fun q10 =>
  b_X12_goEve_113 rec_24 q10 l1 l3 l4)
  else
  ((f_X12_oddsOf q v6 v8).bind fun r11 =>
  if r11.1 < (6 : Int32) then
  (b_X12_goEve_113 rec_24 r11.2 l1 l3 l4)
  else
  (if vin v6 12 then
  nm (sI r11.2 81 v6.toNatClampNeg v8) fun q12 =>
  nm (sI q12 60 33 ((q12.1 60 33) + (1 : Int32))) fun q13 =>
  b_X12_goEve_113 rec_24 q13 l1 l3 l4
  else none)))) FU
theorem rb_X12_goEve_24 {E : EE} (hE : GE E) (q : SS) (l1 : Int32) (l3 : Int32) (l4 : Int32) : R E (κV E) 4 237 24 [(0, .ref 60), (1, .int l1), (3, .int l3), (4, .int l4)] [] q (b_X12_goEve_24 q l1 l3 l4) := by
  unfold b_X12_goEve_24
  refine fx4_ok (P := fun q l1 l3 l4 o => R E (κV E) 4 237 24 [(0, .ref 60), (1, .int l1), (3, .int l3), (4, .int l4)] [] q o) (fun _ _ _ _ => r_no) (fun rec_24 hrec_24 q l1 l3 l4 => ?_) _ _ _ _ _
  refine r_iload (x := l4) gX12_goEve_0.2.2.2.2.2.2.2.2.2.2.2.2.2.2.2.1 rfl ?_
  refine r_iload_n (x := l3) gX12_goEve_26.1 rfl ?_
  refine r_icmp_ge (t := 119) gX12_goEve_26.2.1 rfl (fun h16 => ?_) (fun h16 => ?_)
  · exact r_return gX12_goEve_116.2.1 rfl rfl
  · refine r_aload_n (x := 60) gX12_goEve_26.2.2.1 rfl ?_
    refine r_iload_n (x := l1) gX12_goEve_26.2.2.2.1 rfl ?_
    refine r_iload (x := l4) gX12_goEve_26.2.2.2.2.1 rfl ?_
    refine r_calli (k := 0) (idx := 263) (y := 235) (as := [.ref 60, .int l1, .int l4]) (rest := []) (L0 := [(0, .ref 60), (1, .int l1), (2, .int l4)]) gX12_goEve_26.2.2.2.2.2.1 rfl rfl rfl rfl rfl (vok_v (ob_60 hE) rfl) rfl (r_dep (by decide) (e_X12_at hE q l1 l4)) (fun r5 => ?_)
    refine r_bipush (v := (8 : Int32)) gX12_goEve_26.2.2.2.2.2.2.1 rfl ?_
    refine r_idivC gX12_goEve_26.2.2.2.2.2.2.2.1 (by decide) ?_
    refine r_nmI fun v6 _ => ?_
    refine r_istore (L2 := [(0, .ref 60), (1, .int l1), (3, .int l3), (4, .int l4), (5, .int v6)]) gX12_goEve_26.2.2.2.2.2.2.2.2.1 rfl rfl ?_
    refine r_aload_n (x := 60) gX12_goEve_26.2.2.2.2.2.2.2.2.2.1 rfl ?_
    refine r_iload_n (x := l1) gX12_goEve_26.2.2.2.2.2.2.2.2.2.2.1 rfl ?_
    refine r_iload (x := l4) gX12_goEve_26.2.2.2.2.2.2.2.2.2.2.2.1 rfl ?_
    refine r_calli (k := 0) (idx := 263) (y := 235) (as := [.ref 60, .int l1, .int l4]) (rest := []) (L0 := [(0, .ref 60), (1, .int l1), (2, .int l4)]) gX12_goEve_26.2.2.2.2.2.2.2.2.2.2.2.2.1 rfl rfl rfl rfl rfl (vok_v (ob_60 hE) rfl) rfl (r_dep (by decide) (e_X12_at hE q l1 l4)) (fun r7 => ?_)
    refine r_bipush (v := (8 : Int32)) gX12_goEve_26.2.2.2.2.2.2.2.2.2.2.2.2.2.1 rfl ?_
    refine r_iremC gX12_goEve_26.2.2.2.2.2.2.2.2.2.2.2.2.2.2.1 (by decide) ?_
    refine r_nmI fun v8 _ => ?_
    refine r_istore (L2 := [(0, .ref 60), (1, .int l1), (3, .int l3), (4, .int l4), (5, .int v6), (6, .int v8)]) gX12_goEve_26.2.2.2.2.2.2.2.2.2.2.2.2.2.2.2.1 rfl rfl ?_
    refine r_aload_n (x := 60) gX12_goEve_54.1 rfl ?_
    refine r_iload (x := v6) gX12_goEve_54.2.1 rfl ?_
    refine r_iload (x := v8) gX12_goEve_54.2.2.1 rfl ?_
    refine r_calli (k := 0) (idx := 251) (y := 230) (as := [.ref 60, .int v6, .int v8]) (rest := []) (L0 := [(0, .ref 60), (1, .int v6), (2, .int v8)]) gX12_goEve_54.2.2.2.1 rfl rfl rfl rfl rfl (vok_v (ob_60 hE) rfl) rfl (r_dep (by decide) (e_X12_maySlip hE q v6 v8)) (fun r9 => ?_)
    refine r_if_ne (t := 81) gX12_goEve_54.2.2.2.2.1 rfl (fun h15 => ?_) (fun h15 => ?_)
    · refine r_aload_n (x := 60) gX12_goEve_54.2.2.2.2.2.1 rfl ?_
      refine r_dup gX12_goEve_54.2.2.2.2.2.2.1 rfl ?_
      refine r_getI gX12_goEve_54.2.2.2.2.2.2.2.1 (ff_12_269_60 hE) (by decide) ?_
      refine r_iconst (v := (1 : Int32)) gX12_goEve_54.2.2.2.2.2.2.2.2.1 rfl ?_
      refine r_iload (x := l4) gX12_goEve_54.2.2.2.2.2.2.2.2.2.1 rfl ?_
      refine r_ishl gX12_goEve_54.2.2.2.2.2.2.2.2.2.2.1 ?_
      refine r_ior gX12_goEve_54.2.2.2.2.2.2.2.2.2.2.2.1 ?_
      refine r_putI gX12_goEve_54.2.2.2.2.2.2.2.2.2.2.2.2.1 (ff_12_269_60 hE) ?_
      refine r_nmS fun q10 _ => ?_
      refine r_goto (t := 113) gX12_goEve_54.2.2.2.2.2.2.2.2.2.2.2.2.2.1 rfl ?_
      exact r_sub (L' := [(0, .ref 60), (1, .int l1), (3, .int l3), (4, .int l4)]) (sub_c rfl (sub_c rfl (sub_c rfl (sub_c rfl sub_n)))) (rb_X12_goEve_113 hE hrec_24 q10 l1 l3 l4)
    · refine r_aload_n (x := 60) gX12_goEve_54.2.2.2.2.2.2.2.2.2.2.2.2.2.2.1 rfl ?_
      refine r_iload (x := v6) gX12_goEve_54.2.2.2.2.2.2.2.2.2.2.2.2.2.2.2.1 rfl ?_
      refine r_iload (x := v8) gX12_goEve_84.1 rfl ?_
      refine r_callI (k := 0) (idx := 260) (y := 231) (as := [.ref 60, .int v6, .int v8]) (rest := []) (L0 := [(0, .ref 60), (1, .int v6), (2, .int v8)]) gX12_goEve_84.2.1 rfl rfl rfl rfl rfl (vok_v (ob_60 hE) rfl) rfl (r_dep (by decide) (e_X12_oddsOf hE q v6 v8)) (fun r11 => ?_)
      refine r_bipush (v := (6 : Int32)) gX12_goEve_84.2.2.1 rfl ?_
      refine r_icmp_lt (t := 113) gX12_goEve_84.2.2.2.1 rfl (fun h14 => ?_) (fun h14 => ?_)
      · exact r_sub (L' := [(0, .ref 60), (1, .int l1), (3, .int l3), (4, .int l4)]) (sub_c rfl (sub_c rfl (sub_c rfl (sub_c rfl sub_n)))) (rb_X12_goEve_113 hE hrec_24 r11.2 l1 l3 l4)
      · refine r_aload_n (x := 60) gX12_goEve_84.2.2.2.2.1 rfl ?_
        refine r_getA gX12_goEve_84.2.2.2.2.2.1 (fa_12_74_60 hE) ?_
        refine r_iload (x := v6) gX12_goEve_84.2.2.2.2.2.2.1 rfl ?_
        refine r_iload (x := v8) gX12_goEve_84.2.2.2.2.2.2.2.1 rfl ?_
        refine r_iastore gX12_goEve_84.2.2.2.2.2.2.2.2.1 (ar_81 hE) ?_
        refine r_nmS fun q12 _ => ?_
        refine r_aload_n (x := 60) gX12_goEve_84.2.2.2.2.2.2.2.2.2.1 rfl ?_
        refine r_dup gX12_goEve_84.2.2.2.2.2.2.2.2.2.2.1 rfl ?_
        refine r_getI gX12_goEve_84.2.2.2.2.2.2.2.2.2.2.2.1 (ff_12_266_60 hE) (by decide) ?_
        refine r_iconst (v := (1 : Int32)) gX12_goEve_84.2.2.2.2.2.2.2.2.2.2.2.2.1 rfl ?_
        refine r_iadd gX12_goEve_84.2.2.2.2.2.2.2.2.2.2.2.2.2.1 ?_
        refine r_putI gX12_goEve_84.2.2.2.2.2.2.2.2.2.2.2.2.2.2.1 (ff_12_266_60 hE) ?_
        refine r_nmS fun q13 _ => ?_
        exact r_sub (L' := [(0, .ref 60), (1, .int l1), (3, .int l3), (4, .int l4)]) (sub_c rfl (sub_c rfl (sub_c rfl (sub_c rfl sub_n)))) (rb_X12_goEve_113 hE hrec_24 q13 l1 l3 l4)
def f_X12_goEve (q : SS) (a1 : Int32) (a2 : Int32) : Option SS :=
  (f_X12_layNow q).bind fun r1 =>
  nm (sI r1 60 33 (0 : Int32)) fun q2 =>
  nm (sI q2 60 34 (0 : Int32)) fun q3 =>
  (f_X12_longOf q3 a1 a2).bind fun r4 =>
  b_X12_goEve_24 q3 a1 r4 (0 : Int32)
theorem e_X12_goEve {E : EE} (hE : GE E) (q : SS) (a1 : Int32) (a2 : Int32) : R E (κV E) 4 237 0 [(0, .ref 60), (1, .int a1), (2, .int a2)] [] q (f_X12_goEve q a1 a2) := by
  unfold f_X12_goEve
  refine r_aload_n (x := 60) gX12_goEve_0.1 rfl ?_
  refine r_callV (k := 0) (idx := 168) (y := 226) (as := [.ref 60]) (rest := []) (L0 := [(0, .ref 60)]) gX12_goEve_0.2.1 rfl rfl rfl rfl rfl (vok_v (ob_60 hE) rfl) rfl (r_dep (by decide) (e_X12_layNow hE q)) (fun r1 => ?_)
  refine r_aload_n (x := 60) gX12_goEve_0.2.2.1 rfl ?_
  refine r_iconst (v := (0 : Int32)) gX12_goEve_0.2.2.2.1 rfl ?_
  refine r_putI gX12_goEve_0.2.2.2.2.1 (ff_12_266_60 hE) ?_
  refine r_nmS fun q2 _ => ?_
  refine r_aload_n (x := 60) gX12_goEve_0.2.2.2.2.2.1 rfl ?_
  refine r_iconst (v := (0 : Int32)) gX12_goEve_0.2.2.2.2.2.2.1 rfl ?_
  refine r_putI gX12_goEve_0.2.2.2.2.2.2.2.1 (ff_12_269_60 hE) ?_
  refine r_nmS fun q3 _ => ?_
  refine r_aload_n (x := 60) gX12_goEve_0.2.2.2.2.2.2.2.2.1 rfl ?_
  refine r_iload_n (x := a1) gX12_goEve_0.2.2.2.2.2.2.2.2.2.1 rfl ?_
  refine r_iload_n (x := a2) gX12_goEve_0.2.2.2.2.2.2.2.2.2.2.1 rfl ?_
  refine r_calli (k := 0) (idx := 272) (y := 236) (as := [.ref 60, .int a1, .int a2]) (rest := []) (L0 := [(0, .ref 60), (1, .int a1), (2, .int a2)]) gX12_goEve_0.2.2.2.2.2.2.2.2.2.2.2.1 rfl rfl rfl rfl rfl (vok_v (ob_60 hE) rfl) rfl (r_dep (by decide) (e_X12_longOf hE q3 a1 a2)) (fun r4 => ?_)
  refine r_istore_n (L2 := [(0, .ref 60), (1, .int a1), (2, .int a2), (3, .int r4)]) gX12_goEve_0.2.2.2.2.2.2.2.2.2.2.2.2.1 rfl rfl ?_
  refine r_iconst (v := (0 : Int32)) gX12_goEve_0.2.2.2.2.2.2.2.2.2.2.2.2.2.1 rfl ?_
  refine r_istore (L2 := [(0, .ref 60), (1, .int a1), (2, .int a2), (3, .int r4), (4, .int (0 : Int32))]) gX12_goEve_0.2.2.2.2.2.2.2.2.2.2.2.2.2.2.1 rfl rfl ?_
  exact r_sub (L' := [(0, .ref 60), (1, .int a1), (3, .int r4), (4, .int (0 : Int32))]) (sub_c rfl (sub_c rfl (sub_c rfl (sub_c rfl sub_n)))) (rb_X12_goEve_24 hE q3 a1 r4 (0 : Int32))
def f_X12_eve (q : SS) (a1 : Int32) (a2 : Int32) (a3 : Int32) : Option (Int32 × SS) :=
  (f_X12_isShelf q a1).bind fun r1 =>
  if r1 = 0 then
  (some ((-1 : Int32), q))
  else
  ((f_X12_areMany q a2).bind fun r2 =>
  if r2 = 0 then
  (some ((-1 : Int32), q))
  else
  ((f_X12_in q a3 (-2 : Int32) ((q.1 60 1) - (1 : Int32))).bind fun r3 =>
  if r3 = 0 then
  (some ((-1 : Int32), q))
  else
  ((f_X12_rowFault q a1).bind fun r4 =>
  if 0 ≤ r4 then
  ((f_X12_goEve q a1 a2).bind fun r5 =>
  if a3 = (-1 : Int32) then
  (some ((r5.1 60 33), r5))
  else
  (if a3 = (-2 : Int32) then
  (some ((r5.1 60 34), r5))
  else
  ((f_X12_realOf r5 a3).bind fun r6 =>
  some (r6, r5))))
  else
  ((f_X12_rowFault q a1).bind fun r9 =>
  some (r9, q)))))
theorem e_X12_eve {E : EE} (hE : GE E) (q : SS) (a1 : Int32) (a2 : Int32) (a3 : Int32) : R E (κI E) 5 240 0 [(0, .ref 60), (1, .int a1), (2, .int a2), (3, .int a3)] [] q (f_X12_eve q a1 a2 a3) := by
  unfold f_X12_eve
  refine r_iload_n (x := a1) gX12_eve_0.1 rfl ?_
  refine r_calli (k := 2) (idx := 137) (y := 288) (as := [.int a1]) (rest := []) (L0 := [(0, .int a1)]) gX12_eve_0.2.1 rfl rfl rfl rfl rfl vok_s rfl (r_dep (by decide) (e_X12_isShelf hE q a1)) (fun r1 => ?_)
  refine r_if_eq (t := 29) gX12_eve_0.2.2.1 rfl (fun h13 => ?_) (fun h13 => ?_)
  · refine r_iconst (v := (-1 : Int32)) gX12_eve_0.2.2.2.2.2.2.2.2.2.2.2.2.2.2.1 rfl ?_
    exact r_ireturn gX12_eve_0.2.2.2.2.2.2.2.2.2.2.2.2.2.2.2.1 rfl rfl
  · refine r_iload_n (x := a2) gX12_eve_0.2.2.2.1 rfl ?_
    refine r_calli (k := 2) (idx := 275) (y := 238) (as := [.int a2]) (rest := []) (L0 := [(0, .int a2)]) gX12_eve_0.2.2.2.2.1 rfl rfl rfl rfl rfl vok_s rfl (r_dep (by decide) (e_X12_areMany hE q a2)) (fun r2 => ?_)
    refine r_if_eq (t := 29) gX12_eve_0.2.2.2.2.2.1 rfl (fun h12 => ?_) (fun h12 => ?_)
    · refine r_iconst (v := (-1 : Int32)) gX12_eve_0.2.2.2.2.2.2.2.2.2.2.2.2.2.2.1 rfl ?_
      exact r_ireturn gX12_eve_0.2.2.2.2.2.2.2.2.2.2.2.2.2.2.2.1 rfl rfl
    · refine r_iload_n (x := a3) gX12_eve_0.2.2.2.2.2.2.1 rfl ?_
      refine r_bipush (v := (-2 : Int32)) gX12_eve_0.2.2.2.2.2.2.2.1 rfl ?_
      refine r_aload_n (x := 60) gX12_eve_0.2.2.2.2.2.2.2.2.1 rfl ?_
      refine r_getI gX12_eve_0.2.2.2.2.2.2.2.2.2.1 (ff_12_115_60 hE) (by decide) ?_
      refine r_iconst (v := (1 : Int32)) gX12_eve_0.2.2.2.2.2.2.2.2.2.2.1 rfl ?_
      refine r_isub gX12_eve_0.2.2.2.2.2.2.2.2.2.2.2.1 ?_
      refine r_calli (k := 2) (idx := 118) (y := 189) (as := [.int a3, .int (-2 : Int32), .int ((q.1 60 1) - (1 : Int32))]) (rest := []) (L0 := [(0, .int a3), (1, .int (-2 : Int32)), (2, .int ((q.1 60 1) - (1 : Int32)))]) gX12_eve_0.2.2.2.2.2.2.2.2.2.2.2.2.1 rfl rfl rfl rfl rfl vok_s rfl (r_dep (by decide) (e_X12_in hE q a3 (-2 : Int32) ((q.1 60 1) - (1 : Int32)))) (fun r3 => ?_)
      refine r_if_ne (t := 31) gX12_eve_0.2.2.2.2.2.2.2.2.2.2.2.2.2.1 rfl (fun h11 => ?_) (fun h11 => ?_)
      · refine r_iconst (v := (-1 : Int32)) gX12_eve_0.2.2.2.2.2.2.2.2.2.2.2.2.2.2.1 rfl ?_
        exact r_ireturn gX12_eve_0.2.2.2.2.2.2.2.2.2.2.2.2.2.2.2.1 rfl rfl
      · refine r_aload_n (x := 60) gX12_eve_31.1 rfl ?_
        refine r_iload_n (x := a1) gX12_eve_31.2.1 rfl ?_
        refine r_calli (k := 0) (idx := 278) (y := 234) (as := [.ref 60, .int a1]) (rest := []) (L0 := [(0, .ref 60), (1, .int a1)]) gX12_eve_31.2.2.1 rfl rfl rfl rfl rfl (vok_v (ob_60 hE) rfl) rfl (r_dep (by decide) (e_X12_rowFault hE q a1)) (fun r4 => ?_)
        refine r_if_ge (t := 45) gX12_eve_31.2.2.2.1 rfl (fun h10 => ?_) (fun h10 => ?_)
        · refine r_aload_n (x := 60) gX12_eve_31.2.2.2.2.2.2.2.2.1 rfl ?_
          refine r_iload_n (x := a1) gX12_eve_31.2.2.2.2.2.2.2.2.2.1 rfl ?_
          refine r_iload_n (x := a2) gX12_eve_31.2.2.2.2.2.2.2.2.2.2.1 rfl ?_
          refine r_callV (k := 0) (idx := 281) (y := 237) (as := [.ref 60, .int a1, .int a2]) (rest := []) (L0 := [(0, .ref 60), (1, .int a1), (2, .int a2)]) gX12_eve_31.2.2.2.2.2.2.2.2.2.2.2.1 rfl rfl rfl rfl rfl (vok_v (ob_60 hE) rfl) rfl (r_dep (by decide) (e_X12_goEve hE q a1 a2)) (fun r5 => ?_)
          refine r_iload_n (x := a3) gX12_eve_31.2.2.2.2.2.2.2.2.2.2.2.2.1 rfl ?_
          refine r_iconst (v := (-1 : Int32)) gX12_eve_31.2.2.2.2.2.2.2.2.2.2.2.2.2.1 rfl ?_
          refine r_icmp_ne (t := 63) gX12_eve_31.2.2.2.2.2.2.2.2.2.2.2.2.2.2.1 rfl (fun h8 => ?_) (fun h8 => ?_)
          · refine r_aload_n (x := 60) gX12_eve_31.2.2.2.2.2.2.2.2.2.2.2.2.2.2.2.1 rfl ?_
            refine r_getI gX12_eve_57.1 (ff_12_266_60 hE) (by decide) ?_
            refine r_goto (t := 81) gX12_eve_57.2.1 rfl ?_
            exact r_ireturn gX12_eve_57.2.2.2.2.2.2.2.2.2.2.2.1 rfl rfl
          · refine r_iload_n (x := a3) gX12_eve_57.2.2.1 rfl ?_
            refine r_bipush (v := (-2 : Int32)) gX12_eve_57.2.2.2.1 rfl ?_
            refine r_icmp_ne (t := 76) gX12_eve_57.2.2.2.2.1 rfl (fun h7 => ?_) (fun h7 => ?_)
            · refine r_aload_n (x := 60) gX12_eve_57.2.2.2.2.2.1 rfl ?_
              refine r_getI gX12_eve_57.2.2.2.2.2.2.1 (ff_12_269_60 hE) (by decide) ?_
              refine r_goto (t := 81) gX12_eve_57.2.2.2.2.2.2.2.1 rfl ?_
              exact r_ireturn gX12_eve_57.2.2.2.2.2.2.2.2.2.2.2.1 rfl rfl
            · refine r_aload_n (x := 60) gX12_eve_57.2.2.2.2.2.2.2.2.1 rfl ?_
              refine r_iload_n (x := a3) gX12_eve_57.2.2.2.2.2.2.2.2.2.1 rfl ?_
              refine r_calli (k := 0) (idx := 175) (y := 228) (as := [.ref 60, .int a3]) (rest := []) (L0 := [(0, .ref 60), (1, .int a3)]) gX12_eve_57.2.2.2.2.2.2.2.2.2.2.1 rfl rfl rfl rfl rfl (vok_v (ob_60 hE) rfl) rfl (r_dep (by decide) (e_X12_realOf hE r5 a3)) (fun r6 => ?_)
              exact r_ireturn gX12_eve_57.2.2.2.2.2.2.2.2.2.2.2.1 rfl rfl
        · refine r_aload_n (x := 60) gX12_eve_31.2.2.2.2.1 rfl ?_
          refine r_iload_n (x := a1) gX12_eve_31.2.2.2.2.2.1 rfl ?_
          refine r_calli (k := 0) (idx := 278) (y := 234) (as := [.ref 60, .int a1]) (rest := []) (L0 := [(0, .ref 60), (1, .int a1)]) gX12_eve_31.2.2.2.2.2.2.1 rfl rfl rfl rfl rfl (vok_v (ob_60 hE) rfl) rfl (r_dep (by decide) (e_X12_rowFault hE q a1)) (fun r9 => ?_)
          exact r_ireturn gX12_eve_31.2.2.2.2.2.2.2.1 rfl rfl
def f_X11_later (q : SS) (a1 : Int32) (a2 : Int32) (a3 : Int32) : Option (Int32 × SS) :=
  (f_X7_isShelf q a1).bind fun r1 =>
  if r1 = 0 then
  (some ((-1 : Int32), q))
  else
  (if a2 < 0 then
  (some ((-1 : Int32), q))
  else
  (if (12 : Int32) < a2 then
  (some ((-1 : Int32), q))
  else
  ((f_X10_isTicket q a3).bind fun r2 =>
  if r2 = 0 then
  (some ((-1 : Int32), q))
  else
  ((f_X7_refusalOfBytes q a1).bind fun r3 =>
  if r3 = 0 then
  ((f_X2_begin q a1).bind fun r4 =>
  (f_X2_goByWell r4 a2).bind fun r5 =>
  (f_X8_holderOf r5 a3).bind fun r6 =>
  some (r6, r5))
  else
  (some (r3, q))))))
theorem e_X11_later {E : EE} (hE : GE E) (q : SS) (a1 : Int32) (a2 : Int32) (a3 : Int32) : R E (κI E) 6 149 0 [(0, .ref 0), (1, .int a1), (2, .int a2), (3, .int a3)] [] q (f_X11_later q a1 a2 a3) := by
  unfold f_X11_later
  refine r_aload_n (x := 0) gX11_later_0.1 rfl ?_
  refine r_getA gX11_later_0.2.1 (fa_11_42_0 hE) ?_
  refine r_iload_n (x := a1) gX11_later_0.2.2.1 rfl ?_
  refine r_calli (k := 0) (idx := 106) (y := 79) (as := [.ref 26, .int a1]) (rest := []) (L0 := [(0, .ref 26), (1, .int a1)]) gX11_later_0.2.2.2.1 rfl rfl rfl rfl rfl (vok_v (ob_26 hE) rfl) rfl (r_dep (by decide) (e_X7_isShelf hE q a1)) (fun r1 => ?_)
  refine r_if_eq (t := 32) gX11_later_0.2.2.2.2.1 rfl (fun h11 => ?_) (fun h11 => ?_)
  · refine r_iconst (v := (-1 : Int32)) gX11_later_0.2.2.2.2.2.2.2.2.2.2.2.2.2.2.2.1 rfl ?_
    exact r_ireturn gX11_later_33.1 rfl rfl
  · refine r_iload_n (x := a2) gX11_later_0.2.2.2.2.2.1 rfl ?_
    refine r_if_lt (t := 32) gX11_later_0.2.2.2.2.2.2.1 rfl (fun h10 => ?_) (fun h10 => ?_)
    · refine r_iconst (v := (-1 : Int32)) gX11_later_0.2.2.2.2.2.2.2.2.2.2.2.2.2.2.2.1 rfl ?_
      exact r_ireturn gX11_later_33.1 rfl rfl
    · refine r_iload_n (x := a2) gX11_later_0.2.2.2.2.2.2.2.1 rfl ?_
      refine r_bipush (v := (12 : Int32)) gX11_later_0.2.2.2.2.2.2.2.2.1 rfl ?_
      refine r_icmp_gt (t := 32) gX11_later_0.2.2.2.2.2.2.2.2.2.1 rfl (fun h9 => ?_) (fun h9 => ?_)
      · refine r_iconst (v := (-1 : Int32)) gX11_later_0.2.2.2.2.2.2.2.2.2.2.2.2.2.2.2.1 rfl ?_
        exact r_ireturn gX11_later_33.1 rfl rfl
      · refine r_aload_n (x := 0) gX11_later_0.2.2.2.2.2.2.2.2.2.2.1 rfl ?_
        refine r_getA gX11_later_0.2.2.2.2.2.2.2.2.2.2.2.1 (fa_11_10_0 hE) ?_
        refine r_iload_n (x := a3) gX11_later_0.2.2.2.2.2.2.2.2.2.2.2.2.1 rfl ?_
        refine r_calli (k := 0) (idx := 180) (y := 129) (as := [.ref 1, .int a3]) (rest := []) (L0 := [(0, .ref 1), (1, .int a3)]) gX11_later_0.2.2.2.2.2.2.2.2.2.2.2.2.2.1 rfl rfl rfl rfl rfl (vok_v (ob_1 hE) rfl) rfl (r_dep (by decide) (e_X10_isTicket hE q a3)) (fun r2 => ?_)
        refine r_if_ne (t := 34) gX11_later_0.2.2.2.2.2.2.2.2.2.2.2.2.2.2.1 rfl (fun h8 => ?_) (fun h8 => ?_)
        · refine r_iconst (v := (-1 : Int32)) gX11_later_0.2.2.2.2.2.2.2.2.2.2.2.2.2.2.2.1 rfl ?_
          exact r_ireturn gX11_later_33.1 rfl rfl
        · refine r_aload_n (x := 0) gX11_later_33.2.1 rfl ?_
          refine r_getA gX11_later_33.2.2.1 (fa_11_42_0 hE) ?_
          refine r_iload_n (x := a1) gX11_later_33.2.2.2.1 rfl ?_
          refine r_calli (k := 0) (idx := 110) (y := 85) (as := [.ref 26, .int a1]) (rest := []) (L0 := [(0, .ref 26), (1, .int a1)]) gX11_later_33.2.2.2.2.1 rfl rfl rfl rfl rfl (vok_v (ob_26 hE) rfl) rfl (r_dep (by decide) (e_X7_refusalOfBytes hE q a1)) (fun r3 => ?_)
          refine r_istore (L2 := [(0, .ref 0), (1, .int a1), (2, .int a2), (3, .int a3), (4, .int r3)]) gX11_later_33.2.2.2.2.2.1 rfl rfl ?_
          refine r_iload (x := r3) gX11_later_33.2.2.2.2.2.2.1 rfl ?_
          refine r_if_eq (t := 52) gX11_later_33.2.2.2.2.2.2.2.1 rfl (fun h7 => ?_) (fun h7 => ?_)
          · refine r_aload_n (x := 0) gX11_later_33.2.2.2.2.2.2.2.2.2.2.1 rfl ?_
            refine r_getA gX11_later_33.2.2.2.2.2.2.2.2.2.2.2.1 (fa_11_51_0 hE) ?_
            refine r_aload_n (x := 0) gX11_later_33.2.2.2.2.2.2.2.2.2.2.2.2.1 rfl ?_
            refine r_getA gX11_later_33.2.2.2.2.2.2.2.2.2.2.2.2.2.1 (fa_11_42_0 hE) ?_
            refine r_iload_n (x := a1) gX11_later_33.2.2.2.2.2.2.2.2.2.2.2.2.2.2.1 rfl ?_
            refine r_callV (k := 0) (idx := 183) (y := 14) (as := [.ref 37, .ref 26, .int a1]) (rest := []) (L0 := [(0, .ref 37), (1, .ref 26), (2, .int a1)]) gX11_later_33.2.2.2.2.2.2.2.2.2.2.2.2.2.2.2.1 rfl rfl rfl rfl rfl (vok_v (ob_37 hE) rfl) rfl (r_dep (by decide) (e_X2_begin hE q a1)) (fun r4 => ?_)
            refine r_aload_n (x := 0) gX11_later_64.1 rfl ?_
            refine r_getA gX11_later_64.2.1 (fa_11_51_0 hE) ?_
            refine r_iload_n (x := a2) gX11_later_64.2.2.1 rfl ?_
            refine r_callV (k := 0) (idx := 186) (y := 22) (as := [.ref 37, .int a2]) (rest := []) (L0 := [(0, .ref 37), (1, .int a2)]) gX11_later_64.2.2.2.1 rfl rfl rfl rfl rfl (vok_v (ob_37 hE) rfl) rfl (r_dep (by decide) (e_X2_goByWell hE r4 a2)) (fun r5 => ?_)
            refine r_aload_n (x := 0) gX11_later_64.2.2.2.2.1 rfl ?_
            refine r_getA gX11_later_64.2.2.2.2.2.1 (fa_11_35_0 hE) ?_
            refine r_iload_n (x := a3) gX11_later_64.2.2.2.2.2.2.1 rfl ?_
            refine r_calli (k := 0) (idx := 190) (y := 98) (as := [.ref 24, .int a3]) (rest := []) (L0 := [(0, .ref 24), (1, .int a3)]) gX11_later_64.2.2.2.2.2.2.2.1 rfl rfl rfl rfl rfl (vok_v (ob_24 hE) rfl) rfl (r_dep (by decide) (e_X8_holderOf hE r5 a3)) (fun r6 => ?_)
            exact r_ireturn gX11_later_64.2.2.2.2.2.2.2.2.1 rfl rfl
          · refine r_iload (x := r3) gX11_later_33.2.2.2.2.2.2.2.2.1 rfl ?_
            exact r_ireturn gX11_later_33.2.2.2.2.2.2.2.2.2.1 rfl rfl
def f_X12_later (q : SS) (a1 : Int32) (a2 : Int32) (a3 : Int32) : Option (Int32 × SS) :=
  (f_X12_isShelf q a1).bind fun r1 =>
  if r1 = 0 then
  (some ((-1 : Int32), q))
  else
  ((f_X12_areMany q a2).bind fun r2 =>
  if r2 = 0 then
  (some ((-1 : Int32), q))
  else
  ((f_X12_isTicket q a3).bind fun r3 =>
  if r3 = 0 then
  (some ((-1 : Int32), q))
  else
  ((f_X12_rowFault q a1).bind fun r4 =>
  if 0 ≤ r4 then
  ((f_X12_goEve q a1 a2).bind fun r5 =>
  if vin a3 12 then
  some ((r5.1 81 a3.toNatClampNeg), r5)
  else none)
  else
  ((f_X12_rowFault q a1).bind fun r6 =>
  some (r6, q)))))
theorem e_X12_later {E : EE} (hE : GE E) (q : SS) (a1 : Int32) (a2 : Int32) (a3 : Int32) : R E (κI E) 5 239 0 [(0, .ref 60), (1, .int a1), (2, .int a2), (3, .int a3)] [] q (f_X12_later q a1 a2 a3) := by
  unfold f_X12_later
  refine r_iload_n (x := a1) gX12_later_0.1 rfl ?_
  refine r_calli (k := 2) (idx := 137) (y := 288) (as := [.int a1]) (rest := []) (L0 := [(0, .int a1)]) gX12_later_0.2.1 rfl rfl rfl rfl rfl vok_s rfl (r_dep (by decide) (e_X12_isShelf hE q a1)) (fun r1 => ?_)
  refine r_if_eq (t := 22) gX12_later_0.2.2.1 rfl (fun h10 => ?_) (fun h10 => ?_)
  · refine r_iconst (v := (-1 : Int32)) gX12_later_0.2.2.2.2.2.2.2.2.2.2.1 rfl ?_
    exact r_ireturn gX12_later_0.2.2.2.2.2.2.2.2.2.2.2.1 rfl rfl
  · refine r_iload_n (x := a2) gX12_later_0.2.2.2.1 rfl ?_
    refine r_calli (k := 2) (idx := 275) (y := 238) (as := [.int a2]) (rest := []) (L0 := [(0, .int a2)]) gX12_later_0.2.2.2.2.1 rfl rfl rfl rfl rfl vok_s rfl (r_dep (by decide) (e_X12_areMany hE q a2)) (fun r2 => ?_)
    refine r_if_eq (t := 22) gX12_later_0.2.2.2.2.2.1 rfl (fun h9 => ?_) (fun h9 => ?_)
    · refine r_iconst (v := (-1 : Int32)) gX12_later_0.2.2.2.2.2.2.2.2.2.2.1 rfl ?_
      exact r_ireturn gX12_later_0.2.2.2.2.2.2.2.2.2.2.2.1 rfl rfl
    · refine r_aload_n (x := 60) gX12_later_0.2.2.2.2.2.2.1 rfl ?_
      refine r_iload_n (x := a3) gX12_later_0.2.2.2.2.2.2.2.1 rfl ?_
      refine r_calli (k := 0) (idx := 156) (y := 192) (as := [.ref 60, .int a3]) (rest := []) (L0 := [(0, .ref 60), (1, .int a3)]) gX12_later_0.2.2.2.2.2.2.2.2.1 rfl rfl rfl rfl rfl (vok_v (ob_60 hE) rfl) rfl (r_dep (by decide) (e_X12_isTicket hE q a3)) (fun r3 => ?_)
      refine r_if_ne (t := 24) gX12_later_0.2.2.2.2.2.2.2.2.2.1 rfl (fun h8 => ?_) (fun h8 => ?_)
      · refine r_iconst (v := (-1 : Int32)) gX12_later_0.2.2.2.2.2.2.2.2.2.2.1 rfl ?_
        exact r_ireturn gX12_later_0.2.2.2.2.2.2.2.2.2.2.2.1 rfl rfl
      · refine r_aload_n (x := 60) gX12_later_0.2.2.2.2.2.2.2.2.2.2.2.2.1 rfl ?_
        refine r_iload_n (x := a1) gX12_later_0.2.2.2.2.2.2.2.2.2.2.2.2.2.1 rfl ?_
        refine r_calli (k := 0) (idx := 278) (y := 234) (as := [.ref 60, .int a1]) (rest := []) (L0 := [(0, .ref 60), (1, .int a1)]) gX12_later_0.2.2.2.2.2.2.2.2.2.2.2.2.2.2.1 rfl rfl rfl rfl rfl (vok_v (ob_60 hE) rfl) rfl (r_dep (by decide) (e_X12_rowFault hE q a1)) (fun r4 => ?_)
        refine r_if_ge (t := 38) gX12_later_0.2.2.2.2.2.2.2.2.2.2.2.2.2.2.2.1 rfl (fun h7 => ?_) (fun h7 => ?_)
        · refine r_aload_n (x := 60) gX12_later_32.2.2.2.2.1 rfl ?_
          refine r_iload_n (x := a1) gX12_later_32.2.2.2.2.2.1 rfl ?_
          refine r_iload_n (x := a2) gX12_later_32.2.2.2.2.2.2.1 rfl ?_
          refine r_callV (k := 0) (idx := 281) (y := 237) (as := [.ref 60, .int a1, .int a2]) (rest := []) (L0 := [(0, .ref 60), (1, .int a1), (2, .int a2)]) gX12_later_32.2.2.2.2.2.2.2.1 rfl rfl rfl rfl rfl (vok_v (ob_60 hE) rfl) rfl (r_dep (by decide) (e_X12_goEve hE q a1 a2)) (fun r5 => ?_)
          refine r_aload_n (x := 60) gX12_later_32.2.2.2.2.2.2.2.2.1 rfl ?_
          refine r_getA gX12_later_32.2.2.2.2.2.2.2.2.2.1 (fa_12_74_60 hE) ?_
          refine r_iload_n (x := a3) gX12_later_32.2.2.2.2.2.2.2.2.2.2.1 rfl ?_
          refine r_iaload gX12_later_32.2.2.2.2.2.2.2.2.2.2.2.1 (ar_81 hE) ?_
          exact r_ireturn gX12_later_32.2.2.2.2.2.2.2.2.2.2.2.2.1 rfl rfl
        · refine r_aload_n (x := 60) gX12_later_32.1 rfl ?_
          refine r_iload_n (x := a1) gX12_later_32.2.1 rfl ?_
          refine r_calli (k := 0) (idx := 278) (y := 234) (as := [.ref 60, .int a1]) (rest := []) (L0 := [(0, .ref 60), (1, .int a1)]) gX12_later_32.2.2.1 rfl rfl rfl rfl rfl (vok_v (ob_60 hE) rfl) rfl (r_dep (by decide) (e_X12_rowFault hE q a1)) (fun r6 => ?_)
          exact r_ireturn gX12_later_32.2.2.2.1 rfl rfl

def f_X12_rowFault (q : SS) (a1 : Int32) : Option Int32 :=
  if vin a1 6 then
  if (q.1 89 a1.toNatClampNeg) = (-1 : Int32) then
  (some (-11 : Int32))
  else
  (if vin a1 6 then
  if (q.1 89 a1.toNatClampNeg) = (-2 : Int32) then
  (some (0 : Int32))
  else
  (some (-12 : Int32))
  else none)
  else none
theorem e_X12_rowFault {E : EE} (hE : GE E) (q : SS) (a1 : Int32) : R E (κi E q) 0 234 0 [(0, .ref 60), (1, .int a1)] [] q (f_X12_rowFault q a1) := by
  unfold f_X12_rowFault
  refine r_aload_n (x := 60) dX12_rowFault_0 rfl ?_
  refine r_getA dX12_rowFault_1 (fa_12_98_60 hE) ?_
  refine r_iload_n (x := a1) dX12_rowFault_4 rfl ?_
  refine r_iaload dX12_rowFault_5 (ar_89 hE) ?_
  refine r_iconst (v := (-1 : Int32)) dX12_rowFault_6 rfl ?_
  refine r_icmp_ne (t := 15) dX12_rowFault_7 rfl (fun h2 => ?_) (fun h2 => ?_)
  · refine r_bipush (v := (-11 : Int32)) dX12_rowFault_10 rfl ?_
    refine r_goto (t := 32) dX12_rowFault_12 rfl ?_
    exact r_ireturn dX12_rowFault_32 rfl rfl
  · refine r_aload_n (x := 60) dX12_rowFault_15 rfl ?_
    refine r_getA dX12_rowFault_16 (fa_12_98_60 hE) ?_
    refine r_iload_n (x := a1) dX12_rowFault_19 rfl ?_
    refine r_iaload dX12_rowFault_20 (ar_89 hE) ?_
    refine r_bipush (v := (-2 : Int32)) dX12_rowFault_21 rfl ?_
    refine r_icmp_ne (t := 30) dX12_rowFault_23 rfl (fun h1 => ?_) (fun h1 => ?_)
    · refine r_iconst (v := (0 : Int32)) dX12_rowFault_26 rfl ?_
      refine r_goto (t := 32) dX12_rowFault_27 rfl ?_
      exact r_ireturn dX12_rowFault_32 rfl rfl
    · refine r_bipush (v := (-12 : Int32)) dX12_rowFault_30 rfl ?_
      exact r_ireturn dX12_rowFault_32 rfl rfl
def f_X12_at (q : SS) (a1 : Int32) (a2 : Int32) : Option Int32 :=
  if vin (((60 : Int32) * a1) + a2) 360 then
  some ((q.2 91 (((60 : Int32) * a1) + a2).toNatClampNeg).toInt32)
  else none
theorem e_X12_at {E : EE} (hE : GE E) (q : SS) (a1 : Int32) (a2 : Int32) : R E (κi E q) 0 235 0 [(0, .ref 60), (1, .int a1), (2, .int a2)] [] q (f_X12_at q a1 a2) := by
  unfold f_X12_at
  refine r_aload_n (x := 60) dX12_at_0 rfl ?_
  refine r_getA dX12_at_1 (fa_12_104_60 hE) ?_
  refine r_bipush (v := (60 : Int32)) dX12_at_4 rfl ?_
  refine r_iload_n (x := a1) dX12_at_6 rfl ?_
  refine r_imul dX12_at_7 ?_
  refine r_iload_n (x := a2) dX12_at_8 rfl ?_
  refine r_iadd dX12_at_9 ?_
  refine r_laload dX12_at_10 (ar_91 hE) ?_
  refine r_l2i dX12_at_11 ?_
  exact r_ireturn dX12_at_12 rfl rfl
def b_X12_longOf_2 (q : SS) : Int32 → Int32 → Int32 → Option Int32 :=
  fx3 (fun (rec_2 : Int32 → Int32 → Int32 → Option Int32) (l1 : Int32) (l2 : Int32) (l3 : Int32) =>
  if l2 ≤ l3 then
  (some l3)
  else
  (if vin l1 6 then
  if (q.1 90 l1.toNatClampNeg) ≤ l3 then
  (some l3)
  else
  ((f_X12_at q l1 l3).bind fun r1 =>
  (f_X12_areSlip q r1).bind fun r2 =>
  if r2 = 0 then
  (some l3)
  else
  (rec_2 l1 l2 (l3 + (1 : Int32))))
  else none)) FU
theorem rb_X12_longOf_2 {E : EE} (hE : GE E) (q : SS) (l1 : Int32) (l2 : Int32) (l3 : Int32) : R E (κi E q) 3 236 2 [(0, .ref 60), (1, .int l1), (2, .int l2), (3, .int l3)] [] q (b_X12_longOf_2 q l1 l2 l3) := by
  unfold b_X12_longOf_2
  refine fx3_ok (P := fun l1 l2 l3 o => R E (κi E q) 3 236 2 [(0, .ref 60), (1, .int l1), (2, .int l2), (3, .int l3)] [] q o) (fun _ _ _ => r_no) (fun rec_2 hrec_2 l1 l2 l3 => ?_) _ _ _ _
  refine r_iload_n (x := l3) dX12_longOf_2 rfl ?_
  refine r_iload_n (x := l2) dX12_longOf_3 rfl ?_
  refine r_icmp_ge (t := 36) dX12_longOf_4 rfl (fun h5 => ?_) (fun h5 => ?_)
  · refine r_iload_n (x := l3) dX12_longOf_36 rfl ?_
    exact r_ireturn dX12_longOf_37 rfl rfl
  · refine r_iload_n (x := l3) dX12_longOf_7 rfl ?_
    refine r_aload_n (x := 60) dX12_longOf_8 rfl ?_
    refine r_getA dX12_longOf_9 (fa_12_101_60 hE) ?_
    refine r_iload_n (x := l1) dX12_longOf_12 rfl ?_
    refine r_iaload dX12_longOf_13 (ar_90 hE) ?_
    refine r_icmp_ge (t := 36) dX12_longOf_14 rfl (fun h4 => ?_) (fun h4 => ?_)
    · refine r_iload_n (x := l3) dX12_longOf_36 rfl ?_
      exact r_ireturn dX12_longOf_37 rfl rfl
    · refine r_aload_n (x := 60) dX12_longOf_17 rfl ?_
      refine r_aload_n (x := 60) dX12_longOf_18 rfl ?_
      refine r_iload_n (x := l1) dX12_longOf_19 rfl ?_
      refine r_iload_n (x := l3) dX12_longOf_20 rfl ?_
      refine r_calli (k := 0) (idx := 263) (y := 235) (as := [.ref 60, .int l1, .int l3]) (rest := [.ref 60]) (L0 := [(0, .ref 60), (1, .int l1), (2, .int l3)]) dX12_longOf_21 rfl rfl rfl rfl rfl (vok_v (ob_60 hE) rfl) rfl (r_dep (by decide) (e_X12_at hE q l1 l3)) (fun r1 => ?_)
      refine r_calli (k := 0) (idx := 257) (y := 232) (as := [.ref 60, .int r1]) (rest := []) (L0 := [(0, .ref 60), (1, .int r1)]) dX12_longOf_24 rfl rfl rfl rfl rfl (vok_v (ob_60 hE) rfl) rfl (r_dep (by decide) (e_X12_areSlip hE q r1)) (fun r2 => ?_)
      refine r_if_eq (t := 36) dX12_longOf_27 rfl (fun h3 => ?_) (fun h3 => ?_)
      · refine r_iload_n (x := l3) dX12_longOf_36 rfl ?_
        exact r_ireturn dX12_longOf_37 rfl rfl
      · refine r_iinc (x := l3) (v := (l3 + (1 : Int32))) (L2 := [(0, .ref 60), (1, .int l1), (2, .int l2), (3, .int (l3 + (1 : Int32)))]) dX12_longOf_30 rfl rfl rfl rfl ?_
        refine r_goto (t := 2) dX12_longOf_33 rfl ?_
        exact r_sub (L' := [(0, .ref 60), (1, .int l1), (2, .int l2), (3, .int (l3 + (1 : Int32)))]) (sub_c rfl (sub_c rfl (sub_c rfl (sub_c rfl sub_n)))) (hrec_2 l1 l2 (l3 + (1 : Int32)))
def f_X12_longOf (q : SS) (a1 : Int32) (a2 : Int32) : Option Int32 :=
  b_X12_longOf_2 q a1 a2 (0 : Int32)
theorem e_X12_longOf {E : EE} (hE : GE E) (q : SS) (a1 : Int32) (a2 : Int32) : R E (κi E q) 3 236 0 [(0, .ref 60), (1, .int a1), (2, .int a2)] [] q (f_X12_longOf q a1 a2) := by
  unfold f_X12_longOf
  refine r_iconst (v := (0 : Int32)) dX12_longOf_0 rfl ?_
  refine r_istore_n (L2 := [(0, .ref 60), (1, .int a1), (2, .int a2), (3, .int (0 : Int32))]) dX12_longOf_1 rfl rfl ?_
  exact r_sub (L' := [(0, .ref 60), (1, .int a1), (2, .int a2), (3, .int (0 : Int32))]) (sub_c rfl (sub_c rfl (sub_c rfl (sub_c rfl sub_n)))) (rb_X12_longOf_2 hE q a1 a2 (0 : Int32))
def b_X12_isAsTold_56 (rec_2 : Int32 → Option Int32) (q : SS) (l1 : Int32) : Option Int32 :=
  rec_2 (l1 + (1 : Int32))
theorem rb_X12_isAsTold_56 {E : EE} (hE : GE E) {q : SS} {rec_2 : Int32 → Option Int32} (hrec_2 : ∀ (yl1 : Int32), R E (κi E q) 1 258 2 [(0, .ref 60), (1, .int yl1)] [] q (rec_2 yl1)) (l1 : Int32) : R E (κi E q) 1 258 56 [(0, .ref 60), (1, .int l1)] [] q (b_X12_isAsTold_56 rec_2 q l1) := by
  unfold b_X12_isAsTold_56
  refine r_iinc (x := l1) (v := (l1 + (1 : Int32))) (L2 := [(0, .ref 60), (1, .int (l1 + (1 : Int32)))]) dX12_isAsTold_56 rfl rfl rfl rfl ?_
  refine r_goto (t := 2) dX12_isAsTold_59 rfl ?_
  exact r_sub (L' := [(0, .ref 60), (1, .int (l1 + (1 : Int32)))]) (sub_c rfl (sub_c rfl sub_n)) (hrec_2 (l1 + (1 : Int32)))
def b_X12_isAsTold_2 (q : SS) : Int32 → Option Int32 :=
  fx1 (fun (rec_2 : Int32 → Option Int32) (l1 : Int32) =>
  if (q.1 60 6) ≤ l1 then
  (some (1 : Int32))
  else
  (if vin (q.1 60 37) 6 then
  if (q.1 90 (q.1 60 37).toNatClampNeg) ≤ l1 then
  (some (1 : Int32))
  else
  ((f_X12_at q (q.1 60 37) l1).bind fun r1 =>
  if r1 = (-1 : Int32) then
  (b_X12_isAsTold_56 rec_2 q l1)
  else
  ((f_X12_at q (q.1 60 37) l1).bind fun r2 =>
  if vin l1 12 then
  if r2 = (q.1 81 l1.toNatClampNeg) then
  (b_X12_isAsTold_56 rec_2 q l1)
  else
  (some (0 : Int32))
  else none))
  else none)) FU
theorem rb_X12_isAsTold_2 {E : EE} (hE : GE E) (q : SS) (l1 : Int32) : R E (κi E q) 1 258 2 [(0, .ref 60), (1, .int l1)] [] q (b_X12_isAsTold_2 q l1) := by
  unfold b_X12_isAsTold_2
  refine fx1_ok (P := fun l1 o => R E (κi E q) 1 258 2 [(0, .ref 60), (1, .int l1)] [] q o) (fun _ => r_no) (fun rec_2 hrec_2 l1 => ?_) _ _
  refine r_iload_n (x := l1) dX12_isAsTold_2 rfl ?_
  refine r_aload_n (x := 60) dX12_isAsTold_3 rfl ?_
  refine r_getI dX12_isAsTold_4 (ff_12_122_60 hE) (by decide) ?_
  refine r_icmp_ge (t := 62) dX12_isAsTold_7 rfl (fun h6 => ?_) (fun h6 => ?_)
  · refine r_iconst (v := (1 : Int32)) dX12_isAsTold_62 rfl ?_
    exact r_ireturn dX12_isAsTold_63 rfl rfl
  · refine r_iload_n (x := l1) dX12_isAsTold_10 rfl ?_
    refine r_aload_n (x := 60) dX12_isAsTold_11 rfl ?_
    refine r_getA dX12_isAsTold_12 (fa_12_101_60 hE) ?_
    refine r_aload_n (x := 60) dX12_isAsTold_15 rfl ?_
    refine r_getI dX12_isAsTold_16 (ff_12_313_60 hE) (by decide) ?_
    refine r_iaload dX12_isAsTold_19 (ar_90 hE) ?_
    refine r_icmp_ge (t := 62) dX12_isAsTold_20 rfl (fun h5 => ?_) (fun h5 => ?_)
    · refine r_iconst (v := (1 : Int32)) dX12_isAsTold_62 rfl ?_
      exact r_ireturn dX12_isAsTold_63 rfl rfl
    · refine r_aload_n (x := 60) dX12_isAsTold_23 rfl ?_
      refine r_aload_n (x := 60) dX12_isAsTold_24 rfl ?_
      refine r_getI dX12_isAsTold_25 (ff_12_313_60 hE) (by decide) ?_
      refine r_iload_n (x := l1) dX12_isAsTold_28 rfl ?_
      refine r_calli (k := 0) (idx := 263) (y := 235) (as := [.ref 60, .int (q.1 60 37), .int l1]) (rest := []) (L0 := [(0, .ref 60), (1, .int (q.1 60 37)), (2, .int l1)]) dX12_isAsTold_29 rfl rfl rfl rfl rfl (vok_v (ob_60 hE) rfl) rfl (r_dep (by decide) (e_X12_at hE q (q.1 60 37) l1)) (fun r1 => ?_)
      refine r_iconst (v := (-1 : Int32)) dX12_isAsTold_32 rfl ?_
      refine r_icmp_eq (t := 56) dX12_isAsTold_33 rfl (fun h4 => ?_) (fun h4 => ?_)
      · exact r_sub (L' := [(0, .ref 60), (1, .int l1)]) (sub_c rfl (sub_c rfl sub_n)) (rb_X12_isAsTold_56 hE hrec_2 l1)
      · refine r_aload_n (x := 60) dX12_isAsTold_36 rfl ?_
        refine r_aload_n (x := 60) dX12_isAsTold_37 rfl ?_
        refine r_getI dX12_isAsTold_38 (ff_12_313_60 hE) (by decide) ?_
        refine r_iload_n (x := l1) dX12_isAsTold_41 rfl ?_
        refine r_calli (k := 0) (idx := 263) (y := 235) (as := [.ref 60, .int (q.1 60 37), .int l1]) (rest := []) (L0 := [(0, .ref 60), (1, .int (q.1 60 37)), (2, .int l1)]) dX12_isAsTold_42 rfl rfl rfl rfl rfl (vok_v (ob_60 hE) rfl) rfl (r_dep (by decide) (e_X12_at hE q (q.1 60 37) l1)) (fun r2 => ?_)
        refine r_aload_n (x := 60) dX12_isAsTold_45 rfl ?_
        refine r_getA dX12_isAsTold_46 (fa_12_74_60 hE) ?_
        refine r_iload_n (x := l1) dX12_isAsTold_49 rfl ?_
        refine r_iaload dX12_isAsTold_50 (ar_81 hE) ?_
        refine r_icmp_eq (t := 56) dX12_isAsTold_51 rfl (fun h3 => ?_) (fun h3 => ?_)
        · exact r_sub (L' := [(0, .ref 60), (1, .int l1)]) (sub_c rfl (sub_c rfl sub_n)) (rb_X12_isAsTold_56 hE hrec_2 l1)
        · refine r_iconst (v := (0 : Int32)) dX12_isAsTold_54 rfl ?_
          exact r_ireturn dX12_isAsTold_55 rfl rfl
def f_X12_isAsTold (q : SS)  : Option Int32 :=
  b_X12_isAsTold_2 q (0 : Int32)
theorem e_X12_isAsTold {E : EE} (hE : GE E) (q : SS)  : R E (κi E q) 1 258 0 [(0, .ref 60)] [] q (f_X12_isAsTold q) := by
  unfold f_X12_isAsTold
  refine r_iconst (v := (0 : Int32)) dX12_isAsTold_0 rfl ?_
  refine r_istore_n (L2 := [(0, .ref 60), (1, .int (0 : Int32))]) dX12_isAsTold_1 rfl rfl ?_
  exact r_sub (L' := [(0, .ref 60), (1, .int (0 : Int32))]) (sub_c rfl (sub_c rfl sub_n)) (rb_X12_isAsTold_2 hE q (0 : Int32))
def b_X12_bitsOf_4 (q : SS) : Int32 → Int32 → Option Int32 :=
  fx2 (fun (rec_4 : Int32 → Int32 → Option Int32) (l1 : Int32) (l2 : Int32) =>
  if l2 = 0 then
  (some l1)
  else
  (nm (l2 &&& (l2 - (1 : Int32))) fun v1 =>
  rec_4 (l1 + (1 : Int32)) v1)) FU
theorem rb_X12_bitsOf_4 {E : EE} (hE : GE E) (q : SS) (l1 : Int32) (l2 : Int32) : R E (κi E q) 0 190 4 [(1, .int l1), (2, .int l2)] [] q (b_X12_bitsOf_4 q l1 l2) := by
  unfold b_X12_bitsOf_4
  refine fx2_ok (P := fun l1 l2 o => R E (κi E q) 0 190 4 [(1, .int l1), (2, .int l2)] [] q o) (fun _ _ => r_no) (fun rec_4 hrec_4 l1 l2 => ?_) _ _ _
  refine r_iload_n (x := l2) dX12_bitsOf_4 rfl ?_
  refine r_if_eq (t := 20) dX12_bitsOf_5 rfl (fun h2 => ?_) (fun h2 => ?_)
  · refine r_iload_n (x := l1) dX12_bitsOf_20 rfl ?_
    exact r_ireturn dX12_bitsOf_21 rfl rfl
  · refine r_iinc (x := l1) (v := (l1 + (1 : Int32))) (L2 := [(1, .int (l1 + (1 : Int32))), (2, .int l2)]) dX12_bitsOf_8 rfl rfl rfl rfl ?_
    refine r_iload_n (x := l2) dX12_bitsOf_11 rfl ?_
    refine r_iload_n (x := l2) dX12_bitsOf_12 rfl ?_
    refine r_iconst (v := (1 : Int32)) dX12_bitsOf_13 rfl ?_
    refine r_isub dX12_bitsOf_14 ?_
    refine r_iand dX12_bitsOf_15 ?_
    refine r_nmI fun v1 _ => ?_
    refine r_istore_n (L2 := [(1, .int (l1 + (1 : Int32))), (2, .int v1)]) dX12_bitsOf_16 rfl rfl ?_
    refine r_goto (t := 4) dX12_bitsOf_17 rfl ?_
    exact r_sub (L' := [(1, .int (l1 + (1 : Int32))), (2, .int v1)]) (sub_c rfl (sub_c rfl sub_n)) (hrec_4 (l1 + (1 : Int32)) v1)
def f_X12_bitsOf (q : SS) (a0 : Int32) : Option Int32 :=
  b_X12_bitsOf_4 q (0 : Int32) a0
theorem e_X12_bitsOf {E : EE} (hE : GE E) (q : SS) (a0 : Int32) : R E (κi E q) 0 190 0 [(0, .int a0)] [] q (f_X12_bitsOf q a0) := by
  unfold f_X12_bitsOf
  refine r_iconst (v := (0 : Int32)) dX12_bitsOf_0 rfl ?_
  refine r_istore_n (L2 := [(0, .int a0), (1, .int (0 : Int32))]) dX12_bitsOf_1 rfl rfl ?_
  refine r_iload_n (x := a0) dX12_bitsOf_2 rfl ?_
  refine r_istore_n (L2 := [(0, .int a0), (1, .int (0 : Int32)), (2, .int a0)]) dX12_bitsOf_3 rfl rfl ?_
  exact r_sub (L' := [(1, .int (0 : Int32)), (2, .int a0)]) (sub_c rfl (sub_c rfl sub_n)) (rb_X12_bitsOf_4 hE q (0 : Int32) a0)
def b_X12_meetWay_102 (q : SS) (l1 : Int32) (l2 : Int64) : Option SS :=
  nm (sL q 60 43 l2) fun q6 =>
  nm (sI q6 60 44 l1) fun q7 =>
  some q7
theorem rb_X12_meetWay_102 {E : EE} (hE : GE E) (q : SS) (l1 : Int32) (l2 : Int64) : R E (κV E) 1 259 102 [(0, .ref 60), (1, .int l1), (2, .long l2)] [] q (b_X12_meetWay_102 q l1 l2) := by
  unfold b_X12_meetWay_102
  refine r_aload_n (x := 60) dX12_meetWay_102 rfl ?_
  refine r_lload_n (x := l2) dX12_meetWay_103 rfl ?_
  refine r_putL dX12_meetWay_104 (ff_12_328_60 hE) ?_
  refine r_nmS fun q6 _ => ?_
  refine r_aload_n (x := 60) dX12_meetWay_107 rfl ?_
  refine r_iload_n (x := l1) dX12_meetWay_108 rfl ?_
  refine r_putI dX12_meetWay_109 (ff_12_332_60 hE) ?_
  refine r_nmS fun q7 _ => ?_
  exact r_return dX12_meetWay_112 rfl rfl
def b_X12_meetWay_70 (q : SS) (l1 : Int32) (l2 : Int64) : Option SS :=
  if 0 < (lg_cmp l2 (q.2 60 43)) then
  (b_X12_meetWay_102 q l1 l2)
  else
  (if (lg_cmp l2 (q.2 60 43)) = 0 then
  (if (lg_cmp l2 (0 : Int64)) ≤ 0 then
  (some q)
  else
  (if (q.1 60 44) ≤ l1 then
  (some q)
  else
  (b_X12_meetWay_102 q l1 l2)))
  else
  (some q))
theorem rb_X12_meetWay_70 {E : EE} (hE : GE E) (q : SS) (l1 : Int32) (l2 : Int64) : R E (κV E) 1 259 70 [(0, .ref 60), (1, .int l1), (2, .long l2)] [] q (b_X12_meetWay_70 q l1 l2) := by
  unfold b_X12_meetWay_70
  refine r_lload_n (x := l2) dX12_meetWay_70 rfl ?_
  refine r_aload_n (x := 60) dX12_meetWay_71 rfl ?_
  refine r_getL dX12_meetWay_72 (ff_12_328_60 hE) ?_
  refine r_lcmp dX12_meetWay_75 ?_
  refine r_if_gt (t := 102) dX12_meetWay_76 rfl (fun h11 => ?_) (fun h11 => ?_)
  · exact r_sub (L' := [(0, .ref 60), (1, .int l1), (2, .long l2)]) (sub_c rfl (sub_c rfl (sub_c rfl sub_n))) (rb_X12_meetWay_102 hE q l1 l2)
  · refine r_lload_n (x := l2) dX12_meetWay_79 rfl ?_
    refine r_aload_n (x := 60) dX12_meetWay_80 rfl ?_
    refine r_getL dX12_meetWay_81 (ff_12_328_60 hE) ?_
    refine r_lcmp dX12_meetWay_84 ?_
    refine r_if_ne (t := 112) dX12_meetWay_85 rfl (fun h10 => ?_) (fun h10 => ?_)
    · refine r_lload_n (x := l2) dX12_meetWay_88 rfl ?_
      refine r_lconst (v := (0 : Int64)) dX12_meetWay_89 rfl ?_
      refine r_lcmp dX12_meetWay_90 ?_
      refine r_if_le (t := 112) dX12_meetWay_91 rfl (fun h9 => ?_) (fun h9 => ?_)
      · exact r_return dX12_meetWay_112 rfl rfl
      · refine r_iload_n (x := l1) dX12_meetWay_94 rfl ?_
        refine r_aload_n (x := 60) dX12_meetWay_95 rfl ?_
        refine r_getI dX12_meetWay_96 (ff_12_332_60 hE) (by decide) ?_
        refine r_icmp_ge (t := 112) dX12_meetWay_99 rfl (fun h8 => ?_) (fun h8 => ?_)
        · exact r_return dX12_meetWay_112 rfl rfl
        · exact r_sub (L' := [(0, .ref 60), (1, .int l1), (2, .long l2)]) (sub_c rfl (sub_c rfl (sub_c rfl sub_n))) (rb_X12_meetWay_102 hE q l1 l2)
    · exact r_return dX12_meetWay_112 rfl rfl
def b_X12_meetWay_59 (q : SS) (l1 : Int32) (l2 : Int64) (l4 : Int32) : Option SS :=
  nm (sI q 60 40 l4) fun q4 =>
  nm (sI q4 60 41 l1) fun q5 =>
  b_X12_meetWay_70 q5 l1 l2
theorem rb_X12_meetWay_59 {E : EE} (hE : GE E) (q : SS) (l1 : Int32) (l2 : Int64) (l4 : Int32) : R E (κV E) 1 259 59 [(0, .ref 60), (1, .int l1), (2, .long l2), (4, .int l4)] [] q (b_X12_meetWay_59 q l1 l2 l4) := by
  unfold b_X12_meetWay_59
  refine r_aload_n (x := 60) dX12_meetWay_59 rfl ?_
  refine r_iload (x := l4) dX12_meetWay_60 rfl ?_
  refine r_putI dX12_meetWay_62 (ff_12_322_60 hE) ?_
  refine r_nmS fun q4 _ => ?_
  refine r_aload_n (x := 60) dX12_meetWay_65 rfl ?_
  refine r_iload_n (x := l1) dX12_meetWay_66 rfl ?_
  refine r_putI dX12_meetWay_67 (ff_12_325_60 hE) ?_
  refine r_nmS fun q5 _ => ?_
  exact r_sub (L' := [(0, .ref 60), (1, .int l1), (2, .long l2)]) (sub_c rfl (sub_c rfl (sub_c rfl sub_n))) (rb_X12_meetWay_70 hE q5 l1 l2)
def f_X12_meetWay (q : SS) (a1 : Int32) (a2 : Int64) : Option SS :=
  nm (sI q 60 39 ((q.1 60 39) + (1 : Int32))) fun q1 =>
  nm (sI q1 60 42 ((q1.1 60 42) &&& a1)) fun q2 =>
  (f_X12_bitsOf q2 a1).bind fun r3 =>
  if (q2.1 60 40) < 0 then
  (b_X12_meetWay_59 q2 a1 a2 r3)
  else
  (if r3 < (q2.1 60 40) then
  (b_X12_meetWay_59 q2 a1 a2 r3)
  else
  (if r3 = (q2.1 60 40) then
  (if (q2.1 60 41) ≤ a1 then
  (b_X12_meetWay_70 q2 a1 a2)
  else
  (b_X12_meetWay_59 q2 a1 a2 r3))
  else
  (b_X12_meetWay_70 q2 a1 a2)))
theorem e_X12_meetWay {E : EE} (hE : GE E) (q : SS) (a1 : Int32) (a2 : Int64) : R E (κV E) 1 259 0 [(0, .ref 60), (1, .int a1), (2, .long a2)] [] q (f_X12_meetWay q a1 a2) := by
  unfold f_X12_meetWay
  refine r_aload_n (x := 60) dX12_meetWay_0 rfl ?_
  refine r_dup dX12_meetWay_1 rfl ?_
  refine r_getI dX12_meetWay_2 (ff_12_316_60 hE) (by decide) ?_
  refine r_iconst (v := (1 : Int32)) dX12_meetWay_5 rfl ?_
  refine r_iadd dX12_meetWay_6 ?_
  refine r_putI dX12_meetWay_7 (ff_12_316_60 hE) ?_
  refine r_nmS fun q1 _ => ?_
  refine r_aload_n (x := 60) dX12_meetWay_10 rfl ?_
  refine r_dup dX12_meetWay_11 rfl ?_
  refine r_getI dX12_meetWay_12 (ff_12_319_60 hE) (by decide) ?_
  refine r_iload_n (x := a1) dX12_meetWay_15 rfl ?_
  refine r_iand dX12_meetWay_16 ?_
  refine r_putI dX12_meetWay_17 (ff_12_319_60 hE) ?_
  refine r_nmS fun q2 _ => ?_
  refine r_iload_n (x := a1) dX12_meetWay_20 rfl ?_
  refine r_calli (k := 2) (idx := 310) (y := 190) (as := [.int a1]) (rest := []) (L0 := [(0, .int a1)]) dX12_meetWay_21 rfl rfl rfl rfl rfl vok_s rfl (r_dep (by decide) (e_X12_bitsOf hE q2 a1)) (fun r3 => ?_)
  refine r_istore (L2 := [(0, .ref 60), (1, .int a1), (2, .long a2), (4, .int r3)]) dX12_meetWay_24 rfl rfl ?_
  refine r_aload_n (x := 60) dX12_meetWay_26 rfl ?_
  refine r_getI dX12_meetWay_27 (ff_12_322_60 hE) (by decide) ?_
  refine r_if_lt (t := 59) dX12_meetWay_30 rfl (fun h15 => ?_) (fun h15 => ?_)
  · exact r_sub (L' := [(0, .ref 60), (1, .int a1), (2, .long a2), (4, .int r3)]) (sub_c rfl (sub_c rfl (sub_c rfl (sub_c rfl sub_n)))) (rb_X12_meetWay_59 hE q2 a1 a2 r3)
  · refine r_iload (x := r3) dX12_meetWay_33 rfl ?_
    refine r_aload_n (x := 60) dX12_meetWay_35 rfl ?_
    refine r_getI dX12_meetWay_36 (ff_12_322_60 hE) (by decide) ?_
    refine r_icmp_lt (t := 59) dX12_meetWay_39 rfl (fun h14 => ?_) (fun h14 => ?_)
    · exact r_sub (L' := [(0, .ref 60), (1, .int a1), (2, .long a2), (4, .int r3)]) (sub_c rfl (sub_c rfl (sub_c rfl (sub_c rfl sub_n)))) (rb_X12_meetWay_59 hE q2 a1 a2 r3)
    · refine r_iload (x := r3) dX12_meetWay_42 rfl ?_
      refine r_aload_n (x := 60) dX12_meetWay_44 rfl ?_
      refine r_getI dX12_meetWay_45 (ff_12_322_60 hE) (by decide) ?_
      refine r_icmp_ne (t := 70) dX12_meetWay_48 rfl (fun h13 => ?_) (fun h13 => ?_)
      · refine r_iload_n (x := a1) dX12_meetWay_51 rfl ?_
        refine r_aload_n (x := 60) dX12_meetWay_52 rfl ?_
        refine r_getI dX12_meetWay_53 (ff_12_325_60 hE) (by decide) ?_
        refine r_icmp_ge (t := 70) dX12_meetWay_56 rfl (fun h12 => ?_) (fun h12 => ?_)
        · exact r_sub (L' := [(0, .ref 60), (1, .int a1), (2, .long a2)]) (sub_c rfl (sub_c rfl (sub_c rfl sub_n))) (rb_X12_meetWay_70 hE q2 a1 a2)
        · exact r_sub (L' := [(0, .ref 60), (1, .int a1), (2, .long a2), (4, .int r3)]) (sub_c rfl (sub_c rfl (sub_c rfl (sub_c rfl sub_n)))) (rb_X12_meetWay_59 hE q2 a1 a2 r3)
      · exact r_sub (L' := [(0, .ref 60), (1, .int a1), (2, .long a2)]) (sub_c rfl (sub_c rfl (sub_c rfl sub_n))) (rb_X12_meetWay_70 hE q2 a1 a2)
abbrev GT_X12_goBehind : Type := (SS → Int32 → Int32 → Int64 → Option SS)
def GS_X12_goBehind (E : EE) (n : Nat) (r : GT_X12_goBehind) : Prop := (∀ (q : SS) (a1 : Int32) (a2 : Int32) (a3 : Int64), R E (κV E) (4 + n) 260 0 [(0, .ref 60), (1, .int a1), (2, .int a2), (3, .long a3)] [] q (r q a1 a2 a3))
def fb_X12_goBehind (r : GT_X12_goBehind) (q : SS) (a1 : Int32) (a2 : Int32) (a3 : Int64) : Option SS :=
  if a1 = (q.1 60 38) then
  ((f_X12_isAsTold q).bind fun r1 =>
  if r1 = 0 then
  (some q)
  else
  ((f_X12_meetWay q a2 a3).bind fun r2 =>
  some r2))
  else
  ((f_X12_at q (q.1 60 36) a1).bind fun r4 =>
  nm (r4 / (8 : Int32)) fun v5 =>
  (f_X12_at q (q.1 60 36) a1).bind fun r6 =>
  nm (jrem r6 (8 : Int32)) fun v7 =>
  (f_X12_maySlip q v5 v7).bind fun r8 =>
  if r8 = 0 then
  ((r q (a1 + (1 : Int32)) a2 (a3 * (12 : Int64))).bind fun r9 =>
  some r9)
  else
  ((f_X12_oddsOf q v5 v7).bind fun r10 =>
  if vin v5 12 then
  nm (r10.2.1 81 v5.toNatClampNeg) fun v11 =>
  (r r10.2 (a1 + (1 : Int32)) a2 (a3 * (((12 : Int32) - r10.1).toInt64))).bind fun r12 =>
  if vin v5 12 then
  nm (sI r12 81 v5.toNatClampNeg v7) fun q13 =>
  (r q13 (a1 + (1 : Int32)) (a2 ||| (jshl (1 : Int32) a1)) (a3 * (r10.1.toInt64))).bind fun r14 =>
  if vin v5 12 then
  nm (sI r14 81 v5.toNatClampNeg v11) fun q15 =>
  some q15
  else none
  else none
  else none))
theorem eb_X12_goBehind {E : EE} (hE : GE E) {r : GT_X12_goBehind} (n : Nat) (hr : GS_X12_goBehind E n r) (q : SS) (a1 : Int32) (a2 : Int32) (a3 : Int64) : R E (κV E) (4 + n + 1) 260 0 [(0, .ref 60), (1, .int a1), (2, .int a2), (3, .long a3)] [] q (fb_X12_goBehind r q a1 a2 a3) := by
  unfold fb_X12_goBehind
  refine r_iload_n (x := a1) dX12_goBehind_0 rfl ?_
  refine r_aload_n (x := 60) dX12_goBehind_1 rfl ?_
  refine r_getI dX12_goBehind_2 (ff_12_335_60 hE) (by decide) ?_
  refine r_icmp_ne (t := 22) dX12_goBehind_5 rfl (fun h17 => ?_) (fun h17 => ?_)
  · refine r_aload_n (x := 60) dX12_goBehind_8 rfl ?_
    refine r_calli (k := 0) (idx := 338) (y := 258) (as := [.ref 60]) (rest := []) (L0 := [(0, .ref 60)]) dX12_goBehind_9 rfl rfl rfl rfl rfl (vok_v (ob_60 hE) rfl) rfl (r_dep (by omega) (e_X12_isAsTold hE q)) (fun r1 => ?_)
    refine r_if_eq (t := 21) dX12_goBehind_12 rfl (fun h3 => ?_) (fun h3 => ?_)
    · exact r_return dX12_goBehind_21 rfl rfl
    · refine r_aload_n (x := 60) dX12_goBehind_15 rfl ?_
      refine r_iload_n (x := a2) dX12_goBehind_16 rfl ?_
      refine r_lload_n (x := a3) dX12_goBehind_17 rfl ?_
      refine r_callV (k := 0) (idx := 341) (y := 259) (as := [.ref 60, .int a2, .long a3]) (rest := []) (L0 := [(0, .ref 60), (1, .int a2), (2, .long a3)]) dX12_goBehind_18 rfl rfl rfl rfl rfl (vok_v (ob_60 hE) rfl) rfl (r_dep (by omega) (e_X12_meetWay hE q a2 a3)) (fun r2 => ?_)
      exact r_return dX12_goBehind_21 rfl rfl
  · refine r_aload_n (x := 60) dX12_goBehind_22 rfl ?_
    refine r_aload_n (x := 60) dX12_goBehind_23 rfl ?_
    refine r_getI dX12_goBehind_24 (ff_12_345_60 hE) (by decide) ?_
    refine r_iload_n (x := a1) dX12_goBehind_27 rfl ?_
    refine r_calli (k := 0) (idx := 263) (y := 235) (as := [.ref 60, .int (q.1 60 36), .int a1]) (rest := []) (L0 := [(0, .ref 60), (1, .int (q.1 60 36)), (2, .int a1)]) dX12_goBehind_28 rfl rfl rfl rfl rfl (vok_v (ob_60 hE) rfl) rfl (r_dep (by omega) (e_X12_at hE q (q.1 60 36) a1)) (fun r4 => ?_)
    refine r_bipush (v := (8 : Int32)) dX12_goBehind_31 rfl ?_
    refine r_idivC dX12_goBehind_33 (by decide) ?_
    refine r_nmI fun v5 _ => ?_
    refine r_istore (L2 := [(0, .ref 60), (1, .int a1), (2, .int a2), (3, .long a3), (5, .int v5)]) dX12_goBehind_34 rfl rfl ?_
    refine r_aload_n (x := 60) dX12_goBehind_36 rfl ?_
    refine r_aload_n (x := 60) dX12_goBehind_37 rfl ?_
    refine r_getI dX12_goBehind_38 (ff_12_345_60 hE) (by decide) ?_
    refine r_iload_n (x := a1) dX12_goBehind_41 rfl ?_
    refine r_calli (k := 0) (idx := 263) (y := 235) (as := [.ref 60, .int (q.1 60 36), .int a1]) (rest := []) (L0 := [(0, .ref 60), (1, .int (q.1 60 36)), (2, .int a1)]) dX12_goBehind_42 rfl rfl rfl rfl rfl (vok_v (ob_60 hE) rfl) rfl (r_dep (by omega) (e_X12_at hE q (q.1 60 36) a1)) (fun r6 => ?_)
    refine r_bipush (v := (8 : Int32)) dX12_goBehind_45 rfl ?_
    refine r_iremC dX12_goBehind_47 (by decide) ?_
    refine r_nmI fun v7 _ => ?_
    refine r_istore (L2 := [(0, .ref 60), (1, .int a1), (2, .int a2), (3, .long a3), (5, .int v5), (6, .int v7)]) dX12_goBehind_48 rfl rfl ?_
    refine r_aload_n (x := 60) dX12_goBehind_50 rfl ?_
    refine r_iload (x := v5) dX12_goBehind_51 rfl ?_
    refine r_iload (x := v7) dX12_goBehind_53 rfl ?_
    refine r_calli (k := 0) (idx := 251) (y := 230) (as := [.ref 60, .int v5, .int v7]) (rest := []) (L0 := [(0, .ref 60), (1, .int v5), (2, .int v7)]) dX12_goBehind_55 rfl rfl rfl rfl rfl (vok_v (ob_60 hE) rfl) rfl (r_dep (by omega) (e_X12_maySlip hE q v5 v7)) (fun r8 => ?_)
    refine r_if_ne (t := 75) dX12_goBehind_58 rfl (fun h16 => ?_) (fun h16 => ?_)
    · refine r_aload_n (x := 60) dX12_goBehind_61 rfl ?_
      refine r_iload_n (x := a1) dX12_goBehind_62 rfl ?_
      refine r_iconst (v := (1 : Int32)) dX12_goBehind_63 rfl ?_
      refine r_iadd dX12_goBehind_64 ?_
      refine r_iload_n (x := a2) dX12_goBehind_65 rfl ?_
      refine r_lload_n (x := a3) dX12_goBehind_66 rfl ?_
      refine r_ldc2 (v := (12 : Int64)) dX12_goBehind_67 rfl ?_
      refine r_lmul dX12_goBehind_70 ?_
      refine r_callV (k := 0) (idx := 348) (y := 260) (as := [.ref 60, .int (a1 + (1 : Int32)), .int a2, .long (a3 * (12 : Int64))]) (rest := []) (L0 := [(0, .ref 60), (1, .int (a1 + (1 : Int32))), (2, .int a2), (3, .long (a3 * (12 : Int64)))]) dX12_goBehind_71 rfl rfl rfl rfl rfl (vok_v (ob_60 hE) rfl) rfl (hr q (a1 + (1 : Int32)) a2 (a3 * (12 : Int64))) (fun r9 => ?_)
      exact r_return dX12_goBehind_74 rfl rfl
    · refine r_aload_n (x := 60) dX12_goBehind_75 rfl ?_
      refine r_iload (x := v5) dX12_goBehind_76 rfl ?_
      refine r_iload (x := v7) dX12_goBehind_78 rfl ?_
      refine r_callI (k := 0) (idx := 260) (y := 231) (as := [.ref 60, .int v5, .int v7]) (rest := []) (L0 := [(0, .ref 60), (1, .int v5), (2, .int v7)]) dX12_goBehind_80 rfl rfl rfl rfl rfl (vok_v (ob_60 hE) rfl) rfl (r_dep (by omega) (e_X12_oddsOf hE q v5 v7)) (fun r10 => ?_)
      refine r_istore (L2 := [(0, .ref 60), (1, .int a1), (2, .int a2), (3, .long a3), (5, .int v5), (6, .int v7), (7, .int r10.1)]) dX12_goBehind_83 rfl rfl ?_
      refine r_aload_n (x := 60) dX12_goBehind_85 rfl ?_
      refine r_getA dX12_goBehind_86 (fa_12_74_60 hE) ?_
      refine r_iload (x := v5) dX12_goBehind_89 rfl ?_
      refine r_iaload dX12_goBehind_91 (ar_81 hE) ?_
      refine r_nmI fun v11 _ => ?_
      refine r_istore (L2 := [(0, .ref 60), (1, .int a1), (2, .int a2), (3, .long a3), (5, .int v5), (6, .int v7), (7, .int r10.1), (8, .int v11)]) dX12_goBehind_92 rfl rfl ?_
      refine r_aload_n (x := 60) dX12_goBehind_94 rfl ?_
      refine r_iload_n (x := a1) dX12_goBehind_95 rfl ?_
      refine r_iconst (v := (1 : Int32)) dX12_goBehind_96 rfl ?_
      refine r_iadd dX12_goBehind_97 ?_
      refine r_iload_n (x := a2) dX12_goBehind_98 rfl ?_
      refine r_lload_n (x := a3) dX12_goBehind_99 rfl ?_
      refine r_bipush (v := (12 : Int32)) dX12_goBehind_100 rfl ?_
      refine r_iload (x := r10.1) dX12_goBehind_102 rfl ?_
      refine r_isub dX12_goBehind_104 ?_
      refine r_i2l dX12_goBehind_105 ?_
      refine r_lmul dX12_goBehind_106 ?_
      refine r_callV (k := 0) (idx := 348) (y := 260) (as := [.ref 60, .int (a1 + (1 : Int32)), .int a2, .long (a3 * (((12 : Int32) - r10.1).toInt64))]) (rest := []) (L0 := [(0, .ref 60), (1, .int (a1 + (1 : Int32))), (2, .int a2), (3, .long (a3 * (((12 : Int32) - r10.1).toInt64)))]) dX12_goBehind_107 rfl rfl rfl rfl rfl (vok_v (ob_60 hE) rfl) rfl (hr r10.2 (a1 + (1 : Int32)) a2 (a3 * (((12 : Int32) - r10.1).toInt64))) (fun r12 => ?_)
      refine r_aload_n (x := 60) dX12_goBehind_110 rfl ?_
      refine r_getA dX12_goBehind_111 (fa_12_74_60 hE) ?_
      refine r_iload (x := v5) dX12_goBehind_114 rfl ?_
      refine r_iload (x := v7) dX12_goBehind_116 rfl ?_
      refine r_iastore dX12_goBehind_118 (ar_81 hE) ?_
      refine r_nmS fun q13 _ => ?_
      refine r_aload_n (x := 60) dX12_goBehind_119 rfl ?_
      refine r_iload_n (x := a1) dX12_goBehind_120 rfl ?_
      refine r_iconst (v := (1 : Int32)) dX12_goBehind_121 rfl ?_
      refine r_iadd dX12_goBehind_122 ?_
      refine r_iload_n (x := a2) dX12_goBehind_123 rfl ?_
      refine r_iconst (v := (1 : Int32)) dX12_goBehind_124 rfl ?_
      refine r_iload_n (x := a1) dX12_goBehind_125 rfl ?_
      refine r_ishl dX12_goBehind_126 ?_
      refine r_ior dX12_goBehind_127 ?_
      refine r_lload_n (x := a3) dX12_goBehind_128 rfl ?_
      refine r_iload (x := r10.1) dX12_goBehind_129 rfl ?_
      refine r_i2l dX12_goBehind_131 ?_
      refine r_lmul dX12_goBehind_132 ?_
      refine r_callV (k := 0) (idx := 348) (y := 260) (as := [.ref 60, .int (a1 + (1 : Int32)), .int (a2 ||| (jshl (1 : Int32) a1)), .long (a3 * (r10.1.toInt64))]) (rest := []) (L0 := [(0, .ref 60), (1, .int (a1 + (1 : Int32))), (2, .int (a2 ||| (jshl (1 : Int32) a1))), (3, .long (a3 * (r10.1.toInt64)))]) dX12_goBehind_133 rfl rfl rfl rfl rfl (vok_v (ob_60 hE) rfl) rfl (hr q13 (a1 + (1 : Int32)) (a2 ||| (jshl (1 : Int32) a1)) (a3 * (r10.1.toInt64))) (fun r14 => ?_)
      refine r_aload_n (x := 60) dX12_goBehind_136 rfl ?_
      refine r_getA dX12_goBehind_137 (fa_12_74_60 hE) ?_
      refine r_iload (x := v5) dX12_goBehind_140 rfl ?_
      refine r_iload (x := v11) dX12_goBehind_142 rfl ?_
      refine r_iastore dX12_goBehind_144 (ar_81 hE) ?_
      refine r_nmS fun q15 _ => ?_
      exact r_return dX12_goBehind_145 rfl rfl
def g_X12_goBehind : Nat → GT_X12_goBehind
  | 0 => (fun _ _ _ _ => none)
  | n + 1 => (fb_X12_goBehind (g_X12_goBehind n))
theorem gs_X12_goBehind {E : EE} (hE : GE E) : ∀ n, GS_X12_goBehind E n (g_X12_goBehind n)
  | 0 => fun _ _ _ _ => r_no
  | n + 1 => eb_X12_goBehind hE n (gs_X12_goBehind hE n)
def f_X12_goBehind : SS → Int32 → Int32 → Int64 → Option SS := (g_X12_goBehind 60)
theorem e_X12_goBehind {E : EE} (hE : GE E) : ∀ (q : SS) (a1 : Int32) (a2 : Int32) (a3 : Int64), R E (κV E) 64 260 0 [(0, .ref 60), (1, .int a1), (2, .int a2), (3, .long a3)] [] q (f_X12_goBehind q a1 a2 a3) := (gs_X12_goBehind hE 60)
def f_X12_behind (q : SS) (a1 : Int32) (a2 : Int32) (a3 : Int32) : Option (Int32 × SS) :=
  (f_X12_isShelf q a1).bind fun r1 =>
  if r1 = 0 then
  (some ((-1 : Int32), q))
  else
  ((f_X12_isShelf q a2).bind fun r2 =>
  if r2 = 0 then
  (some ((-1 : Int32), q))
  else
  ((f_X12_in q a3 (0 : Int32) (4 : Int32)).bind fun r3 =>
  if r3 = 0 then
  (some ((-1 : Int32), q))
  else
  ((f_X12_rowFault q a1).bind fun r4 =>
  if 0 ≤ r4 then
  ((f_X12_rowFault q a2).bind fun r5 =>
  if 0 ≤ r5 then
  (nm (sI q 60 36 a1) fun q6 =>
  nm (sI q6 60 37 a2) fun q7 =>
  (f_X12_longOf q7 a1 (12 : Int32)).bind fun r8 =>
  nm (sI q7 60 38 r8) fun q9 =>
  nm (sI q9 60 39 (0 : Int32)) fun q10 =>
  nm (sI q10 60 40 (-2 : Int32)) fun q11 =>
  nm (sI q11 60 41 (-2 : Int32)) fun q12 =>
  nm (sI q12 60 42 (-1 : Int32)) fun q13 =>
  nm (sL q13 60 43 (0 : Int64)) fun q14 =>
  nm (sI q14 60 44 (-2 : Int32)) fun q15 =>
  (f_X12_layNow q15).bind fun r16 =>
  (f_X12_goBehind r16 (0 : Int32) (0 : Int32) (1 : Int64)).bind fun r17 =>
  sw a3 [(0, (some ((r17.1 60 39), r17))), (1, (some ((r17.1 60 40), r17))), (2, (some ((r17.1 60 41), r17))), (3, (if (r17.1 60 39) = 0 then
  (some ((0 : Int32), r17))
  else
  (some ((r17.1 60 42), r17))))]
  (some ((r17.1 60 44), r17)))
  else
  ((f_X12_rowFault q a2).bind fun r24 =>
  some (r24, q)))
  else
  ((f_X12_rowFault q a1).bind fun r26 =>
  some (r26, q)))))
theorem e_X12_behind {E : EE} (hE : GE E) (q : SS) (a1 : Int32) (a2 : Int32) (a3 : Int32) : R E (κI E) 65 261 0 [(0, .ref 60), (1, .int a1), (2, .int a2), (3, .int a3)] [] q (f_X12_behind q a1 a2 a3) := by
  unfold f_X12_behind
  refine r_iload_n (x := a1) dX12_behind_0 rfl ?_
  refine r_calli (k := 2) (idx := 137) (y := 288) (as := [.int a1]) (rest := []) (L0 := [(0, .int a1)]) dX12_behind_1 rfl rfl rfl rfl rfl vok_s rfl (r_dep (by decide) (e_X12_isShelf hE q a1)) (fun r1 => ?_)
  refine r_if_eq (t := 23) dX12_behind_4 rfl (fun h30 => ?_) (fun h30 => ?_)
  · refine r_iconst (v := (-1 : Int32)) dX12_behind_23 rfl ?_
    exact r_ireturn dX12_behind_24 rfl rfl
  · refine r_iload_n (x := a2) dX12_behind_7 rfl ?_
    refine r_calli (k := 2) (idx := 137) (y := 288) (as := [.int a2]) (rest := []) (L0 := [(0, .int a2)]) dX12_behind_8 rfl rfl rfl rfl rfl vok_s rfl (r_dep (by decide) (e_X12_isShelf hE q a2)) (fun r2 => ?_)
    refine r_if_eq (t := 23) dX12_behind_11 rfl (fun h29 => ?_) (fun h29 => ?_)
    · refine r_iconst (v := (-1 : Int32)) dX12_behind_23 rfl ?_
      exact r_ireturn dX12_behind_24 rfl rfl
    · refine r_iload_n (x := a3) dX12_behind_14 rfl ?_
      refine r_iconst (v := (0 : Int32)) dX12_behind_15 rfl ?_
      refine r_iconst (v := (4 : Int32)) dX12_behind_16 rfl ?_
      refine r_calli (k := 2) (idx := 118) (y := 189) (as := [.int a3, .int (0 : Int32), .int (4 : Int32)]) (rest := []) (L0 := [(0, .int a3), (1, .int (0 : Int32)), (2, .int (4 : Int32))]) dX12_behind_17 rfl rfl rfl rfl rfl vok_s rfl (r_dep (by decide) (e_X12_in hE q a3 (0 : Int32) (4 : Int32))) (fun r3 => ?_)
      refine r_if_ne (t := 25) dX12_behind_20 rfl (fun h28 => ?_) (fun h28 => ?_)
      · refine r_iconst (v := (-1 : Int32)) dX12_behind_23 rfl ?_
        exact r_ireturn dX12_behind_24 rfl rfl
      · refine r_aload_n (x := 60) dX12_behind_25 rfl ?_
        refine r_iload_n (x := a1) dX12_behind_26 rfl ?_
        refine r_calli (k := 0) (idx := 278) (y := 234) (as := [.ref 60, .int a1]) (rest := []) (L0 := [(0, .ref 60), (1, .int a1)]) dX12_behind_27 rfl rfl rfl rfl rfl (vok_v (ob_60 hE) rfl) rfl (r_dep (by decide) (e_X12_rowFault hE q a1)) (fun r4 => ?_)
        refine r_if_ge (t := 39) dX12_behind_30 rfl (fun h27 => ?_) (fun h27 => ?_)
        · refine r_aload_n (x := 60) dX12_behind_39 rfl ?_
          refine r_iload_n (x := a2) dX12_behind_40 rfl ?_
          refine r_calli (k := 0) (idx := 278) (y := 234) (as := [.ref 60, .int a2]) (rest := []) (L0 := [(0, .ref 60), (1, .int a2)]) dX12_behind_41 rfl rfl rfl rfl rfl (vok_v (ob_60 hE) rfl) rfl (r_dep (by decide) (e_X12_rowFault hE q a2)) (fun r5 => ?_)
          refine r_if_ge (t := 53) dX12_behind_44 rfl (fun h25 => ?_) (fun h25 => ?_)
          · refine r_aload_n (x := 60) dX12_behind_53 rfl ?_
            refine r_iload_n (x := a1) dX12_behind_54 rfl ?_
            refine r_putI dX12_behind_55 (ff_12_345_60 hE) ?_
            refine r_nmS fun q6 _ => ?_
            refine r_aload_n (x := 60) dX12_behind_58 rfl ?_
            refine r_iload_n (x := a2) dX12_behind_59 rfl ?_
            refine r_putI dX12_behind_60 (ff_12_313_60 hE) ?_
            refine r_nmS fun q7 _ => ?_
            refine r_aload_n (x := 60) dX12_behind_63 rfl ?_
            refine r_aload_n (x := 60) dX12_behind_64 rfl ?_
            refine r_iload_n (x := a1) dX12_behind_65 rfl ?_
            refine r_bipush (v := (12 : Int32)) dX12_behind_66 rfl ?_
            refine r_calli (k := 0) (idx := 272) (y := 236) (as := [.ref 60, .int a1, .int (12 : Int32)]) (rest := [.ref 60]) (L0 := [(0, .ref 60), (1, .int a1), (2, .int (12 : Int32))]) dX12_behind_68 rfl rfl rfl rfl rfl (vok_v (ob_60 hE) rfl) rfl (r_dep (by decide) (e_X12_longOf hE q7 a1 (12 : Int32))) (fun r8 => ?_)
            refine r_putI dX12_behind_71 (ff_12_335_60 hE) ?_
            refine r_nmS fun q9 _ => ?_
            refine r_aload_n (x := 60) dX12_behind_74 rfl ?_
            refine r_iconst (v := (0 : Int32)) dX12_behind_75 rfl ?_
            refine r_putI dX12_behind_76 (ff_12_316_60 hE) ?_
            refine r_nmS fun q10 _ => ?_
            refine r_aload_n (x := 60) dX12_behind_79 rfl ?_
            refine r_bipush (v := (-2 : Int32)) dX12_behind_80 rfl ?_
            refine r_putI dX12_behind_82 (ff_12_322_60 hE) ?_
            refine r_nmS fun q11 _ => ?_
            refine r_aload_n (x := 60) dX12_behind_85 rfl ?_
            refine r_bipush (v := (-2 : Int32)) dX12_behind_86 rfl ?_
            refine r_putI dX12_behind_88 (ff_12_325_60 hE) ?_
            refine r_nmS fun q12 _ => ?_
            refine r_aload_n (x := 60) dX12_behind_91 rfl ?_
            refine r_iconst (v := (-1 : Int32)) dX12_behind_92 rfl ?_
            refine r_putI dX12_behind_93 (ff_12_319_60 hE) ?_
            refine r_nmS fun q13 _ => ?_
            refine r_aload_n (x := 60) dX12_behind_96 rfl ?_
            refine r_lconst (v := (0 : Int64)) dX12_behind_97 rfl ?_
            refine r_putL dX12_behind_98 (ff_12_328_60 hE) ?_
            refine r_nmS fun q14 _ => ?_
            refine r_aload_n (x := 60) dX12_behind_101 rfl ?_
            refine r_bipush (v := (-2 : Int32)) dX12_behind_102 rfl ?_
            refine r_putI dX12_behind_104 (ff_12_332_60 hE) ?_
            refine r_nmS fun q15 _ => ?_
            refine r_aload_n (x := 60) dX12_behind_107 rfl ?_
            refine r_callV (k := 0) (idx := 168) (y := 226) (as := [.ref 60]) (rest := []) (L0 := [(0, .ref 60)]) dX12_behind_108 rfl rfl rfl rfl rfl (vok_v (ob_60 hE) rfl) rfl (r_dep (by decide) (e_X12_layNow hE q15)) (fun r16 => ?_)
            refine r_aload_n (x := 60) dX12_behind_111 rfl ?_
            refine r_iconst (v := (0 : Int32)) dX12_behind_112 rfl ?_
            refine r_iconst (v := (0 : Int32)) dX12_behind_113 rfl ?_
            refine r_lconst (v := (1 : Int64)) dX12_behind_114 rfl ?_
            refine r_callV (k := 0) (idx := 348) (y := 260) (as := [.ref 60, .int (0 : Int32), .int (0 : Int32), .long (1 : Int64)]) (rest := []) (L0 := [(0, .ref 60), (1, .int (0 : Int32)), (2, .int (0 : Int32)), (3, .long (1 : Int64))]) dX12_behind_115 rfl rfl rfl rfl rfl (vok_v (ob_60 hE) rfl) rfl (r_dep (by decide) (e_X12_goBehind hE r16 (0 : Int32) (0 : Int32) (1 : Int64))) (fun r17 => ?_)
            refine r_iload_n (x := a3) dX12_behind_118 rfl ?_
            refine r_sw1 (fun h18 => ?_) (fun h18 => ?_)
            · refine r_jmp (t := 148) dX12_behind_119 rfl (by rw [h18]; rfl) ?_
              refine r_aload_n (x := 60) dX12_behind_148 rfl ?_
              refine r_getI dX12_behind_149 (ff_12_316_60 hE) (by decide) ?_
              exact r_ireturn dX12_behind_152 rfl rfl
            refine r_sw1 (fun h19 => ?_) (fun h19 => ?_)
            · refine r_jmp (t := 153) dX12_behind_119 rfl (by rw [h19]; rfl) ?_
              refine r_aload_n (x := 60) dX12_behind_153 rfl ?_
              refine r_getI dX12_behind_154 (ff_12_322_60 hE) (by decide) ?_
              exact r_ireturn dX12_behind_157 rfl rfl
            refine r_sw1 (fun h20 => ?_) (fun h20 => ?_)
            · refine r_jmp (t := 158) dX12_behind_119 rfl (by rw [h20]; rfl) ?_
              refine r_aload_n (x := 60) dX12_behind_158 rfl ?_
              refine r_getI dX12_behind_159 (ff_12_325_60 hE) (by decide) ?_
              exact r_ireturn dX12_behind_162 rfl rfl
            refine r_sw1 (fun h21 => ?_) (fun h21 => ?_)
            · refine r_jmp (t := 163) dX12_behind_119 rfl (by rw [h21]; rfl) ?_
              refine r_aload_n (x := 60) dX12_behind_163 rfl ?_
              refine r_getI dX12_behind_164 (ff_12_316_60 hE) (by decide) ?_
              refine r_if_ne (t := 174) dX12_behind_167 rfl (fun h22 => ?_) (fun h22 => ?_)
              · refine r_iconst (v := (0 : Int32)) dX12_behind_170 rfl ?_
                refine r_goto (t := 178) dX12_behind_171 rfl ?_
                exact r_ireturn dX12_behind_178 rfl rfl
              · refine r_aload_n (x := 60) dX12_behind_174 rfl ?_
                refine r_getI dX12_behind_175 (ff_12_319_60 hE) (by decide) ?_
                exact r_ireturn dX12_behind_178 rfl rfl
            refine r_jmp (t := 179) dX12_behind_119 rfl ?_ ?_
            · have h23 := sw_lo (v := a3.toInt) 0
              have h23 := sw_st h23 h18
              have h23 := sw_st h23 h19
              have h23 := sw_st h23 h20
              have h23 := sw_st h23 h21
              exact sw_df h23 (by decide) rfl
            refine r_aload_n (x := 60) dX12_behind_179 rfl ?_
            refine r_getI dX12_behind_180 (ff_12_332_60 hE) (by decide) ?_
            exact r_ireturn dX12_behind_183 rfl rfl
          · refine r_aload_n (x := 60) dX12_behind_47 rfl ?_
            refine r_iload_n (x := a2) dX12_behind_48 rfl ?_
            refine r_calli (k := 0) (idx := 278) (y := 234) (as := [.ref 60, .int a2]) (rest := []) (L0 := [(0, .ref 60), (1, .int a2)]) dX12_behind_49 rfl rfl rfl rfl rfl (vok_v (ob_60 hE) rfl) rfl (r_dep (by decide) (e_X12_rowFault hE q a2)) (fun r24 => ?_)
            exact r_ireturn dX12_behind_52 rfl rfl
        · refine r_aload_n (x := 60) dX12_behind_33 rfl ?_
          refine r_iload_n (x := a1) dX12_behind_34 rfl ?_
          refine r_calli (k := 0) (idx := 278) (y := 234) (as := [.ref 60, .int a1]) (rest := []) (L0 := [(0, .ref 60), (1, .int a1)]) dX12_behind_35 rfl rfl rfl rfl rfl (vok_v (ob_60 hE) rfl) rfl (r_dep (by decide) (e_X12_rowFault hE q a1)) (fun r26 => ?_)
          exact r_ireturn dX12_behind_38 rfl rfl
def b_X8_realsOf_41 (rec_4 : Int32 → Int32 → Int32 → Option Int32) (q : SS) (l1 : Int32) (l3 : Int32) (s0 : Int32) (s1 : Int32) : Option Int32 :=
  nm (s1 + s0) fun v4 =>
  rec_4 l1 v4 (l3 + (1 : Int32))
theorem rb_X8_realsOf_41 {E : EE} (hE : GE E) {q : SS} {rec_4 : Int32 → Int32 → Int32 → Option Int32} (hrec_4 : ∀ (yl1 : Int32) (yl2 : Int32) (yl3 : Int32), R E (κi E q) 3 101 4 [(0, .ref 24), (1, .int yl1), (2, .int yl2), (3, .int yl3)] [] q (rec_4 yl1 yl2 yl3)) (l1 : Int32) (l3 : Int32) (s0 : Int32) (s1 : Int32) : R E (κi E q) 3 101 41 [(0, .ref 24), (1, .int l1), (3, .int l3)] [.int s0, .int s1] q (b_X8_realsOf_41 rec_4 q l1 l3 s0 s1) := by
  unfold b_X8_realsOf_41
  refine r_iadd dX8_realsOf_41 ?_
  refine r_nmI fun v4 _ => ?_
  refine r_istore_n (L2 := [(0, .ref 24), (1, .int l1), (2, .int v4), (3, .int l3)]) dX8_realsOf_42 rfl rfl ?_
  refine r_iinc (x := l3) (v := (l3 + (1 : Int32))) (L2 := [(0, .ref 24), (1, .int l1), (2, .int v4), (3, .int (l3 + (1 : Int32)))]) dX8_realsOf_43 rfl rfl rfl rfl ?_
  refine r_goto (t := 4) dX8_realsOf_46 rfl ?_
  exact r_sub (L' := [(0, .ref 24), (1, .int l1), (2, .int v4), (3, .int (l3 + (1 : Int32)))]) (sub_c rfl (sub_c rfl (sub_c rfl (sub_c rfl sub_n)))) (hrec_4 l1 v4 (l3 + (1 : Int32)))
def b_X8_realsOf_40 (rec_4 : Int32 → Int32 → Int32 → Option Int32) (q : SS) (l1 : Int32) (l3 : Int32) (s0 : Int32) : Option Int32 :=
  b_X8_realsOf_41 rec_4 q l1 l3 (0 : Int32) s0
theorem rb_X8_realsOf_40 {E : EE} (hE : GE E) {q : SS} {rec_4 : Int32 → Int32 → Int32 → Option Int32} (hrec_4 : ∀ (yl1 : Int32) (yl2 : Int32) (yl3 : Int32), R E (κi E q) 3 101 4 [(0, .ref 24), (1, .int yl1), (2, .int yl2), (3, .int yl3)] [] q (rec_4 yl1 yl2 yl3)) (l1 : Int32) (l3 : Int32) (s0 : Int32) : R E (κi E q) 3 101 40 [(0, .ref 24), (1, .int l1), (3, .int l3)] [.int s0] q (b_X8_realsOf_40 rec_4 q l1 l3 s0) := by
  unfold b_X8_realsOf_40
  refine r_iconst (v := (0 : Int32)) dX8_realsOf_40 rfl ?_
  exact r_sub (L' := [(0, .ref 24), (1, .int l1), (3, .int l3)]) (sub_c rfl (sub_c rfl (sub_c rfl sub_n))) (rb_X8_realsOf_41 hE hrec_4 l1 l3 (0 : Int32) s0)
def b_X8_realsOf_4 (q : SS) : Int32 → Int32 → Int32 → Option Int32 :=
  fx3 (fun (rec_4 : Int32 → Int32 → Int32 → Option Int32) (l1 : Int32) (l2 : Int32) (l3 : Int32) =>
  (f_X10_tickets q).bind fun r1 =>
  if r1 ≤ l3 then
  (some l2)
  else
  ((f_X8_holderOf q l3).bind fun r2 =>
  if r2 = l1 then
  ((f_X10_isReal q l3).bind fun r3 =>
  if r3 = 0 then
  (b_X8_realsOf_40 rec_4 q l1 l3 l2)
  else
  (b_X8_realsOf_41 rec_4 q l1 l3 (1 : Int32) l2))
  else
  (b_X8_realsOf_40 rec_4 q l1 l3 l2))) FU
theorem rb_X8_realsOf_4 {E : EE} (hE : GE E) (q : SS) (l1 : Int32) (l2 : Int32) (l3 : Int32) : R E (κi E q) 3 101 4 [(0, .ref 24), (1, .int l1), (2, .int l2), (3, .int l3)] [] q (b_X8_realsOf_4 q l1 l2 l3) := by
  unfold b_X8_realsOf_4
  refine fx3_ok (P := fun l1 l2 l3 o => R E (κi E q) 3 101 4 [(0, .ref 24), (1, .int l1), (2, .int l2), (3, .int l3)] [] q o) (fun _ _ _ => r_no) (fun rec_4 hrec_4 l1 l2 l3 => ?_) _ _ _ _
  refine r_iload_n (x := l3) dX8_realsOf_4 rfl ?_
  refine r_aload_n (x := 24) dX8_realsOf_5 rfl ?_
  refine r_getA dX8_realsOf_6 (fa_8_9_24 hE) ?_
  refine r_calli (k := 0) (idx := 33) (y := 126) (as := [.ref 1]) (rest := [.int l3]) (L0 := [(0, .ref 1)]) dX8_realsOf_9 rfl rfl rfl rfl rfl (vok_v (ob_1 hE) rfl) rfl (r_dep (by decide) (e_X10_tickets hE q)) (fun r1 => ?_)
  refine r_icmp_ge (t := 49) dX8_realsOf_12 rfl (fun h7 => ?_) (fun h7 => ?_)
  · refine r_iload_n (x := l2) dX8_realsOf_49 rfl ?_
    exact r_ireturn dX8_realsOf_50 rfl rfl
  · refine r_iload_n (x := l2) dX8_realsOf_15 rfl ?_
    refine r_aload_n (x := 24) dX8_realsOf_16 rfl ?_
    refine r_iload_n (x := l3) dX8_realsOf_17 rfl ?_
    refine r_calli (k := 0) (idx := 37) (y := 98) (as := [.ref 24, .int l3]) (rest := [.int l2]) (L0 := [(0, .ref 24), (1, .int l3)]) dX8_realsOf_18 rfl rfl rfl rfl rfl (vok_v (ob_24 hE) rfl) rfl (r_dep (by decide) (e_X8_holderOf hE q l3)) (fun r2 => ?_)
    refine r_iload_n (x := l1) dX8_realsOf_21 rfl ?_
    refine r_icmp_ne (t := 40) dX8_realsOf_22 rfl (fun h6 => ?_) (fun h6 => ?_)
    · refine r_aload_n (x := 24) dX8_realsOf_25 rfl ?_
      refine r_getA dX8_realsOf_26 (fa_8_9_24 hE) ?_
      refine r_iload_n (x := l3) dX8_realsOf_29 rfl ?_
      refine r_calli (k := 0) (idx := 41) (y := 131) (as := [.ref 1, .int l3]) (rest := [.int l2]) (L0 := [(0, .ref 1), (1, .int l3)]) dX8_realsOf_30 rfl rfl rfl rfl rfl (vok_v (ob_1 hE) rfl) rfl (r_dep (by decide) (e_X10_isReal hE q l3)) (fun r3 => ?_)
      refine r_if_eq (t := 40) dX8_realsOf_33 rfl (fun h5 => ?_) (fun h5 => ?_)
      · exact r_sub (L' := [(0, .ref 24), (1, .int l1), (3, .int l3)]) (sub_c rfl (sub_c rfl (sub_c rfl sub_n))) (rb_X8_realsOf_40 hE hrec_4 l1 l3 l2)
      · refine r_iconst (v := (1 : Int32)) dX8_realsOf_36 rfl ?_
        refine r_goto (t := 41) dX8_realsOf_37 rfl ?_
        exact r_sub (L' := [(0, .ref 24), (1, .int l1), (3, .int l3)]) (sub_c rfl (sub_c rfl (sub_c rfl sub_n))) (rb_X8_realsOf_41 hE hrec_4 l1 l3 (1 : Int32) l2)
    · exact r_sub (L' := [(0, .ref 24), (1, .int l1), (3, .int l3)]) (sub_c rfl (sub_c rfl (sub_c rfl sub_n))) (rb_X8_realsOf_40 hE hrec_4 l1 l3 l2)
def f_X8_realsOf (q : SS) (a1 : Int32) : Option Int32 :=
  b_X8_realsOf_4 q a1 (0 : Int32) (0 : Int32)
theorem e_X8_realsOf {E : EE} (hE : GE E) (q : SS) (a1 : Int32) : R E (κi E q) 3 101 0 [(0, .ref 24), (1, .int a1)] [] q (f_X8_realsOf q a1) := by
  unfold f_X8_realsOf
  refine r_iconst (v := (0 : Int32)) dX8_realsOf_0 rfl ?_
  refine r_istore_n (L2 := [(0, .ref 24), (1, .int a1), (2, .int (0 : Int32))]) dX8_realsOf_1 rfl rfl ?_
  refine r_iconst (v := (0 : Int32)) dX8_realsOf_2 rfl ?_
  refine r_istore_n (L2 := [(0, .ref 24), (1, .int a1), (2, .int (0 : Int32)), (3, .int (0 : Int32))]) dX8_realsOf_3 rfl rfl ?_
  exact r_sub (L' := [(0, .ref 24), (1, .int a1), (2, .int (0 : Int32)), (3, .int (0 : Int32))]) (sub_c rfl (sub_c rfl (sub_c rfl (sub_c rfl sub_n)))) (rb_X8_realsOf_4 hE q a1 (0 : Int32) (0 : Int32))
def b_X11_realsOfSet_36 (rec_5 : Int32 → Int32 → Int32 → Option Int32) (q : SS) (l2 : Int32) (l3 : Int32) (l4 : Int32) : Option Int32 :=
  rec_5 l2 l3 (l4 + (1 : Int32))
theorem rb_X11_realsOfSet_36 {E : EE} (hE : GE E) {q : SS} {rec_5 : Int32 → Int32 → Int32 → Option Int32} (hrec_5 : ∀ (yl2 : Int32) (yl3 : Int32) (yl4 : Int32), R E (κi E q) 4 166 5 [(0, .ref 0), (1, .ref 24), (2, .int yl2), (3, .int yl3), (4, .int yl4)] [] q (rec_5 yl2 yl3 yl4)) (l2 : Int32) (l3 : Int32) (l4 : Int32) : R E (κi E q) 4 166 36 [(0, .ref 0), (1, .ref 24), (2, .int l2), (3, .int l3), (4, .int l4)] [] q (b_X11_realsOfSet_36 rec_5 q l2 l3 l4) := by
  unfold b_X11_realsOfSet_36
  refine r_iinc (x := l4) (v := (l4 + (1 : Int32))) (L2 := [(0, .ref 0), (1, .ref 24), (2, .int l2), (3, .int l3), (4, .int (l4 + (1 : Int32)))]) dX11_realsOfSet_36 rfl rfl rfl rfl ?_
  refine r_goto (t := 5) dX11_realsOfSet_39 rfl ?_
  exact r_sub (L' := [(0, .ref 0), (1, .ref 24), (2, .int l2), (3, .int l3), (4, .int (l4 + (1 : Int32)))]) (sub_c rfl (sub_c rfl (sub_c rfl (sub_c rfl (sub_c rfl sub_n))))) (hrec_5 l2 l3 (l4 + (1 : Int32)))
def b_X11_realsOfSet_5 (q : SS) : Int32 → Int32 → Int32 → Option Int32 :=
  fx3 (fun (rec_5 : Int32 → Int32 → Int32 → Option Int32) (l2 : Int32) (l3 : Int32) (l4 : Int32) =>
  (f_X10_people q).bind fun r1 =>
  if r1 ≤ l4 then
  (some l3)
  else
  (if ((jshr l2 l4) &&& (1 : Int32)) = (1 : Int32) then
  ((f_X8_realsOf q l4).bind fun r2 =>
  nm (l3 + r2) fun v3 =>
  b_X11_realsOfSet_36 rec_5 q l2 v3 l4)
  else
  (b_X11_realsOfSet_36 rec_5 q l2 l3 l4))) FU
theorem rb_X11_realsOfSet_5 {E : EE} (hE : GE E) (q : SS) (l2 : Int32) (l3 : Int32) (l4 : Int32) : R E (κi E q) 4 166 5 [(0, .ref 0), (1, .ref 24), (2, .int l2), (3, .int l3), (4, .int l4)] [] q (b_X11_realsOfSet_5 q l2 l3 l4) := by
  unfold b_X11_realsOfSet_5
  refine fx3_ok (P := fun l2 l3 l4 o => R E (κi E q) 4 166 5 [(0, .ref 0), (1, .ref 24), (2, .int l2), (3, .int l3), (4, .int l4)] [] q o) (fun _ _ _ => r_no) (fun rec_5 hrec_5 l2 l3 l4 => ?_) _ _ _ _
  refine r_iload (x := l4) dX11_realsOfSet_5 rfl ?_
  refine r_aload_n (x := 0) dX11_realsOfSet_7 rfl ?_
  refine r_getA dX11_realsOfSet_8 (fa_11_10_0 hE) ?_
  refine r_calli (k := 0) (idx := 226) (y := 125) (as := [.ref 1]) (rest := [.int l4]) (L0 := [(0, .ref 1)]) dX11_realsOfSet_11 rfl rfl rfl rfl rfl (vok_v (ob_1 hE) rfl) rfl (r_dep (by decide) (e_X10_people hE q)) (fun r1 => ?_)
  refine r_icmp_ge (t := 42) dX11_realsOfSet_14 rfl (fun h5 => ?_) (fun h5 => ?_)
  · refine r_iload_n (x := l3) dX11_realsOfSet_42 rfl ?_
    exact r_ireturn dX11_realsOfSet_43 rfl rfl
  · refine r_iload_n (x := l2) dX11_realsOfSet_17 rfl ?_
    refine r_iload (x := l4) dX11_realsOfSet_18 rfl ?_
    refine r_ishr dX11_realsOfSet_20 ?_
    refine r_iconst (v := (1 : Int32)) dX11_realsOfSet_21 rfl ?_
    refine r_iand dX11_realsOfSet_22 ?_
    refine r_iconst (v := (1 : Int32)) dX11_realsOfSet_23 rfl ?_
    refine r_icmp_ne (t := 36) dX11_realsOfSet_24 rfl (fun h4 => ?_) (fun h4 => ?_)
    · refine r_iload_n (x := l3) dX11_realsOfSet_27 rfl ?_
      refine r_aload_n (x := 24) dX11_realsOfSet_28 rfl ?_
      refine r_iload (x := l4) dX11_realsOfSet_29 rfl ?_
      refine r_calli (k := 0) (idx := 150) (y := 101) (as := [.ref 24, .int l4]) (rest := [.int l3]) (L0 := [(0, .ref 24), (1, .int l4)]) dX11_realsOfSet_31 rfl rfl rfl rfl rfl (vok_v (ob_24 hE) rfl) rfl (r_dep (by decide) (e_X8_realsOf hE q l4)) (fun r2 => ?_)
      refine r_iadd dX11_realsOfSet_34 ?_
      refine r_nmI fun v3 _ => ?_
      refine r_istore_n (L2 := [(0, .ref 0), (1, .ref 24), (2, .int l2), (3, .int v3), (4, .int l4)]) dX11_realsOfSet_35 rfl rfl ?_
      exact r_sub (L' := [(0, .ref 0), (1, .ref 24), (2, .int l2), (3, .int v3), (4, .int l4)]) (sub_c rfl (sub_c rfl (sub_c rfl (sub_c rfl (sub_c rfl sub_n))))) (rb_X11_realsOfSet_36 hE hrec_5 l2 v3 l4)
    · exact r_sub (L' := [(0, .ref 0), (1, .ref 24), (2, .int l2), (3, .int l3), (4, .int l4)]) (sub_c rfl (sub_c rfl (sub_c rfl (sub_c rfl (sub_c rfl sub_n))))) (rb_X11_realsOfSet_36 hE hrec_5 l2 l3 l4)
def f_X11_realsOfSet (q : SS) (a2 : Int32) : Option Int32 :=
  b_X11_realsOfSet_5 q a2 (0 : Int32) (0 : Int32)
theorem e_X11_realsOfSet {E : EE} (hE : GE E) (q : SS) (a2 : Int32) : R E (κi E q) 4 166 0 [(0, .ref 0), (1, .ref 24), (2, .int a2)] [] q (f_X11_realsOfSet q a2) := by
  unfold f_X11_realsOfSet
  refine r_iconst (v := (0 : Int32)) dX11_realsOfSet_0 rfl ?_
  refine r_istore_n (L2 := [(0, .ref 0), (1, .ref 24), (2, .int a2), (3, .int (0 : Int32))]) dX11_realsOfSet_1 rfl rfl ?_
  refine r_iconst (v := (0 : Int32)) dX11_realsOfSet_2 rfl ?_
  refine r_istore (L2 := [(0, .ref 0), (1, .ref 24), (2, .int a2), (3, .int (0 : Int32)), (4, .int (0 : Int32))]) dX11_realsOfSet_3 rfl rfl ?_
  exact r_sub (L' := [(0, .ref 0), (1, .ref 24), (2, .int a2), (3, .int (0 : Int32)), (4, .int (0 : Int32))]) (sub_c rfl (sub_c rfl (sub_c rfl (sub_c rfl (sub_c rfl sub_n))))) (rb_X11_realsOfSet_5 hE q a2 (0 : Int32) (0 : Int32))
def b_X11_half_75 (rec_27 : SS → Int32 → Int32 → Int32 → Int32 → Option (Int32 × SS)) (q : SS) (l2 : Int32) (l3 : Int32) (l4 : Int32) (l5 : Int32) : Option (Int32 × SS) :=
  rec_27 q l2 l3 l4 (l5 + (1 : Int32))
theorem rb_X11_half_75 {E : EE} (hE : GE E) {rec_27 : SS → Int32 → Int32 → Int32 → Int32 → Option (Int32 × SS)} (hrec_27 : ∀ (yq : SS) (yl2 : Int32) (yl3 : Int32) (yl4 : Int32) (yl5 : Int32), R E (κI E) 5 165 27 [(0, .ref 0), (1, .ref 24), (2, .int yl2), (3, .int yl3), (4, .int yl4), (5, .int yl5)] [] yq (rec_27 yq yl2 yl3 yl4 yl5)) (q : SS) (l2 : Int32) (l3 : Int32) (l4 : Int32) (l5 : Int32) : R E (κI E) 5 165 75 [(0, .ref 0), (1, .ref 24), (2, .int l2), (3, .int l3), (4, .int l4), (5, .int l5)] [] q (b_X11_half_75 rec_27 q l2 l3 l4 l5) := by
  unfold b_X11_half_75
  refine r_iinc (x := l5) (v := (l5 + (1 : Int32))) (L2 := [(0, .ref 0), (1, .ref 24), (2, .int l2), (3, .int l3), (4, .int l4), (5, .int (l5 + (1 : Int32)))]) dX11_half_75 rfl rfl rfl rfl ?_
  refine r_goto (t := 27) dX11_half_78 rfl ?_
  exact r_sub (L' := [(0, .ref 0), (1, .ref 24), (2, .int l2), (3, .int l3), (4, .int l4), (5, .int (l5 + (1 : Int32)))]) (sub_c rfl (sub_c rfl (sub_c rfl (sub_c rfl (sub_c rfl (sub_c rfl sub_n)))))) (hrec_27 q l2 l3 l4 (l5 + (1 : Int32)))
def b_X11_half_27 : SS → Int32 → Int32 → Int32 → Int32 → Option (Int32 × SS) :=
  fx5 (fun (rec_27 : SS → Int32 → Int32 → Int32 → Int32 → Option (Int32 × SS)) (q : SS) (l2 : Int32) (l3 : Int32) (l4 : Int32) (l5 : Int32) =>
  (f_X10_people q).bind fun r3 =>
  if (jshl (1 : Int32) r3) ≤ l5 then
  (some (l3, q))
  else
  ((f_J6_bitCount_0f7a4 q l5).bind fun r4 =>
  if l4 ≤ r4 then
  (b_X11_half_75 rec_27 q l2 l3 l4 l5)
  else
  ((f_X11_realsOfSet q l5).bind fun r5 =>
  if ((2 : Int32) * r5) < l2 then
  (b_X11_half_75 rec_27 q l2 l3 l4 l5)
  else
  (b_X11_half_75 rec_27 q l2 l5 r4 l5)))) FU
theorem rb_X11_half_27 {E : EE} (hE : GE E) (q : SS) (l2 : Int32) (l3 : Int32) (l4 : Int32) (l5 : Int32) : R E (κI E) 5 165 27 [(0, .ref 0), (1, .ref 24), (2, .int l2), (3, .int l3), (4, .int l4), (5, .int l5)] [] q (b_X11_half_27 q l2 l3 l4 l5) := by
  unfold b_X11_half_27
  refine fx5_ok (P := fun q l2 l3 l4 l5 o => R E (κI E) 5 165 27 [(0, .ref 0), (1, .ref 24), (2, .int l2), (3, .int l3), (4, .int l4), (5, .int l5)] [] q o) (fun _ _ _ _ _ => r_no) (fun rec_27 hrec_27 q l2 l3 l4 l5 => ?_) _ _ _ _ _ _
  refine r_iload (x := l5) dX11_half_27 rfl ?_
  refine r_iconst (v := (1 : Int32)) dX11_half_29 rfl ?_
  refine r_aload_n (x := 0) dX11_half_30 rfl ?_
  refine r_getA dX11_half_31 (fa_11_10_0 hE) ?_
  refine r_calli (k := 0) (idx := 226) (y := 125) (as := [.ref 1]) (rest := [.int (1 : Int32), .int l5]) (L0 := [(0, .ref 1)]) dX11_half_34 rfl rfl rfl rfl rfl (vok_v (ob_1 hE) rfl) rfl (r_dep (by decide) (e_X10_people hE q)) (fun r3 => ?_)
  refine r_ishl dX11_half_37 ?_
  refine r_icmp_ge (t := 81) dX11_half_38 rfl (fun h8 => ?_) (fun h8 => ?_)
  · refine r_iload_n (x := l3) dX11_half_81 rfl ?_
    exact r_ireturn dX11_half_82 rfl rfl
  · refine r_iload (x := l5) dX11_half_41 rfl ?_
    refine r_calli (k := 2) (idx := 264) (y := 296) (as := [.int l5]) (rest := []) (L0 := [(0, .int l5)]) dX11_half_43 rfl rfl rfl rfl rfl vok_s rfl (r_dep (by decide) (e_J6_bitCount_0f7a4 hE q l5)) (fun r4 => ?_)
    refine r_istore (L2 := [(0, .ref 0), (1, .ref 24), (2, .int l2), (3, .int l3), (4, .int l4), (5, .int l5), (6, .int r4)]) dX11_half_46 rfl rfl ?_
    refine r_iload (x := r4) dX11_half_48 rfl ?_
    refine r_iload (x := l4) dX11_half_50 rfl ?_
    refine r_icmp_ge (t := 75) dX11_half_52 rfl (fun h7 => ?_) (fun h7 => ?_)
    · exact r_sub (L' := [(0, .ref 0), (1, .ref 24), (2, .int l2), (3, .int l3), (4, .int l4), (5, .int l5)]) (sub_c rfl (sub_c rfl (sub_c rfl (sub_c rfl (sub_c rfl (sub_c rfl sub_n)))))) (rb_X11_half_75 hE hrec_27 q l2 l3 l4 l5)
    · refine r_iconst (v := (2 : Int32)) dX11_half_55 rfl ?_
      refine r_aload_n (x := 0) dX11_half_56 rfl ?_
      refine r_aload_n (x := 24) dX11_half_57 rfl ?_
      refine r_iload (x := l5) dX11_half_58 rfl ?_
      refine r_calli (k := 0) (idx := 269) (y := 166) (as := [.ref 0, .ref 24, .int l5]) (rest := [.int (2 : Int32)]) (L0 := [(0, .ref 0), (1, .ref 24), (2, .int l5)]) dX11_half_60 rfl rfl rfl rfl rfl (vok_v (ob_0 hE) rfl) rfl (r_dep (by decide) (e_X11_realsOfSet hE q l5)) (fun r5 => ?_)
      refine r_imul dX11_half_63 ?_
      refine r_iload_n (x := l2) dX11_half_64 rfl ?_
      refine r_icmp_lt (t := 75) dX11_half_65 rfl (fun h6 => ?_) (fun h6 => ?_)
      · exact r_sub (L' := [(0, .ref 0), (1, .ref 24), (2, .int l2), (3, .int l3), (4, .int l4), (5, .int l5)]) (sub_c rfl (sub_c rfl (sub_c rfl (sub_c rfl (sub_c rfl (sub_c rfl sub_n)))))) (rb_X11_half_75 hE hrec_27 q l2 l3 l4 l5)
      · refine r_iload (x := r4) dX11_half_68 rfl ?_
        refine r_istore (L2 := [(0, .ref 0), (1, .ref 24), (2, .int l2), (3, .int l3), (4, .int r4), (5, .int l5), (6, .int r4)]) dX11_half_70 rfl rfl ?_
        refine r_iload (x := l5) dX11_half_72 rfl ?_
        refine r_istore_n (L2 := [(0, .ref 0), (1, .ref 24), (2, .int l2), (3, .int l5), (4, .int r4), (5, .int l5), (6, .int r4)]) dX11_half_74 rfl rfl ?_
        exact r_sub (L' := [(0, .ref 0), (1, .ref 24), (2, .int l2), (3, .int l5), (4, .int r4), (5, .int l5)]) (sub_c rfl (sub_c rfl (sub_c rfl (sub_c rfl (sub_c rfl (sub_c rfl sub_n)))))) (rb_X11_half_75 hE hrec_27 q l2 l5 r4 l5)
def f_X11_half (q : SS)  : Option (Int32 × SS) :=
  (f_X11_now q).bind fun r1 =>
  (f_X8_reals r1).bind fun r2 =>
  if r2 = 0 then
  (some ((-2 : Int32), r1))
  else
  (b_X11_half_27 r1 r2 (-2 : Int32) (7 : Int32) (0 : Int32))
theorem e_X11_half {E : EE} (hE : GE E) (q : SS)  : R E (κI E) 5 165 0 [(0, .ref 0)] [] q (f_X11_half q) := by
  unfold f_X11_half
  refine r_aload_n (x := 0) dX11_half_0 rfl ?_
  refine r_callA (k := 0) (idx := 143) (y := 148) (as := [.ref 0]) (rest := []) (L0 := [(0, .ref 0)]) dX11_half_1 rfl rfl rfl rfl rfl (vok_v (ob_0 hE) rfl) rfl (r_dep (by decide) (e_X11_now hE q)) (fun r1 => ?_)
  refine r_astore_n (L2 := [(0, .ref 0), (1, .ref 24)]) dX11_half_4 rfl rfl ?_
  refine r_aload_n (x := 24) dX11_half_5 rfl ?_
  refine r_calli (k := 0) (idx := 223) (y := 102) (as := [.ref 24]) (rest := []) (L0 := [(0, .ref 24)]) dX11_half_6 rfl rfl rfl rfl rfl (vok_v (ob_24 hE) rfl) rfl (r_dep (by decide) (e_X8_reals hE r1)) (fun r2 => ?_)
  refine r_istore_n (L2 := [(0, .ref 0), (1, .ref 24), (2, .int r2)]) dX11_half_9 rfl rfl ?_
  refine r_iload_n (x := r2) dX11_half_10 rfl ?_
  refine r_if_ne (t := 17) dX11_half_11 rfl (fun h9 => ?_) (fun h9 => ?_)
  · refine r_bipush (v := (-2 : Int32)) dX11_half_14 rfl ?_
    exact r_ireturn dX11_half_16 rfl rfl
  · refine r_bipush (v := (-2 : Int32)) dX11_half_17 rfl ?_
    refine r_istore_n (L2 := [(0, .ref 0), (1, .ref 24), (2, .int r2), (3, .int (-2 : Int32))]) dX11_half_19 rfl rfl ?_
    refine r_bipush (v := (7 : Int32)) dX11_half_20 rfl ?_
    refine r_istore (L2 := [(0, .ref 0), (1, .ref 24), (2, .int r2), (3, .int (-2 : Int32)), (4, .int (7 : Int32))]) dX11_half_22 rfl rfl ?_
    refine r_iconst (v := (0 : Int32)) dX11_half_24 rfl ?_
    refine r_istore (L2 := [(0, .ref 0), (1, .ref 24), (2, .int r2), (3, .int (-2 : Int32)), (4, .int (7 : Int32)), (5, .int (0 : Int32))]) dX11_half_25 rfl rfl ?_
    exact r_sub (L' := [(0, .ref 0), (1, .ref 24), (2, .int r2), (3, .int (-2 : Int32)), (4, .int (7 : Int32)), (5, .int (0 : Int32))]) (sub_c rfl (sub_c rfl (sub_c rfl (sub_c rfl (sub_c rfl (sub_c rfl sub_n)))))) (rb_X11_half_27 hE r1 r2 (-2 : Int32) (7 : Int32) (0 : Int32))
def b_X12_realOf_34 (rec_4 : Int32 → Int32 → Int32 → Option Int32) (q : SS) (l1 : Int32) (l2 : Int32) (l3 : Int32) : Option Int32 :=
  rec_4 l1 l2 (l3 + (1 : Int32))
theorem rb_X12_realOf_34 {E : EE} (hE : GE E) {q : SS} {rec_4 : Int32 → Int32 → Int32 → Option Int32} (hrec_4 : ∀ (yl1 : Int32) (yl2 : Int32) (yl3 : Int32), R E (κi E q) 0 228 4 [(0, .ref 60), (1, .int yl1), (2, .int yl2), (3, .int yl3)] [] q (rec_4 yl1 yl2 yl3)) (l1 : Int32) (l2 : Int32) (l3 : Int32) : R E (κi E q) 0 228 34 [(0, .ref 60), (1, .int l1), (2, .int l2), (3, .int l3)] [] q (b_X12_realOf_34 rec_4 q l1 l2 l3) := by
  unfold b_X12_realOf_34
  refine r_iinc (x := l3) (v := (l3 + (1 : Int32))) (L2 := [(0, .ref 60), (1, .int l1), (2, .int l2), (3, .int (l3 + (1 : Int32)))]) dX12_realOf_34 rfl rfl rfl rfl ?_
  refine r_goto (t := 4) dX12_realOf_37 rfl ?_
  exact r_sub (L' := [(0, .ref 60), (1, .int l1), (2, .int l2), (3, .int (l3 + (1 : Int32)))]) (sub_c rfl (sub_c rfl (sub_c rfl (sub_c rfl sub_n)))) (hrec_4 l1 l2 (l3 + (1 : Int32)))
def b_X12_realOf_4 (q : SS) : Int32 → Int32 → Int32 → Option Int32 :=
  fx3 (fun (rec_4 : Int32 → Int32 → Int32 → Option Int32) (l1 : Int32) (l2 : Int32) (l3 : Int32) =>
  if (q.1 60 6) ≤ l3 then
  (some l2)
  else
  (if vin l3 12 then
  if (q.1 81 l3.toNatClampNeg) = l1 then
  (if vin l3 12 then
  if (q.1 66 l3.toNatClampNeg) = 0 then
  (b_X12_realOf_34 rec_4 q l1 (l2 + (1 : Int32)) l3)
  else
  (b_X12_realOf_34 rec_4 q l1 l2 l3)
  else none)
  else
  (b_X12_realOf_34 rec_4 q l1 l2 l3)
  else none)) FU
theorem rb_X12_realOf_4 {E : EE} (hE : GE E) (q : SS) (l1 : Int32) (l2 : Int32) (l3 : Int32) : R E (κi E q) 0 228 4 [(0, .ref 60), (1, .int l1), (2, .int l2), (3, .int l3)] [] q (b_X12_realOf_4 q l1 l2 l3) := by
  unfold b_X12_realOf_4
  refine fx3_ok (P := fun l1 l2 l3 o => R E (κi E q) 0 228 4 [(0, .ref 60), (1, .int l1), (2, .int l2), (3, .int l3)] [] q o) (fun _ _ _ => r_no) (fun rec_4 hrec_4 l1 l2 l3 => ?_) _ _ _ _
  refine r_iload_n (x := l3) dX12_realOf_4 rfl ?_
  refine r_aload_n (x := 60) dX12_realOf_5 rfl ?_
  refine r_getI dX12_realOf_6 (ff_12_122_60 hE) (by decide) ?_
  refine r_icmp_ge (t := 40) dX12_realOf_9 rfl (fun h3 => ?_) (fun h3 => ?_)
  · refine r_iload_n (x := l2) dX12_realOf_40 rfl ?_
    exact r_ireturn dX12_realOf_41 rfl rfl
  · refine r_aload_n (x := 60) dX12_realOf_12 rfl ?_
    refine r_getA dX12_realOf_13 (fa_12_74_60 hE) ?_
    refine r_iload_n (x := l3) dX12_realOf_16 rfl ?_
    refine r_iaload dX12_realOf_17 (ar_81 hE) ?_
    refine r_iload_n (x := l1) dX12_realOf_18 rfl ?_
    refine r_icmp_ne (t := 34) dX12_realOf_19 rfl (fun h2 => ?_) (fun h2 => ?_)
    · refine r_aload_n (x := 60) dX12_realOf_22 rfl ?_
      refine r_getA dX12_realOf_23 (fa_12_27_60 hE) ?_
      refine r_iload_n (x := l3) dX12_realOf_26 rfl ?_
      refine r_iaload dX12_realOf_27 (ar_66 hE) ?_
      refine r_if_ne (t := 34) dX12_realOf_28 rfl (fun h1 => ?_) (fun h1 => ?_)
      · refine r_iinc (x := l2) (v := (l2 + (1 : Int32))) (L2 := [(0, .ref 60), (1, .int l1), (2, .int (l2 + (1 : Int32))), (3, .int l3)]) dX12_realOf_31 rfl rfl rfl rfl ?_
        exact r_sub (L' := [(0, .ref 60), (1, .int l1), (2, .int (l2 + (1 : Int32))), (3, .int l3)]) (sub_c rfl (sub_c rfl (sub_c rfl (sub_c rfl sub_n)))) (rb_X12_realOf_34 hE hrec_4 l1 (l2 + (1 : Int32)) l3)
      · exact r_sub (L' := [(0, .ref 60), (1, .int l1), (2, .int l2), (3, .int l3)]) (sub_c rfl (sub_c rfl (sub_c rfl (sub_c rfl sub_n)))) (rb_X12_realOf_34 hE hrec_4 l1 l2 l3)
    · exact r_sub (L' := [(0, .ref 60), (1, .int l1), (2, .int l2), (3, .int l3)]) (sub_c rfl (sub_c rfl (sub_c rfl (sub_c rfl sub_n)))) (rb_X12_realOf_34 hE hrec_4 l1 l2 l3)
def f_X12_realOf (q : SS) (a1 : Int32) : Option Int32 :=
  b_X12_realOf_4 q a1 (0 : Int32) (0 : Int32)
theorem e_X12_realOf {E : EE} (hE : GE E) (q : SS) (a1 : Int32) : R E (κi E q) 0 228 0 [(0, .ref 60), (1, .int a1)] [] q (f_X12_realOf q a1) := by
  unfold f_X12_realOf
  refine r_iconst (v := (0 : Int32)) dX12_realOf_0 rfl ?_
  refine r_istore_n (L2 := [(0, .ref 60), (1, .int a1), (2, .int (0 : Int32))]) dX12_realOf_1 rfl rfl ?_
  refine r_iconst (v := (0 : Int32)) dX12_realOf_2 rfl ?_
  refine r_istore_n (L2 := [(0, .ref 60), (1, .int a1), (2, .int (0 : Int32)), (3, .int (0 : Int32))]) dX12_realOf_3 rfl rfl ?_
  exact r_sub (L' := [(0, .ref 60), (1, .int a1), (2, .int (0 : Int32)), (3, .int (0 : Int32))]) (sub_c rfl (sub_c rfl (sub_c rfl (sub_c rfl sub_n)))) (rb_X12_realOf_4 hE q a1 (0 : Int32) (0 : Int32))
def b_X12_half_95 (rec_14 : SS → Int32 → Int32 → Int32 → Option (Int32 × SS)) (q : SS) (l1 : Int32) (l2 : Int32) (l3 : Int32) : Option (Int32 × SS) :=
  rec_14 q l1 l2 (l3 + (1 : Int32))
theorem rb_X12_half_95 {E : EE} (hE : GE E) {rec_14 : SS → Int32 → Int32 → Int32 → Option (Int32 × SS)} (hrec_14 : ∀ (yq : SS) (yl1 : Int32) (yl2 : Int32) (yl3 : Int32), R E (κI E) 1 257 14 [(0, .ref 60), (1, .int yl1), (2, .int yl2), (3, .int yl3)] [] yq (rec_14 yq yl1 yl2 yl3)) (q : SS) (l1 : Int32) (l2 : Int32) (l3 : Int32) : R E (κI E) 1 257 95 [(0, .ref 60), (1, .int l1), (2, .int l2), (3, .int l3)] [] q (b_X12_half_95 rec_14 q l1 l2 l3) := by
  unfold b_X12_half_95
  refine r_iinc (x := l3) (v := (l3 + (1 : Int32))) (L2 := [(0, .ref 60), (1, .int l1), (2, .int l2), (3, .int (l3 + (1 : Int32)))]) dX12_half_95 rfl rfl rfl rfl ?_
  refine r_goto (t := 14) dX12_half_98 rfl ?_
  exact r_sub (L' := [(0, .ref 60), (1, .int l1), (2, .int l2), (3, .int (l3 + (1 : Int32)))]) (sub_c rfl (sub_c rfl (sub_c rfl (sub_c rfl sub_n)))) (hrec_14 q l1 l2 (l3 + (1 : Int32)))
def b_X12_half_93 (rec_14 : SS → Int32 → Int32 → Int32 → Option (Int32 × SS)) (q : SS) (l1 : Int32) (l3 : Int32) : Option (Int32 × SS) :=
  b_X12_half_95 rec_14 q l1 l3 l3
theorem rb_X12_half_93 {E : EE} (hE : GE E) {rec_14 : SS → Int32 → Int32 → Int32 → Option (Int32 × SS)} (hrec_14 : ∀ (yq : SS) (yl1 : Int32) (yl2 : Int32) (yl3 : Int32), R E (κI E) 1 257 14 [(0, .ref 60), (1, .int yl1), (2, .int yl2), (3, .int yl3)] [] yq (rec_14 yq yl1 yl2 yl3)) (q : SS) (l1 : Int32) (l3 : Int32) : R E (κI E) 1 257 93 [(0, .ref 60), (1, .int l1), (3, .int l3)] [] q (b_X12_half_93 rec_14 q l1 l3) := by
  unfold b_X12_half_93
  refine r_iload_n (x := l3) dX12_half_93 rfl ?_
  refine r_istore_n (L2 := [(0, .ref 60), (1, .int l1), (2, .int l3), (3, .int l3)]) dX12_half_94 rfl rfl ?_
  exact r_sub (L' := [(0, .ref 60), (1, .int l1), (2, .int l3), (3, .int l3)]) (sub_c rfl (sub_c rfl (sub_c rfl (sub_c rfl sub_n)))) (rb_X12_half_95 hE hrec_14 q l1 l3 l3)
def b_X12_half_64 (rec_14 : SS → Int32 → Int32 → Int32 → Option (Int32 × SS)) (rec_34 : SS → Int32 → Int32 → Int32 → Int32 → Int32 → Option (Int32 × SS)) (q : SS) (l1 : Int32) (l2 : Int32) (l3 : Int32) (l4 : Int32) (l5 : Int32) : Option (Int32 × SS) :=
  rec_34 q l1 l2 l3 l4 (l5 + (1 : Int32))
theorem rb_X12_half_64 {E : EE} (hE : GE E) {rec_14 : SS → Int32 → Int32 → Int32 → Option (Int32 × SS)} (hrec_14 : ∀ (yq : SS) (yl1 : Int32) (yl2 : Int32) (yl3 : Int32), R E (κI E) 1 257 14 [(0, .ref 60), (1, .int yl1), (2, .int yl2), (3, .int yl3)] [] yq (rec_14 yq yl1 yl2 yl3)) {rec_34 : SS → Int32 → Int32 → Int32 → Int32 → Int32 → Option (Int32 × SS)} (hrec_34 : ∀ (yq : SS) (yl1 : Int32) (yl2 : Int32) (yl3 : Int32) (yl4 : Int32) (yl5 : Int32), R E (κI E) 1 257 34 [(0, .ref 60), (1, .int yl1), (2, .int yl2), (3, .int yl3), (4, .int yl4), (5, .int yl5)] [] yq (rec_34 yq yl1 yl2 yl3 yl4 yl5)) (q : SS) (l1 : Int32) (l2 : Int32) (l3 : Int32) (l4 : Int32) (l5 : Int32) : R E (κI E) 1 257 64 [(0, .ref 60), (1, .int l1), (2, .int l2), (3, .int l3), (4, .int l4), (5, .int l5)] [] q (b_X12_half_64 rec_14 rec_34 q l1 l2 l3 l4 l5) := by
  unfold b_X12_half_64
  refine r_iinc (x := l5) (v := (l5 + (1 : Int32))) (L2 := [(0, .ref 60), (1, .int l1), (2, .int l2), (3, .int l3), (4, .int l4), (5, .int (l5 + (1 : Int32)))]) dX12_half_64 rfl rfl rfl rfl ?_
  refine r_goto (t := 34) dX12_half_67 rfl ?_
  exact r_sub (L' := [(0, .ref 60), (1, .int l1), (2, .int l2), (3, .int l3), (4, .int l4), (5, .int (l5 + (1 : Int32)))]) (sub_c rfl (sub_c rfl (sub_c rfl (sub_c rfl (sub_c rfl (sub_c rfl sub_n)))))) (hrec_34 q l1 l2 l3 l4 (l5 + (1 : Int32)))
def b_X12_half_34 (rec_14 : SS → Int32 → Int32 → Int32 → Option (Int32 × SS)) : SS → Int32 → Int32 → Int32 → Int32 → Int32 → Option (Int32 × SS) :=
  fx6 (fun (rec_34 : SS → Int32 → Int32 → Int32 → Int32 → Int32 → Option (Int32 × SS)) (q : SS) (l1 : Int32) (l2 : Int32) (l3 : Int32) (l4 : Int32) (l5 : Int32) =>
  if (q.1 60 1) ≤ l5 then
  (if ((2 : Int32) * l4) < l1 then
  (b_X12_half_95 rec_14 q l1 l2 l3)
  else
  (if l2 < 0 then
  (b_X12_half_93 rec_14 q l1 l3)
  else
  ((f_X12_bitsOf q l3).bind fun r3 =>
  (f_X12_bitsOf q l2).bind fun r4 =>
  if r4 ≤ r3 then
  (b_X12_half_95 rec_14 q l1 l2 l3)
  else
  (b_X12_half_93 rec_14 q l1 l3))))
  else
  (if ((jshr l3 l5) &&& (1 : Int32)) = (1 : Int32) then
  ((f_X12_realOf q l5).bind fun r8 =>
  nm (l4 + r8) fun v9 =>
  b_X12_half_64 rec_14 rec_34 q l1 l2 l3 v9 l5)
  else
  (b_X12_half_64 rec_14 rec_34 q l1 l2 l3 l4 l5))) FU
theorem rb_X12_half_34 {E : EE} (hE : GE E) {rec_14 : SS → Int32 → Int32 → Int32 → Option (Int32 × SS)} (hrec_14 : ∀ (yq : SS) (yl1 : Int32) (yl2 : Int32) (yl3 : Int32), R E (κI E) 1 257 14 [(0, .ref 60), (1, .int yl1), (2, .int yl2), (3, .int yl3)] [] yq (rec_14 yq yl1 yl2 yl3)) (q : SS) (l1 : Int32) (l2 : Int32) (l3 : Int32) (l4 : Int32) (l5 : Int32) : R E (κI E) 1 257 34 [(0, .ref 60), (1, .int l1), (2, .int l2), (3, .int l3), (4, .int l4), (5, .int l5)] [] q (b_X12_half_34 rec_14 q l1 l2 l3 l4 l5) := by
  unfold b_X12_half_34
  refine fx6_ok (P := fun q l1 l2 l3 l4 l5 o => R E (κI E) 1 257 34 [(0, .ref 60), (1, .int l1), (2, .int l2), (3, .int l3), (4, .int l4), (5, .int l5)] [] q o) (fun _ _ _ _ _ _ => r_no) (fun rec_34 hrec_34 q l1 l2 l3 l4 l5 => ?_) _ _ _ _ _ _ _
  refine r_iload (x := l5) dX12_half_34 rfl ?_
  refine r_aload_n (x := 60) dX12_half_36 rfl ?_
  refine r_getI dX12_half_37 (ff_12_115_60 hE) (by decide) ?_
  refine r_icmp_ge (t := 70) dX12_half_40 rfl (fun h11 => ?_) (fun h11 => ?_)
  · refine r_iconst (v := (2 : Int32)) dX12_half_70 rfl ?_
    refine r_iload (x := l4) dX12_half_71 rfl ?_
    refine r_imul dX12_half_73 ?_
    refine r_iload_n (x := l1) dX12_half_74 rfl ?_
    refine r_icmp_lt (t := 95) dX12_half_75 rfl (fun h7 => ?_) (fun h7 => ?_)
    · exact r_sub (L' := [(0, .ref 60), (1, .int l1), (2, .int l2), (3, .int l3)]) (sub_c rfl (sub_c rfl (sub_c rfl (sub_c rfl sub_n)))) (rb_X12_half_95 hE hrec_14 q l1 l2 l3)
    · refine r_iload_n (x := l2) dX12_half_78 rfl ?_
      refine r_if_lt (t := 93) dX12_half_79 rfl (fun h6 => ?_) (fun h6 => ?_)
      · exact r_sub (L' := [(0, .ref 60), (1, .int l1), (3, .int l3)]) (sub_c rfl (sub_c rfl (sub_c rfl sub_n))) (rb_X12_half_93 hE hrec_14 q l1 l3)
      · refine r_iload_n (x := l3) dX12_half_82 rfl ?_
        refine r_calli (k := 2) (idx := 310) (y := 190) (as := [.int l3]) (rest := []) (L0 := [(0, .int l3)]) dX12_half_83 rfl rfl rfl rfl rfl vok_s rfl (r_dep (by decide) (e_X12_bitsOf hE q l3)) (fun r3 => ?_)
        refine r_iload_n (x := l2) dX12_half_86 rfl ?_
        refine r_calli (k := 2) (idx := 310) (y := 190) (as := [.int l2]) (rest := [.int r3]) (L0 := [(0, .int l2)]) dX12_half_87 rfl rfl rfl rfl rfl vok_s rfl (r_dep (by decide) (e_X12_bitsOf hE q l2)) (fun r4 => ?_)
        refine r_icmp_ge (t := 95) dX12_half_90 rfl (fun h5 => ?_) (fun h5 => ?_)
        · exact r_sub (L' := [(0, .ref 60), (1, .int l1), (2, .int l2), (3, .int l3)]) (sub_c rfl (sub_c rfl (sub_c rfl (sub_c rfl sub_n)))) (rb_X12_half_95 hE hrec_14 q l1 l2 l3)
        · exact r_sub (L' := [(0, .ref 60), (1, .int l1), (3, .int l3)]) (sub_c rfl (sub_c rfl (sub_c rfl sub_n))) (rb_X12_half_93 hE hrec_14 q l1 l3)
  · refine r_iload_n (x := l3) dX12_half_43 rfl ?_
    refine r_iload (x := l5) dX12_half_44 rfl ?_
    refine r_ishr dX12_half_46 ?_
    refine r_iconst (v := (1 : Int32)) dX12_half_47 rfl ?_
    refine r_iand dX12_half_48 ?_
    refine r_iconst (v := (1 : Int32)) dX12_half_49 rfl ?_
    refine r_icmp_ne (t := 64) dX12_half_50 rfl (fun h10 => ?_) (fun h10 => ?_)
    · refine r_iload (x := l4) dX12_half_53 rfl ?_
      refine r_aload_n (x := 60) dX12_half_55 rfl ?_
      refine r_iload (x := l5) dX12_half_56 rfl ?_
      refine r_calli (k := 0) (idx := 175) (y := 228) (as := [.ref 60, .int l5]) (rest := [.int l4]) (L0 := [(0, .ref 60), (1, .int l5)]) dX12_half_58 rfl rfl rfl rfl rfl (vok_v (ob_60 hE) rfl) rfl (r_dep (by decide) (e_X12_realOf hE q l5)) (fun r8 => ?_)
      refine r_iadd dX12_half_61 ?_
      refine r_nmI fun v9 _ => ?_
      refine r_istore (L2 := [(0, .ref 60), (1, .int l1), (2, .int l2), (3, .int l3), (4, .int v9), (5, .int l5)]) dX12_half_62 rfl rfl ?_
      exact r_sub (L' := [(0, .ref 60), (1, .int l1), (2, .int l2), (3, .int l3), (4, .int v9), (5, .int l5)]) (sub_c rfl (sub_c rfl (sub_c rfl (sub_c rfl (sub_c rfl (sub_c rfl sub_n)))))) (rb_X12_half_64 hE hrec_14 hrec_34 q l1 l2 l3 v9 l5)
    · exact r_sub (L' := [(0, .ref 60), (1, .int l1), (2, .int l2), (3, .int l3), (4, .int l4), (5, .int l5)]) (sub_c rfl (sub_c rfl (sub_c rfl (sub_c rfl (sub_c rfl (sub_c rfl sub_n)))))) (rb_X12_half_64 hE hrec_14 hrec_34 q l1 l2 l3 l4 l5)
def b_X12_half_14 : SS → Int32 → Int32 → Int32 → Option (Int32 × SS) :=
  fx4 (fun (rec_14 : SS → Int32 → Int32 → Int32 → Option (Int32 × SS)) (q : SS) (l1 : Int32) (l2 : Int32) (l3 : Int32) =>
  if (jshl (1 : Int32) (q.1 60 1)) ≤ l3 then
  (some (l2, q))
  else
  (if l1 ≤ 0 then
  (some (l2, q))
  else
  (b_X12_half_34 rec_14 q l1 l2 l3 (0 : Int32) (0 : Int32)))) FU
theorem rb_X12_half_14 {E : EE} (hE : GE E) (q : SS) (l1 : Int32) (l2 : Int32) (l3 : Int32) : R E (κI E) 1 257 14 [(0, .ref 60), (1, .int l1), (2, .int l2), (3, .int l3)] [] q (b_X12_half_14 q l1 l2 l3) := by
  unfold b_X12_half_14
  refine fx4_ok (P := fun q l1 l2 l3 o => R E (κI E) 1 257 14 [(0, .ref 60), (1, .int l1), (2, .int l2), (3, .int l3)] [] q o) (fun _ _ _ _ => r_no) (fun rec_14 hrec_14 q l1 l2 l3 => ?_) _ _ _ _ _
  refine r_iload_n (x := l3) dX12_half_14 rfl ?_
  refine r_iconst (v := (1 : Int32)) dX12_half_15 rfl ?_
  refine r_aload_n (x := 60) dX12_half_16 rfl ?_
  refine r_getI dX12_half_17 (ff_12_115_60 hE) (by decide) ?_
  refine r_ishl dX12_half_20 ?_
  refine r_icmp_ge (t := 101) dX12_half_21 rfl (fun h13 => ?_) (fun h13 => ?_)
  · refine r_iload_n (x := l2) dX12_half_101 rfl ?_
    exact r_ireturn dX12_half_102 rfl rfl
  · refine r_iload_n (x := l1) dX12_half_24 rfl ?_
    refine r_if_le (t := 101) dX12_half_25 rfl (fun h12 => ?_) (fun h12 => ?_)
    · refine r_iload_n (x := l2) dX12_half_101 rfl ?_
      exact r_ireturn dX12_half_102 rfl rfl
    · refine r_iconst (v := (0 : Int32)) dX12_half_28 rfl ?_
      refine r_istore (L2 := [(0, .ref 60), (1, .int l1), (2, .int l2), (3, .int l3), (4, .int (0 : Int32))]) dX12_half_29 rfl rfl ?_
      refine r_iconst (v := (0 : Int32)) dX12_half_31 rfl ?_
      refine r_istore (L2 := [(0, .ref 60), (1, .int l1), (2, .int l2), (3, .int l3), (4, .int (0 : Int32)), (5, .int (0 : Int32))]) dX12_half_32 rfl rfl ?_
      exact r_sub (L' := [(0, .ref 60), (1, .int l1), (2, .int l2), (3, .int l3), (4, .int (0 : Int32)), (5, .int (0 : Int32))]) (sub_c rfl (sub_c rfl (sub_c rfl (sub_c rfl (sub_c rfl (sub_c rfl sub_n)))))) (rb_X12_half_34 hE hrec_14 q l1 l2 l3 (0 : Int32) (0 : Int32))
def f_X12_half (q : SS)  : Option (Int32 × SS) :=
  (f_X12_layNow q).bind fun r1 =>
  (f_X12_allReal r1).bind fun r2 =>
  b_X12_half_14 r1 r2 (-2 : Int32) (0 : Int32)
theorem e_X12_half {E : EE} (hE : GE E) (q : SS)  : R E (κI E) 1 257 0 [(0, .ref 60)] [] q (f_X12_half q) := by
  unfold f_X12_half
  refine r_aload_n (x := 60) dX12_half_0 rfl ?_
  refine r_callV (k := 0) (idx := 168) (y := 226) (as := [.ref 60]) (rest := []) (L0 := [(0, .ref 60)]) dX12_half_1 rfl rfl rfl rfl rfl (vok_v (ob_60 hE) rfl) rfl (r_dep (by decide) (e_X12_layNow hE q)) (fun r1 => ?_)
  refine r_aload_n (x := 60) dX12_half_4 rfl ?_
  refine r_calli (k := 0) (idx := 292) (y := 229) (as := [.ref 60]) (rest := []) (L0 := [(0, .ref 60)]) dX12_half_5 rfl rfl rfl rfl rfl (vok_v (ob_60 hE) rfl) rfl (r_dep (by decide) (e_X12_allReal hE r1)) (fun r2 => ?_)
  refine r_istore_n (L2 := [(0, .ref 60), (1, .int r2)]) dX12_half_8 rfl rfl ?_
  refine r_bipush (v := (-2 : Int32)) dX12_half_9 rfl ?_
  refine r_istore_n (L2 := [(0, .ref 60), (1, .int r2), (2, .int (-2 : Int32))]) dX12_half_11 rfl rfl ?_
  refine r_iconst (v := (0 : Int32)) dX12_half_12 rfl ?_
  refine r_istore_n (L2 := [(0, .ref 60), (1, .int r2), (2, .int (-2 : Int32)), (3, .int (0 : Int32))]) dX12_half_13 rfl rfl ?_
  exact r_sub (L' := [(0, .ref 60), (1, .int r2), (2, .int (-2 : Int32)), (3, .int (0 : Int32))]) (sub_c rfl (sub_c rfl (sub_c rfl (sub_c rfl sub_n)))) (rb_X12_half_14 hE r1 r2 (-2 : Int32) (0 : Int32))
def f_X11_share (q : SS) (a1 : Int32) (a2 : Int32) : Option (Int32 × SS) :=
  (f_X10_isPerson q a1).bind fun r1 =>
  if r1 = 0 then
  (some ((-1 : Int32), q))
  else
  (if a2 < 0 then
  (some ((-1 : Int32), q))
  else
  (if a2 ≤ (9999 : Int32) then
  ((f_X11_now q).bind fun r2 =>
  (f_X8_reals r2).bind fun r3 =>
  if r3 = 0 then
  (some ((0 : Int32), r2))
  else
  ((f_X8_realsOf r2 a1).bind fun r4 =>
  if r3 = 0 then none else
  some (((a2 * r4) / r3), r2)))
  else
  (some ((-1 : Int32), q))))
theorem e_X11_share {E : EE} (hE : GE E) (q : SS) (a1 : Int32) (a2 : Int32) : R E (κI E) 4 164 0 [(0, .ref 0), (1, .int a1), (2, .int a2)] [] q (f_X11_share q a1 a2) := by
  unfold f_X11_share
  refine r_aload_n (x := 0) dX11_share_0 rfl ?_
  refine r_getA dX11_share_1 (fa_11_10_0 hE) ?_
  refine r_iload_n (x := a1) dX11_share_4 rfl ?_
  refine r_calli (k := 0) (idx := 140) (y := 128) (as := [.ref 1, .int a1]) (rest := []) (L0 := [(0, .ref 1), (1, .int a1)]) dX11_share_5 rfl rfl rfl rfl rfl (vok_v (ob_1 hE) rfl) rfl (r_dep (by decide) (e_X10_isPerson hE q a1)) (fun r1 => ?_)
  refine r_if_eq (t := 22) dX11_share_8 rfl (fun h8 => ?_) (fun h8 => ?_)
  · refine r_iconst (v := (-1 : Int32)) dX11_share_22 rfl ?_
    exact r_ireturn dX11_share_23 rfl rfl
  · refine r_iload_n (x := a2) dX11_share_11 rfl ?_
    refine r_if_lt (t := 22) dX11_share_12 rfl (fun h7 => ?_) (fun h7 => ?_)
    · refine r_iconst (v := (-1 : Int32)) dX11_share_22 rfl ?_
      exact r_ireturn dX11_share_23 rfl rfl
    · refine r_iload_n (x := a2) dX11_share_15 rfl ?_
      refine r_sipush (v := (9999 : Int32)) dX11_share_16 rfl ?_
      refine r_icmp_le (t := 24) dX11_share_19 rfl (fun h6 => ?_) (fun h6 => ?_)
      · refine r_aload_n (x := 0) dX11_share_24 rfl ?_
        refine r_callA (k := 0) (idx := 143) (y := 148) (as := [.ref 0]) (rest := []) (L0 := [(0, .ref 0)]) dX11_share_25 rfl rfl rfl rfl rfl (vok_v (ob_0 hE) rfl) rfl (r_dep (by decide) (e_X11_now hE q)) (fun r2 => ?_)
        refine r_astore_n (L2 := [(0, .ref 0), (1, .int a1), (2, .int a2), (3, .ref 24)]) dX11_share_28 rfl rfl ?_
        refine r_aload_n (x := 24) dX11_share_29 rfl ?_
        refine r_calli (k := 0) (idx := 223) (y := 102) (as := [.ref 24]) (rest := []) (L0 := [(0, .ref 24)]) dX11_share_30 rfl rfl rfl rfl rfl (vok_v (ob_24 hE) rfl) rfl (r_dep (by decide) (e_X8_reals hE r2)) (fun r3 => ?_)
        refine r_istore (L2 := [(0, .ref 0), (1, .int a1), (2, .int a2), (3, .ref 24), (4, .int r3)]) dX11_share_33 rfl rfl ?_
        refine r_iload (x := r3) dX11_share_35 rfl ?_
        refine r_if_ne (t := 44) dX11_share_37 rfl (fun h5 => ?_) (fun h5 => ?_)
        · refine r_iconst (v := (0 : Int32)) dX11_share_40 rfl ?_
          refine r_goto (t := 54) dX11_share_41 rfl ?_
          exact r_ireturn dX11_share_54 rfl rfl
        · refine r_iload_n (x := a2) dX11_share_44 rfl ?_
          refine r_aload_n (x := 24) dX11_share_45 rfl ?_
          refine r_iload_n (x := a1) dX11_share_46 rfl ?_
          refine r_calli (k := 0) (idx := 150) (y := 101) (as := [.ref 24, .int a1]) (rest := [.int a2]) (L0 := [(0, .ref 24), (1, .int a1)]) dX11_share_47 rfl rfl rfl rfl rfl (vok_v (ob_24 hE) rfl) rfl (r_dep (by decide) (e_X8_realsOf hE r2 a1)) (fun r4 => ?_)
          refine r_imul dX11_share_50 ?_
          refine r_iload (x := r3) dX11_share_51 rfl ?_
          refine r_idiv dX11_share_53 ?_
          exact r_ireturn dX11_share_54 rfl rfl
      · refine r_iconst (v := (-1 : Int32)) dX11_share_22 rfl ?_
        exact r_ireturn dX11_share_23 rfl rfl
def f_X12_share (q : SS) (a1 : Int32) (a2 : Int32) : Option (Int32 × SS) :=
  (f_X12_isOne q a1).bind fun r1 =>
  if r1 = 0 then
  (some ((-1 : Int32), q))
  else
  ((f_X12_in q a2 (0 : Int32) (9999 : Int32)).bind fun r2 =>
  if r2 = 0 then
  (some ((-1 : Int32), q))
  else
  ((f_X12_layNow q).bind fun r3 =>
  (f_X12_allReal r3).bind fun r4 =>
  if r4 = 0 then
  (some ((0 : Int32), r3))
  else
  ((f_X12_realOf r3 a1).bind fun r5 =>
  (f_X12_allReal r3).bind fun r6 =>
  if r6 = 0 then none else
  some (((a2 * r5) / r6), r3))))
theorem e_X12_share {E : EE} (hE : GE E) (q : SS) (a1 : Int32) (a2 : Int32) : R E (κI E) 2 256 0 [(0, .ref 60), (1, .int a1), (2, .int a2)] [] q (f_X12_share q a1 a2) := by
  unfold f_X12_share
  refine r_aload_n (x := 60) dX12_share_0 rfl ?_
  refine r_iload_n (x := a1) dX12_share_1 rfl ?_
  refine r_calli (k := 0) (idx := 125) (y := 191) (as := [.ref 60, .int a1]) (rest := []) (L0 := [(0, .ref 60), (1, .int a1)]) dX12_share_2 rfl rfl rfl rfl rfl (vok_v (ob_60 hE) rfl) rfl (r_dep (by decide) (e_X12_isOne hE q a1)) (fun r1 => ?_)
  refine r_if_eq (t := 19) dX12_share_5 rfl (fun h9 => ?_) (fun h9 => ?_)
  · refine r_iconst (v := (-1 : Int32)) dX12_share_19 rfl ?_
    exact r_ireturn dX12_share_20 rfl rfl
  · refine r_iload_n (x := a2) dX12_share_8 rfl ?_
    refine r_iconst (v := (0 : Int32)) dX12_share_9 rfl ?_
    refine r_sipush (v := (9999 : Int32)) dX12_share_10 rfl ?_
    refine r_calli (k := 2) (idx := 118) (y := 189) (as := [.int a2, .int (0 : Int32), .int (9999 : Int32)]) (rest := []) (L0 := [(0, .int a2), (1, .int (0 : Int32)), (2, .int (9999 : Int32))]) dX12_share_13 rfl rfl rfl rfl rfl vok_s rfl (r_dep (by decide) (e_X12_in hE q a2 (0 : Int32) (9999 : Int32))) (fun r2 => ?_)
    refine r_if_ne (t := 21) dX12_share_16 rfl (fun h8 => ?_) (fun h8 => ?_)
    · refine r_iconst (v := (-1 : Int32)) dX12_share_19 rfl ?_
      exact r_ireturn dX12_share_20 rfl rfl
    · refine r_aload_n (x := 60) dX12_share_21 rfl ?_
      refine r_callV (k := 0) (idx := 168) (y := 226) (as := [.ref 60]) (rest := []) (L0 := [(0, .ref 60)]) dX12_share_22 rfl rfl rfl rfl rfl (vok_v (ob_60 hE) rfl) rfl (r_dep (by decide) (e_X12_layNow hE q)) (fun r3 => ?_)
      refine r_aload_n (x := 60) dX12_share_25 rfl ?_
      refine r_calli (k := 0) (idx := 292) (y := 229) (as := [.ref 60]) (rest := []) (L0 := [(0, .ref 60)]) dX12_share_26 rfl rfl rfl rfl rfl (vok_v (ob_60 hE) rfl) rfl (r_dep (by decide) (e_X12_allReal hE r3)) (fun r4 => ?_)
      refine r_if_ne (t := 36) dX12_share_29 rfl (fun h7 => ?_) (fun h7 => ?_)
      · refine r_iconst (v := (0 : Int32)) dX12_share_32 rfl ?_
        refine r_goto (t := 48) dX12_share_33 rfl ?_
        exact r_ireturn dX12_share_48 rfl rfl
      · refine r_iload_n (x := a2) dX12_share_36 rfl ?_
        refine r_aload_n (x := 60) dX12_share_37 rfl ?_
        refine r_iload_n (x := a1) dX12_share_38 rfl ?_
        refine r_calli (k := 0) (idx := 175) (y := 228) (as := [.ref 60, .int a1]) (rest := [.int a2]) (L0 := [(0, .ref 60), (1, .int a1)]) dX12_share_39 rfl rfl rfl rfl rfl (vok_v (ob_60 hE) rfl) rfl (r_dep (by decide) (e_X12_realOf hE r3 a1)) (fun r5 => ?_)
        refine r_imul dX12_share_42 ?_
        refine r_aload_n (x := 60) dX12_share_43 rfl ?_
        refine r_calli (k := 0) (idx := 292) (y := 229) (as := [.ref 60]) (rest := [.int (a2 * r5)]) (L0 := [(0, .ref 60)]) dX12_share_44 rfl rfl rfl rfl rfl (vok_v (ob_60 hE) rfl) rfl (r_dep (by decide) (e_X12_allReal hE r3)) (fun r6 => ?_)
        refine r_idiv dX12_share_47 ?_
        exact r_ireturn dX12_share_48 rfl rfl
def b_X8_looseReals_40 (rec_4 : Int32 → Int32 → Option Int32) (q : SS) (l2 : Int32) (s0 : Int32) (s1 : Int32) : Option Int32 :=
  nm (s1 + s0) fun v3 =>
  rec_4 v3 (l2 + (1 : Int32))
theorem rb_X8_looseReals_40 {E : EE} (hE : GE E) {q : SS} {rec_4 : Int32 → Int32 → Option Int32} (hrec_4 : ∀ (yl1 : Int32) (yl2 : Int32), R E (κi E q) 3 105 4 [(0, .ref 24), (1, .int yl1), (2, .int yl2)] [] q (rec_4 yl1 yl2)) (l2 : Int32) (s0 : Int32) (s1 : Int32) : R E (κi E q) 3 105 40 [(0, .ref 24), (2, .int l2)] [.int s0, .int s1] q (b_X8_looseReals_40 rec_4 q l2 s0 s1) := by
  unfold b_X8_looseReals_40
  refine r_iadd dX8_looseReals_40 ?_
  refine r_nmI fun v3 _ => ?_
  refine r_istore_n (L2 := [(0, .ref 24), (1, .int v3), (2, .int l2)]) dX8_looseReals_41 rfl rfl ?_
  refine r_iinc (x := l2) (v := (l2 + (1 : Int32))) (L2 := [(0, .ref 24), (1, .int v3), (2, .int (l2 + (1 : Int32)))]) dX8_looseReals_42 rfl rfl rfl rfl ?_
  refine r_goto (t := 4) dX8_looseReals_45 rfl ?_
  exact r_sub (L' := [(0, .ref 24), (1, .int v3), (2, .int (l2 + (1 : Int32)))]) (sub_c rfl (sub_c rfl (sub_c rfl sub_n))) (hrec_4 v3 (l2 + (1 : Int32)))
def b_X8_looseReals_39 (rec_4 : Int32 → Int32 → Option Int32) (q : SS) (l2 : Int32) (s0 : Int32) : Option Int32 :=
  b_X8_looseReals_40 rec_4 q l2 (0 : Int32) s0
theorem rb_X8_looseReals_39 {E : EE} (hE : GE E) {q : SS} {rec_4 : Int32 → Int32 → Option Int32} (hrec_4 : ∀ (yl1 : Int32) (yl2 : Int32), R E (κi E q) 3 105 4 [(0, .ref 24), (1, .int yl1), (2, .int yl2)] [] q (rec_4 yl1 yl2)) (l2 : Int32) (s0 : Int32) : R E (κi E q) 3 105 39 [(0, .ref 24), (2, .int l2)] [.int s0] q (b_X8_looseReals_39 rec_4 q l2 s0) := by
  unfold b_X8_looseReals_39
  refine r_iconst (v := (0 : Int32)) dX8_looseReals_39 rfl ?_
  exact r_sub (L' := [(0, .ref 24), (2, .int l2)]) (sub_c rfl (sub_c rfl sub_n)) (rb_X8_looseReals_40 hE hrec_4 l2 (0 : Int32) s0)
def b_X8_looseReals_4 (q : SS) : Int32 → Int32 → Option Int32 :=
  fx2 (fun (rec_4 : Int32 → Int32 → Option Int32) (l1 : Int32) (l2 : Int32) =>
  (f_X10_tickets q).bind fun r1 =>
  if r1 ≤ l2 then
  (some l1)
  else
  ((f_X8_isLoose q l2).bind fun r2 =>
  if r2 = 0 then
  (b_X8_looseReals_39 rec_4 q l2 l1)
  else
  ((f_X10_isReal q l2).bind fun r4 =>
  if r4 = 0 then
  (b_X8_looseReals_39 rec_4 q l2 l1)
  else
  (b_X8_looseReals_40 rec_4 q l2 (1 : Int32) l1)))) FU
theorem rb_X8_looseReals_4 {E : EE} (hE : GE E) (q : SS) (l1 : Int32) (l2 : Int32) : R E (κi E q) 3 105 4 [(0, .ref 24), (1, .int l1), (2, .int l2)] [] q (b_X8_looseReals_4 q l1 l2) := by
  unfold b_X8_looseReals_4
  refine fx2_ok (P := fun l1 l2 o => R E (κi E q) 3 105 4 [(0, .ref 24), (1, .int l1), (2, .int l2)] [] q o) (fun _ _ => r_no) (fun rec_4 hrec_4 l1 l2 => ?_) _ _ _
  refine r_iload_n (x := l2) dX8_looseReals_4 rfl ?_
  refine r_aload_n (x := 24) dX8_looseReals_5 rfl ?_
  refine r_getA dX8_looseReals_6 (fa_8_9_24 hE) ?_
  refine r_calli (k := 0) (idx := 33) (y := 126) (as := [.ref 1]) (rest := [.int l2]) (L0 := [(0, .ref 1)]) dX8_looseReals_9 rfl rfl rfl rfl rfl (vok_v (ob_1 hE) rfl) rfl (r_dep (by decide) (e_X10_tickets hE q)) (fun r1 => ?_)
  refine r_icmp_ge (t := 48) dX8_looseReals_12 rfl (fun h7 => ?_) (fun h7 => ?_)
  · refine r_iload_n (x := l1) dX8_looseReals_48 rfl ?_
    exact r_ireturn dX8_looseReals_49 rfl rfl
  · refine r_iload_n (x := l1) dX8_looseReals_15 rfl ?_
    refine r_aload_n (x := 24) dX8_looseReals_16 rfl ?_
    refine r_iload_n (x := l2) dX8_looseReals_17 rfl ?_
    refine r_calli (k := 0) (idx := 44) (y := 106) (as := [.ref 24, .int l2]) (rest := [.int l1]) (L0 := [(0, .ref 24), (1, .int l2)]) dX8_looseReals_18 rfl rfl rfl rfl rfl (vok_v (ob_24 hE) rfl) rfl (r_dep (by decide) (e_X8_isLoose hE q l2)) (fun r2 => ?_)
    refine r_if_eq (t := 39) dX8_looseReals_21 rfl (fun h6 => ?_) (fun h6 => ?_)
    · exact r_sub (L' := [(0, .ref 24), (2, .int l2)]) (sub_c rfl (sub_c rfl sub_n)) (rb_X8_looseReals_39 hE hrec_4 l2 l1)
    · refine r_aload_n (x := 24) dX8_looseReals_24 rfl ?_
      refine r_getA dX8_looseReals_25 (fa_8_9_24 hE) ?_
      refine r_iload_n (x := l2) dX8_looseReals_28 rfl ?_
      refine r_calli (k := 0) (idx := 41) (y := 131) (as := [.ref 1, .int l2]) (rest := [.int l1]) (L0 := [(0, .ref 1), (1, .int l2)]) dX8_looseReals_29 rfl rfl rfl rfl rfl (vok_v (ob_1 hE) rfl) rfl (r_dep (by decide) (e_X10_isReal hE q l2)) (fun r4 => ?_)
      refine r_if_eq (t := 39) dX8_looseReals_32 rfl (fun h5 => ?_) (fun h5 => ?_)
      · exact r_sub (L' := [(0, .ref 24), (2, .int l2)]) (sub_c rfl (sub_c rfl sub_n)) (rb_X8_looseReals_39 hE hrec_4 l2 l1)
      · refine r_iconst (v := (1 : Int32)) dX8_looseReals_35 rfl ?_
        refine r_goto (t := 40) dX8_looseReals_36 rfl ?_
        exact r_sub (L' := [(0, .ref 24), (2, .int l2)]) (sub_c rfl (sub_c rfl sub_n)) (rb_X8_looseReals_40 hE hrec_4 l2 (1 : Int32) l1)
def f_X8_looseReals (q : SS)  : Option Int32 :=
  b_X8_looseReals_4 q (0 : Int32) (0 : Int32)
theorem e_X8_looseReals {E : EE} (hE : GE E) (q : SS)  : R E (κi E q) 3 105 0 [(0, .ref 24)] [] q (f_X8_looseReals q) := by
  unfold f_X8_looseReals
  refine r_iconst (v := (0 : Int32)) dX8_looseReals_0 rfl ?_
  refine r_istore_n (L2 := [(0, .ref 24), (1, .int (0 : Int32))]) dX8_looseReals_1 rfl rfl ?_
  refine r_iconst (v := (0 : Int32)) dX8_looseReals_2 rfl ?_
  refine r_istore_n (L2 := [(0, .ref 24), (1, .int (0 : Int32)), (2, .int (0 : Int32))]) dX8_looseReals_3 rfl rfl ?_
  exact r_sub (L' := [(0, .ref 24), (1, .int (0 : Int32)), (2, .int (0 : Int32))]) (sub_c rfl (sub_c rfl (sub_c rfl sub_n))) (rb_X8_looseReals_4 hE q (0 : Int32) (0 : Int32))
def b_X8_looseRealsOf_49 (rec_4 : Int32 → Int32 → Int32 → Option Int32) (q : SS) (l1 : Int32) (l3 : Int32) (s0 : Int32) (s1 : Int32) : Option Int32 :=
  nm (s1 + s0) fun v4 =>
  rec_4 l1 v4 (l3 + (1 : Int32))
theorem rb_X8_looseRealsOf_49 {E : EE} (hE : GE E) {q : SS} {rec_4 : Int32 → Int32 → Int32 → Option Int32} (hrec_4 : ∀ (yl1 : Int32) (yl2 : Int32) (yl3 : Int32), R E (κi E q) 3 104 4 [(0, .ref 24), (1, .int yl1), (2, .int yl2), (3, .int yl3)] [] q (rec_4 yl1 yl2 yl3)) (l1 : Int32) (l3 : Int32) (s0 : Int32) (s1 : Int32) : R E (κi E q) 3 104 49 [(0, .ref 24), (1, .int l1), (3, .int l3)] [.int s0, .int s1] q (b_X8_looseRealsOf_49 rec_4 q l1 l3 s0 s1) := by
  unfold b_X8_looseRealsOf_49
  refine r_iadd dX8_looseRealsOf_49 ?_
  refine r_nmI fun v4 _ => ?_
  refine r_istore_n (L2 := [(0, .ref 24), (1, .int l1), (2, .int v4), (3, .int l3)]) dX8_looseRealsOf_50 rfl rfl ?_
  refine r_iinc (x := l3) (v := (l3 + (1 : Int32))) (L2 := [(0, .ref 24), (1, .int l1), (2, .int v4), (3, .int (l3 + (1 : Int32)))]) dX8_looseRealsOf_51 rfl rfl rfl rfl ?_
  refine r_goto (t := 4) dX8_looseRealsOf_54 rfl ?_
  exact r_sub (L' := [(0, .ref 24), (1, .int l1), (2, .int v4), (3, .int (l3 + (1 : Int32)))]) (sub_c rfl (sub_c rfl (sub_c rfl (sub_c rfl sub_n)))) (hrec_4 l1 v4 (l3 + (1 : Int32)))
def b_X8_looseRealsOf_48 (rec_4 : Int32 → Int32 → Int32 → Option Int32) (q : SS) (l1 : Int32) (l3 : Int32) (s0 : Int32) : Option Int32 :=
  b_X8_looseRealsOf_49 rec_4 q l1 l3 (0 : Int32) s0
theorem rb_X8_looseRealsOf_48 {E : EE} (hE : GE E) {q : SS} {rec_4 : Int32 → Int32 → Int32 → Option Int32} (hrec_4 : ∀ (yl1 : Int32) (yl2 : Int32) (yl3 : Int32), R E (κi E q) 3 104 4 [(0, .ref 24), (1, .int yl1), (2, .int yl2), (3, .int yl3)] [] q (rec_4 yl1 yl2 yl3)) (l1 : Int32) (l3 : Int32) (s0 : Int32) : R E (κi E q) 3 104 48 [(0, .ref 24), (1, .int l1), (3, .int l3)] [.int s0] q (b_X8_looseRealsOf_48 rec_4 q l1 l3 s0) := by
  unfold b_X8_looseRealsOf_48
  refine r_iconst (v := (0 : Int32)) dX8_looseRealsOf_48 rfl ?_
  exact r_sub (L' := [(0, .ref 24), (1, .int l1), (3, .int l3)]) (sub_c rfl (sub_c rfl (sub_c rfl sub_n))) (rb_X8_looseRealsOf_49 hE hrec_4 l1 l3 (0 : Int32) s0)
def b_X8_looseRealsOf_4 (q : SS) : Int32 → Int32 → Int32 → Option Int32 :=
  fx3 (fun (rec_4 : Int32 → Int32 → Int32 → Option Int32) (l1 : Int32) (l2 : Int32) (l3 : Int32) =>
  (f_X10_tickets q).bind fun r1 =>
  if r1 ≤ l3 then
  (some l2)
  else
  ((f_X8_holderOf q l3).bind fun r2 =>
  if r2 = l1 then
  ((f_X8_isLoose q l3).bind fun r3 =>
  if r3 = 0 then
  (b_X8_looseRealsOf_48 rec_4 q l1 l3 l2)
  else
  ((f_X10_isReal q l3).bind fun r5 =>
  if r5 = 0 then
  (b_X8_looseRealsOf_48 rec_4 q l1 l3 l2)
  else
  (b_X8_looseRealsOf_49 rec_4 q l1 l3 (1 : Int32) l2)))
  else
  (b_X8_looseRealsOf_48 rec_4 q l1 l3 l2))) FU
theorem rb_X8_looseRealsOf_4 {E : EE} (hE : GE E) (q : SS) (l1 : Int32) (l2 : Int32) (l3 : Int32) : R E (κi E q) 3 104 4 [(0, .ref 24), (1, .int l1), (2, .int l2), (3, .int l3)] [] q (b_X8_looseRealsOf_4 q l1 l2 l3) := by
  unfold b_X8_looseRealsOf_4
  refine fx3_ok (P := fun l1 l2 l3 o => R E (κi E q) 3 104 4 [(0, .ref 24), (1, .int l1), (2, .int l2), (3, .int l3)] [] q o) (fun _ _ _ => r_no) (fun rec_4 hrec_4 l1 l2 l3 => ?_) _ _ _ _
  refine r_iload_n (x := l3) dX8_looseRealsOf_4 rfl ?_
  refine r_aload_n (x := 24) dX8_looseRealsOf_5 rfl ?_
  refine r_getA dX8_looseRealsOf_6 (fa_8_9_24 hE) ?_
  refine r_calli (k := 0) (idx := 33) (y := 126) (as := [.ref 1]) (rest := [.int l3]) (L0 := [(0, .ref 1)]) dX8_looseRealsOf_9 rfl rfl rfl rfl rfl (vok_v (ob_1 hE) rfl) rfl (r_dep (by decide) (e_X10_tickets hE q)) (fun r1 => ?_)
  refine r_icmp_ge (t := 57) dX8_looseRealsOf_12 rfl (fun h9 => ?_) (fun h9 => ?_)
  · refine r_iload_n (x := l2) dX8_looseRealsOf_57 rfl ?_
    exact r_ireturn dX8_looseRealsOf_58 rfl rfl
  · refine r_iload_n (x := l2) dX8_looseRealsOf_15 rfl ?_
    refine r_aload_n (x := 24) dX8_looseRealsOf_16 rfl ?_
    refine r_iload_n (x := l3) dX8_looseRealsOf_17 rfl ?_
    refine r_calli (k := 0) (idx := 37) (y := 98) (as := [.ref 24, .int l3]) (rest := [.int l2]) (L0 := [(0, .ref 24), (1, .int l3)]) dX8_looseRealsOf_18 rfl rfl rfl rfl rfl (vok_v (ob_24 hE) rfl) rfl (r_dep (by decide) (e_X8_holderOf hE q l3)) (fun r2 => ?_)
    refine r_iload_n (x := l1) dX8_looseRealsOf_21 rfl ?_
    refine r_icmp_ne (t := 48) dX8_looseRealsOf_22 rfl (fun h8 => ?_) (fun h8 => ?_)
    · refine r_aload_n (x := 24) dX8_looseRealsOf_25 rfl ?_
      refine r_iload_n (x := l3) dX8_looseRealsOf_26 rfl ?_
      refine r_calli (k := 0) (idx := 44) (y := 106) (as := [.ref 24, .int l3]) (rest := [.int l2]) (L0 := [(0, .ref 24), (1, .int l3)]) dX8_looseRealsOf_27 rfl rfl rfl rfl rfl (vok_v (ob_24 hE) rfl) rfl (r_dep (by decide) (e_X8_isLoose hE q l3)) (fun r3 => ?_)
      refine r_if_eq (t := 48) dX8_looseRealsOf_30 rfl (fun h7 => ?_) (fun h7 => ?_)
      · exact r_sub (L' := [(0, .ref 24), (1, .int l1), (3, .int l3)]) (sub_c rfl (sub_c rfl (sub_c rfl sub_n))) (rb_X8_looseRealsOf_48 hE hrec_4 l1 l3 l2)
      · refine r_aload_n (x := 24) dX8_looseRealsOf_33 rfl ?_
        refine r_getA dX8_looseRealsOf_34 (fa_8_9_24 hE) ?_
        refine r_iload_n (x := l3) dX8_looseRealsOf_37 rfl ?_
        refine r_calli (k := 0) (idx := 41) (y := 131) (as := [.ref 1, .int l3]) (rest := [.int l2]) (L0 := [(0, .ref 1), (1, .int l3)]) dX8_looseRealsOf_38 rfl rfl rfl rfl rfl (vok_v (ob_1 hE) rfl) rfl (r_dep (by decide) (e_X10_isReal hE q l3)) (fun r5 => ?_)
        refine r_if_eq (t := 48) dX8_looseRealsOf_41 rfl (fun h6 => ?_) (fun h6 => ?_)
        · exact r_sub (L' := [(0, .ref 24), (1, .int l1), (3, .int l3)]) (sub_c rfl (sub_c rfl (sub_c rfl sub_n))) (rb_X8_looseRealsOf_48 hE hrec_4 l1 l3 l2)
        · refine r_iconst (v := (1 : Int32)) dX8_looseRealsOf_44 rfl ?_
          refine r_goto (t := 49) dX8_looseRealsOf_45 rfl ?_
          exact r_sub (L' := [(0, .ref 24), (1, .int l1), (3, .int l3)]) (sub_c rfl (sub_c rfl (sub_c rfl sub_n))) (rb_X8_looseRealsOf_49 hE hrec_4 l1 l3 (1 : Int32) l2)
    · exact r_sub (L' := [(0, .ref 24), (1, .int l1), (3, .int l3)]) (sub_c rfl (sub_c rfl (sub_c rfl sub_n))) (rb_X8_looseRealsOf_48 hE hrec_4 l1 l3 l2)
def f_X8_looseRealsOf (q : SS) (a1 : Int32) : Option Int32 :=
  b_X8_looseRealsOf_4 q a1 (0 : Int32) (0 : Int32)
theorem e_X8_looseRealsOf {E : EE} (hE : GE E) (q : SS) (a1 : Int32) : R E (κi E q) 3 104 0 [(0, .ref 24), (1, .int a1)] [] q (f_X8_looseRealsOf q a1) := by
  unfold f_X8_looseRealsOf
  refine r_iconst (v := (0 : Int32)) dX8_looseRealsOf_0 rfl ?_
  refine r_istore_n (L2 := [(0, .ref 24), (1, .int a1), (2, .int (0 : Int32))]) dX8_looseRealsOf_1 rfl rfl ?_
  refine r_iconst (v := (0 : Int32)) dX8_looseRealsOf_2 rfl ?_
  refine r_istore_n (L2 := [(0, .ref 24), (1, .int a1), (2, .int (0 : Int32)), (3, .int (0 : Int32))]) dX8_looseRealsOf_3 rfl rfl ?_
  exact r_sub (L' := [(0, .ref 24), (1, .int a1), (2, .int (0 : Int32)), (3, .int (0 : Int32))]) (sub_c rfl (sub_c rfl (sub_c rfl (sub_c rfl sub_n)))) (rb_X8_looseRealsOf_4 hE q a1 (0 : Int32) (0 : Int32))
def b_X11_friend_89 : SS → Int32 → Int32 → Int32 → Int32 → Int32 → Option (Int32 × SS) :=
  fx6 (fun (rec_89 : SS → Int32 → Int32 → Int32 → Int32 → Int32 → Option (Int32 × SS)) (q : SS) (l2 : Int32) (l4 : Int32) (l5 : Int32) (l6 : Int32) (l7 : Int32) =>
  if l6 < l7 then
  (some ((-2 : Int32), q))
  else
  (if ((12 : Int32) * (l5 + l7)) < (l2 * l4) then
  (rec_89 q l2 l4 l5 l6 (l7 + (1 : Int32)))
  else
  (some (l7, q)))) FU
theorem rb_X11_friend_89 {E : EE} (hE : GE E) (q : SS) (l2 : Int32) (l4 : Int32) (l5 : Int32) (l6 : Int32) (l7 : Int32) : R E (κI E) 4 163 89 [(2, .int l2), (4, .int l4), (5, .int l5), (6, .int l6), (7, .int l7)] [] q (b_X11_friend_89 q l2 l4 l5 l6 l7) := by
  unfold b_X11_friend_89
  refine fx6_ok (P := fun q l2 l4 l5 l6 l7 o => R E (κI E) 4 163 89 [(2, .int l2), (4, .int l4), (5, .int l5), (6, .int l6), (7, .int l7)] [] q o) (fun _ _ _ _ _ _ => r_no) (fun rec_89 hrec_89 q l2 l4 l5 l6 l7 => ?_) _ _ _ _ _ _ _
  refine r_iload (x := l7) dX11_friend_89 rfl ?_
  refine r_iload (x := l6) dX11_friend_91 rfl ?_
  refine r_icmp_gt (t := 120) dX11_friend_93 rfl (fun h8 => ?_) (fun h8 => ?_)
  · refine r_bipush (v := (-2 : Int32)) dX11_friend_120 rfl ?_
    exact r_ireturn dX11_friend_122 rfl rfl
  · refine r_bipush (v := (12 : Int32)) dX11_friend_96 rfl ?_
    refine r_iload (x := l5) dX11_friend_98 rfl ?_
    refine r_iload (x := l7) dX11_friend_100 rfl ?_
    refine r_iadd dX11_friend_102 ?_
    refine r_imul dX11_friend_103 ?_
    refine r_iload_n (x := l2) dX11_friend_104 rfl ?_
    refine r_iload (x := l4) dX11_friend_105 rfl ?_
    refine r_imul dX11_friend_107 ?_
    refine r_icmp_lt (t := 114) dX11_friend_108 rfl (fun h7 => ?_) (fun h7 => ?_)
    · refine r_iinc (x := l7) (v := (l7 + (1 : Int32))) (L2 := [(2, .int l2), (4, .int l4), (5, .int l5), (6, .int l6), (7, .int (l7 + (1 : Int32)))]) dX11_friend_114 rfl rfl rfl rfl ?_
      refine r_goto (t := 89) dX11_friend_117 rfl ?_
      exact r_sub (L' := [(2, .int l2), (4, .int l4), (5, .int l5), (6, .int l6), (7, .int (l7 + (1 : Int32)))]) (sub_c rfl (sub_c rfl (sub_c rfl (sub_c rfl (sub_c rfl sub_n))))) (hrec_89 q l2 l4 l5 l6 (l7 + (1 : Int32)))
    · refine r_iload (x := l7) dX11_friend_111 rfl ?_
      exact r_ireturn dX11_friend_113 rfl rfl
def b_X11_friend_84 (q : SS) (l2 : Int32) (l4 : Int32) (l5 : Int32) (s0 : Int32) : Option (Int32 × SS) :=
  b_X11_friend_89 q l2 l4 l5 s0 (0 : Int32)
theorem rb_X11_friend_84 {E : EE} (hE : GE E) (q : SS) (l2 : Int32) (l4 : Int32) (l5 : Int32) (s0 : Int32) : R E (κI E) 4 163 84 [(2, .int l2), (4, .int l4), (5, .int l5)] [.int s0] q (b_X11_friend_84 q l2 l4 l5 s0) := by
  unfold b_X11_friend_84
  refine r_istore (L2 := [(2, .int l2), (4, .int l4), (5, .int l5), (6, .int s0)]) dX11_friend_84 rfl rfl ?_
  refine r_iconst (v := (0 : Int32)) dX11_friend_86 rfl ?_
  refine r_istore (L2 := [(2, .int l2), (4, .int l4), (5, .int l5), (6, .int s0), (7, .int (0 : Int32))]) dX11_friend_87 rfl rfl ?_
  exact r_sub (L' := [(2, .int l2), (4, .int l4), (5, .int l5), (6, .int s0), (7, .int (0 : Int32))]) (sub_c rfl (sub_c rfl (sub_c rfl (sub_c rfl (sub_c rfl sub_n))))) (rb_X11_friend_89 hE q l2 l4 l5 s0 (0 : Int32))
def f_X11_friend (q : SS) (a1 : Int32) (a2 : Int32) : Option (Int32 × SS) :=
  (f_X10_isPerson q a1).bind fun r1 =>
  if r1 = 0 then
  (some ((-1 : Int32), q))
  else
  (if a2 < 0 then
  (some ((-1 : Int32), q))
  else
  (if a2 ≤ (12 : Int32) then
  ((f_X11_now q).bind fun r2 =>
  (f_X8_reals r2).bind fun r3 =>
  if r3 = 0 then
  (if a2 = 0 then
  (some ((0 : Int32), r2))
  else
  (some ((-2 : Int32), r2)))
  else
  ((f_X8_realsOf r2 a1).bind fun r5 =>
  (f_X10_get r2 (1 : Int32) a1).bind fun r6 =>
  if r6 = (1 : Int32) then
  (b_X11_friend_84 r2 a2 r3 r5 (0 : Int32))
  else
  ((f_X8_looseReals r2).bind fun r9 =>
  (f_X8_looseRealsOf r2 a1).bind fun r10 =>
  b_X11_friend_84 r2 a2 r3 r5 (r9 - r10))))
  else
  (some ((-1 : Int32), q))))
theorem e_X11_friend {E : EE} (hE : GE E) (q : SS) (a1 : Int32) (a2 : Int32) : R E (κI E) 4 163 0 [(0, .ref 0), (1, .int a1), (2, .int a2)] [] q (f_X11_friend q a1 a2) := by
  unfold f_X11_friend
  refine r_aload_n (x := 0) dX11_friend_0 rfl ?_
  refine r_getA dX11_friend_1 (fa_11_10_0 hE) ?_
  refine r_iload_n (x := a1) dX11_friend_4 rfl ?_
  refine r_calli (k := 0) (idx := 140) (y := 128) (as := [.ref 1, .int a1]) (rest := []) (L0 := [(0, .ref 1), (1, .int a1)]) dX11_friend_5 rfl rfl rfl rfl rfl (vok_v (ob_1 hE) rfl) rfl (r_dep (by decide) (e_X10_isPerson hE q a1)) (fun r1 => ?_)
  refine r_if_eq (t := 21) dX11_friend_8 rfl (fun h15 => ?_) (fun h15 => ?_)
  · refine r_iconst (v := (-1 : Int32)) dX11_friend_21 rfl ?_
    exact r_ireturn dX11_friend_22 rfl rfl
  · refine r_iload_n (x := a2) dX11_friend_11 rfl ?_
    refine r_if_lt (t := 21) dX11_friend_12 rfl (fun h14 => ?_) (fun h14 => ?_)
    · refine r_iconst (v := (-1 : Int32)) dX11_friend_21 rfl ?_
      exact r_ireturn dX11_friend_22 rfl rfl
    · refine r_iload_n (x := a2) dX11_friend_15 rfl ?_
      refine r_bipush (v := (12 : Int32)) dX11_friend_16 rfl ?_
      refine r_icmp_le (t := 23) dX11_friend_18 rfl (fun h13 => ?_) (fun h13 => ?_)
      · refine r_aload_n (x := 0) dX11_friend_23 rfl ?_
        refine r_callA (k := 0) (idx := 143) (y := 148) (as := [.ref 0]) (rest := []) (L0 := [(0, .ref 0)]) dX11_friend_24 rfl rfl rfl rfl rfl (vok_v (ob_0 hE) rfl) rfl (r_dep (by decide) (e_X11_now hE q)) (fun r2 => ?_)
        refine r_astore_n (L2 := [(0, .ref 0), (1, .int a1), (2, .int a2), (3, .ref 24)]) dX11_friend_27 rfl rfl ?_
        refine r_aload_n (x := 24) dX11_friend_28 rfl ?_
        refine r_calli (k := 0) (idx := 223) (y := 102) (as := [.ref 24]) (rest := []) (L0 := [(0, .ref 24)]) dX11_friend_29 rfl rfl rfl rfl rfl (vok_v (ob_24 hE) rfl) rfl (r_dep (by decide) (e_X8_reals hE r2)) (fun r3 => ?_)
        refine r_istore (L2 := [(0, .ref 0), (1, .int a1), (2, .int a2), (3, .ref 24), (4, .int r3)]) dX11_friend_32 rfl rfl ?_
        refine r_iload (x := r3) dX11_friend_34 rfl ?_
        refine r_if_ne (t := 50) dX11_friend_36 rfl (fun h12 => ?_) (fun h12 => ?_)
        · refine r_iload_n (x := a2) dX11_friend_39 rfl ?_
          refine r_if_ne (t := 47) dX11_friend_40 rfl (fun h4 => ?_) (fun h4 => ?_)
          · refine r_iconst (v := (0 : Int32)) dX11_friend_43 rfl ?_
            refine r_goto (t := 49) dX11_friend_44 rfl ?_
            exact r_ireturn dX11_friend_49 rfl rfl
          · refine r_bipush (v := (-2 : Int32)) dX11_friend_47 rfl ?_
            exact r_ireturn dX11_friend_49 rfl rfl
        · refine r_aload_n (x := 24) dX11_friend_50 rfl ?_
          refine r_iload_n (x := a1) dX11_friend_51 rfl ?_
          refine r_calli (k := 0) (idx := 150) (y := 101) (as := [.ref 24, .int a1]) (rest := []) (L0 := [(0, .ref 24), (1, .int a1)]) dX11_friend_52 rfl rfl rfl rfl rfl (vok_v (ob_24 hE) rfl) rfl (r_dep (by decide) (e_X8_realsOf hE r2 a1)) (fun r5 => ?_)
          refine r_istore (L2 := [(0, .ref 0), (1, .int a1), (2, .int a2), (3, .ref 24), (4, .int r3), (5, .int r5)]) dX11_friend_55 rfl rfl ?_
          refine r_aload_n (x := 0) dX11_friend_57 rfl ?_
          refine r_getA dX11_friend_58 (fa_11_10_0 hE) ?_
          refine r_iconst (v := (1 : Int32)) dX11_friend_61 rfl ?_
          refine r_iload_n (x := a1) dX11_friend_62 rfl ?_
          refine r_calli (k := 0) (idx := 129) (y := 134) (as := [.ref 1, .int (1 : Int32), .int a1]) (rest := []) (L0 := [(0, .ref 1), (1, .int (1 : Int32)), (2, .int a1)]) dX11_friend_63 rfl rfl rfl rfl rfl (vok_v (ob_1 hE) rfl) rfl (r_dep (by decide) (e_X10_get hE r2 (1 : Int32) a1)) (fun r6 => ?_)
          refine r_iconst (v := (1 : Int32)) dX11_friend_66 rfl ?_
          refine r_icmp_ne (t := 74) dX11_friend_67 rfl (fun h11 => ?_) (fun h11 => ?_)
          · refine r_iconst (v := (0 : Int32)) dX11_friend_70 rfl ?_
            refine r_goto (t := 84) dX11_friend_71 rfl ?_
            exact r_sub (L' := [(2, .int a2), (4, .int r3), (5, .int r5)]) (sub_c rfl (sub_c rfl (sub_c rfl sub_n))) (rb_X11_friend_84 hE r2 a2 r3 r5 (0 : Int32))
          · refine r_aload_n (x := 24) dX11_friend_74 rfl ?_
            refine r_calli (k := 0) (idx := 258) (y := 105) (as := [.ref 24]) (rest := []) (L0 := [(0, .ref 24)]) dX11_friend_75 rfl rfl rfl rfl rfl (vok_v (ob_24 hE) rfl) rfl (r_dep (by decide) (e_X8_looseReals hE r2)) (fun r9 => ?_)
            refine r_aload_n (x := 24) dX11_friend_78 rfl ?_
            refine r_iload_n (x := a1) dX11_friend_79 rfl ?_
            refine r_calli (k := 0) (idx := 261) (y := 104) (as := [.ref 24, .int a1]) (rest := [.int r9]) (L0 := [(0, .ref 24), (1, .int a1)]) dX11_friend_80 rfl rfl rfl rfl rfl (vok_v (ob_24 hE) rfl) rfl (r_dep (by decide) (e_X8_looseRealsOf hE r2 a1)) (fun r10 => ?_)
            refine r_isub dX11_friend_83 ?_
            exact r_sub (L' := [(2, .int a2), (4, .int r3), (5, .int r5)]) (sub_c rfl (sub_c rfl (sub_c rfl sub_n))) (rb_X11_friend_84 hE r2 a2 r3 r5 (r9 - r10))
      · refine r_iconst (v := (-1 : Int32)) dX11_friend_21 rfl ?_
        exact r_ireturn dX11_friend_22 rfl rfl

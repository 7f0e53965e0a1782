def f_X12_rowFault (q : SS) (a1 : Int32) : Option Int32 :=
  if vin a1 6 then
  if (q.1 89 a1.toNatClampNeg) = (-1 : Int32) then
  (some (-11 : Int32))
  else
  (if vin a1 6 then
  if (q.1 89 a1.toNatClampNeg) = (-2 : Int32) then
  (some (0 : Int32))
  else
  (some (-12 : Int32))
  else none)
  else none
theorem e_X12_rowFault {E : EE} (hE : GE E) (q : SS) (a1 : Int32) : R E (κi E q) 0 234 0 [(0, .ref 60), (1, .int a1)] [] q (f_X12_rowFault q a1) := by
  unfold f_X12_rowFault
  refine r_aload_n (x := 60) gX12_rowFault_0.1 rfl ?_
  refine r_getA gX12_rowFault_0.2.1 (fa_12_98_60 hE) ?_
  refine r_iload_n (x := a1) gX12_rowFault_0.2.2.1 rfl ?_
  refine r_iaload gX12_rowFault_0.2.2.2.1 (ar_89 hE) ?_
  refine r_iconst (v := (-1 : Int32)) gX12_rowFault_0.2.2.2.2.1 rfl ?_
  refine r_icmp_ne (t := 15) gX12_rowFault_0.2.2.2.2.2.1 rfl (fun h2 => ?_) (fun h2 => ?_)
  · refine r_bipush (v := (-11 : Int32)) gX12_rowFault_0.2.2.2.2.2.2.1 rfl ?_
    refine r_goto (t := 32) gX12_rowFault_0.2.2.2.2.2.2.2.1 rfl ?_
    exact r_ireturn gX12_rowFault_30.2.1 rfl rfl
  · refine r_aload_n (x := 60) gX12_rowFault_0.2.2.2.2.2.2.2.2.1 rfl ?_
    refine r_getA gX12_rowFault_0.2.2.2.2.2.2.2.2.2.1 (fa_12_98_60 hE) ?_
    refine r_iload_n (x := a1) gX12_rowFault_0.2.2.2.2.2.2.2.2.2.2.1 rfl ?_
    refine r_iaload gX12_rowFault_0.2.2.2.2.2.2.2.2.2.2.2.1 (ar_89 hE) ?_
    refine r_bipush (v := (-2 : Int32)) gX12_rowFault_0.2.2.2.2.2.2.2.2.2.2.2.2.1 rfl ?_
    refine r_icmp_ne (t := 30) gX12_rowFault_0.2.2.2.2.2.2.2.2.2.2.2.2.2.1 rfl (fun h1 => ?_) (fun h1 => ?_)
    · refine r_iconst (v := (0 : Int32)) gX12_rowFault_0.2.2.2.2.2.2.2.2.2.2.2.2.2.2.1 rfl ?_
      refine r_goto (t := 32) gX12_rowFault_0.2.2.2.2.2.2.2.2.2.2.2.2.2.2.2.1 rfl ?_
      exact r_ireturn gX12_rowFault_30.2.1 rfl rfl
    · refine r_bipush (v := (-12 : Int32)) gX12_rowFault_30.1 rfl ?_
      exact r_ireturn gX12_rowFault_30.2.1 rfl rfl
def f_X12_at (q : SS) (a1 : Int32) (a2 : Int32) : Option Int32 :=
  if vin (((60 : Int32) * a1) + a2) 360 then
  some ((q.2 91 (((60 : Int32) * a1) + a2).toNatClampNeg).toInt32)
  else none
theorem e_X12_at {E : EE} (hE : GE E) (q : SS) (a1 : Int32) (a2 : Int32) : R E (κi E q) 0 235 0 [(0, .ref 60), (1, .int a1), (2, .int a2)] [] q (f_X12_at q a1 a2) := by
  unfold f_X12_at
  refine r_aload_n (x := 60) gX12_at_0.1 rfl ?_
  refine r_getA gX12_at_0.2.1 (fa_12_104_60 hE) ?_
  refine r_bipush (v := (60 : Int32)) gX12_at_0.2.2.1 rfl ?_
  refine r_iload_n (x := a1) gX12_at_0.2.2.2.1 rfl ?_
  refine r_imul gX12_at_0.2.2.2.2.1 ?_
  refine r_iload_n (x := a2) gX12_at_0.2.2.2.2.2.1 rfl ?_
  refine r_iadd gX12_at_0.2.2.2.2.2.2.1 ?_
  refine r_laload gX12_at_0.2.2.2.2.2.2.2.1 (ar_91 hE) ?_
  refine r_l2i gX12_at_0.2.2.2.2.2.2.2.2.1 ?_
  exact r_ireturn gX12_at_0.2.2.2.2.2.2.2.2.2.1 rfl rfl
def b_X12_longOf_2 (q : SS) : Int32 → Int32 → Int32 → Option Int32 :=
  fx3 (fun (rec_2 : Int32 → Int32 → Int32 → Option Int32) (l1 : Int32) (l2 : Int32) (l3 : Int32) =>
  if l2 ≤ l3 then
  (some l3)
  else
  (if vin l1 6 then
  if (q.1 90 l1.toNatClampNeg) ≤ l3 then
  (some l3)
  else
  ((f_X12_at q l1 l3).bind fun r1 =>
  (f_X12_areSlip q r1).bind fun r2 =>
  if r2 = 0 then
  (some l3)
  else
  (rec_2 l1 l2 (l3 + (1 : Int32))))
  else none)) FU
theorem rb_X12_longOf_2 {E : EE} (hE : GE E) (q : SS) (l1 : Int32) (l2 : Int32) (l3 : Int32) : R E (κi E q) 3 236 2 [(0, .ref 60), (1, .int l1), (2, .int l2), (3, .int l3)] [] q (b_X12_longOf_2 q l1 l2 l3) := by
  unfold b_X12_longOf_2
  refine fx3_ok (P := fun l1 l2 l3 o => R E (κi E q) 3 236 2 [(0, .ref 60), (1, .int l1), (2, .int l2), (3, .int l3)] [] q o) (fun _ _ _ => r_no) (fun rec_2 hrec_2 l1 l2 l3 => ?_) _ _ _ _
  refine r_iload_n (x := l3) gX12_longOf_0.2.2.1 rfl ?_
  refine r_iload_n (x := l2) gX12_longOf_0.2.2.2.1 rfl ?_
  refine r_icmp_ge (t := 36) gX12_longOf_0.2.2.2.2.1 rfl (fun h5 => ?_) (fun h5 => ?_)
  · refine r_iload_n (x := l3) gX12_longOf_24.2.2.2.2.1 rfl ?_
    exact r_ireturn gX12_longOf_24.2.2.2.2.2.1 rfl rfl
  · refine r_iload_n (x := l3) gX12_longOf_0.2.2.2.2.2.1 rfl ?_
    refine r_aload_n (x := 60) gX12_longOf_0.2.2.2.2.2.2.1 rfl ?_
    refine r_getA gX12_longOf_0.2.2.2.2.2.2.2.1 (fa_12_101_60 hE) ?_
    refine r_iload_n (x := l1) gX12_longOf_0.2.2.2.2.2.2.2.2.1 rfl ?_
    refine r_iaload gX12_longOf_0.2.2.2.2.2.2.2.2.2.1 (ar_90 hE) ?_
    refine r_icmp_ge (t := 36) gX12_longOf_0.2.2.2.2.2.2.2.2.2.2.1 rfl (fun h4 => ?_) (fun h4 => ?_)
    · refine r_iload_n (x := l3) gX12_longOf_24.2.2.2.2.1 rfl ?_
      exact r_ireturn gX12_longOf_24.2.2.2.2.2.1 rfl rfl
    · refine r_aload_n (x := 60) gX12_longOf_0.2.2.2.2.2.2.2.2.2.2.2.1 rfl ?_
      refine r_aload_n (x := 60) gX12_longOf_0.2.2.2.2.2.2.2.2.2.2.2.2.1 rfl ?_
      refine r_iload_n (x := l1) gX12_longOf_0.2.2.2.2.2.2.2.2.2.2.2.2.2.1 rfl ?_
      refine r_iload_n (x := l3) gX12_longOf_0.2.2.2.2.2.2.2.2.2.2.2.2.2.2.1 rfl ?_
      refine r_calli (k := 0) (idx := 263) (y := 235) (as := [.ref 60, .int l1, .int l3]) (rest := [.ref 60]) (L0 := [(0, .ref 60), (1, .int l1), (2, .int l3)]) gX12_longOf_0.2.2.2.2.2.2.2.2.2.2.2.2.2.2.2.1 rfl rfl rfl rfl rfl (vok_v (ob_60 hE) rfl) rfl (r_dep (by decide) (e_X12_at hE q l1 l3)) (fun r1 => ?_)
      refine r_calli (k := 0) (idx := 257) (y := 232) (as := [.ref 60, .int r1]) (rest := []) (L0 := [(0, .ref 60), (1, .int r1)]) gX12_longOf_24.1 rfl rfl rfl rfl rfl (vok_v (ob_60 hE) rfl) rfl (r_dep (by decide) (e_X12_areSlip hE q r1)) (fun r2 => ?_)
      refine r_if_eq (t := 36) gX12_longOf_24.2.1 rfl (fun h3 => ?_) (fun h3 => ?_)
      · refine r_iload_n (x := l3) gX12_longOf_24.2.2.2.2.1 rfl ?_
        exact r_ireturn gX12_longOf_24.2.2.2.2.2.1 rfl rfl
      · refine r_iinc (x := l3) (v := (l3 + (1 : Int32))) (L2 := [(0, .ref 60), (1, .int l1), (2, .int l2), (3, .int (l3 + (1 : Int32)))]) gX12_longOf_24.2.2.1 rfl rfl rfl rfl ?_
        refine r_goto (t := 2) gX12_longOf_24.2.2.2.1 rfl ?_
        exact r_sub (L' := [(0, .ref 60), (1, .int l1), (2, .int l2), (3, .int (l3 + (1 : Int32)))]) (sub_c rfl (sub_c rfl (sub_c rfl (sub_c rfl sub_n)))) (hrec_2 l1 l2 (l3 + (1 : Int32)))
def f_X12_longOf (q : SS) (a1 : Int32) (a2 : Int32) : Option Int32 :=
  b_X12_longOf_2 q a1 a2 (0 : Int32)
theorem e_X12_longOf {E : EE} (hE : GE E) (q : SS) (a1 : Int32) (a2 : Int32) : R E (κi E q) 3 236 0 [(0, .ref 60), (1, .int a1), (2, .int a2)] [] q (f_X12_longOf q a1 a2) := by
  unfold f_X12_longOf
  refine r_iconst (v := (0 : Int32)) gX12_longOf_0.1 rfl ?_
  refine r_istore_n (L2 := [(0, .ref 60), (1, .int a1), (2, .int a2), (3, .int (0 : Int32))]) gX12_longOf_0.2.1 rfl rfl ?_
  exact r_sub (L' := [(0, .ref 60), (1, .int a1), (2, .int a2), (3, .int (0 : Int32))]) (sub_c rfl (sub_c rfl (sub_c rfl (sub_c rfl sub_n)))) (rb_X12_longOf_2 hE q a1 a2 (0 : Int32))
def b_X12_isAsTold_56 (rec_2 : Int32 → Option Int32) (q : SS) (l1 : Int32) : Option Int32 :=
  rec_2 (l1 + (1 : Int32))
theorem rb_X12_isAsTold_56 {E : EE} (hE : GE E) {q : SS} {rec_2 : Int32 → Option Int32} (hrec_2 : ∀ (yl1 : Int32), R E (κi E q) 1 258 2 [(0, .ref 60), (1, .int yl1)] [] q (rec_2 yl1)) (l1 : Int32) : R E (κi E q) 1 258 56 [(0, .ref 60), (1, .int l1)] [] q (b_X12_isAsTold_56 rec_2 q l1) := by
  unfold b_X12_isAsTold_56
  refine r_iinc (x := l1) (v := (l1 + (1 : Int32))) (L2 := [(0, .ref 60), (1, .int (l1 + (1 : Int32)))]) gX12_isAsTold_56.1 rfl rfl rfl rfl ?_
  refine r_goto (t := 2) gX12_isAsTold_56.2.1 rfl ?_
  exact r_sub (L' := [(0, .ref 60), (1, .int (l1 + (1 : Int32)))]) (sub_c rfl (sub_c rfl sub_n)) (hrec_2 (l1 + (1 : Int32)))
def b_X12_isAsTold_2 (q : SS) : Int32 → Option Int32 :=
  fx1 (fun (rec_2 : Int32 → Option Int32) (l1 : Int32) =>
  if (q.1 60 6) ≤ l1 then
  (some (1 : Int32))
  else
  (if vin (q.1 60 37) 6 then
  if (q.1 90 (q.1 60 37).toNatClampNeg) ≤ l1 then
  (some (1 : Int32))
  else
  ((f_X12_at q (q.1 60 37) l1).bind fun r1 =>
  if r1 = (-1 : Int32) then
  (b_X12_isAsTold_56 rec_2 q l1)
  else
  ((f_X12_at q (q.1 60 37) l1).bind fun r2 =>
  if vin l1 12 then
  if r2 = (q.1 81 l1.toNatClampNeg) then
  (b_X12_isAsTold_56 rec_2 q l1)
  else
  (some (0 : Int32))
  else none))
  else none)) FU
theorem rb_X12_isAsTold_2 {E : EE} (hE : GE E) (q : SS) (l1 : Int32) : R E (κi E q) 1 258 2 [(0, .ref 60), (1, .int l1)] [] q (b_X12_isAsTold_2 q l1) := by
  unfold b_X12_isAsTold_2
  refine fx1_ok (P := fun l1 o => R E (κi E q) 1 258 2 [(0, .ref 60), (1, .int l1)] [] q o) (fun _ => r_no) (fun rec_2 hrec_2 l1 => ?_) _ _
  refine r_iload_n (x := l1) gX12_isAsTold_0.2.2.1 rfl ?_
  refine r_aload_n (x := 60) gX12_isAsTold_0.2.2.2.1 rfl ?_
  refine r_getI gX12_isAsTold_0.2.2.2.2.1 (ff_12_122_60 hE) (by decide) ?_
  refine r_icmp_ge (t := 62) gX12_isAsTold_0.2.2.2.2.2.1 rfl (fun h6 => ?_) (fun h6 => ?_)
  · refine r_iconst (v := (1 : Int32)) gX12_isAsTold_56.2.2.1 rfl ?_
    exact r_ireturn gX12_isAsTold_56.2.2.2.1 rfl rfl
  · refine r_iload_n (x := l1) gX12_isAsTold_0.2.2.2.2.2.2.1 rfl ?_
    refine r_aload_n (x := 60) gX12_isAsTold_0.2.2.2.2.2.2.2.1 rfl ?_
    refine r_getA gX12_isAsTold_0.2.2.2.2.2.2.2.2.1 (fa_12_101_60 hE) ?_
    refine r_aload_n (x := 60) gX12_isAsTold_0.2.2.2.2.2.2.2.2.2.1 rfl ?_
    refine r_getI gX12_isAsTold_0.2.2.2.2.2.2.2.2.2.2.1 (ff_12_313_60 hE) (by decide) ?_
    refine r_iaload gX12_isAsTold_0.2.2.2.2.2.2.2.2.2.2.2.1 (ar_90 hE) ?_
    refine r_icmp_ge (t := 62) gX12_isAsTold_0.2.2.2.2.2.2.2.2.2.2.2.2.1 rfl (fun h5 => ?_) (fun h5 => ?_)
    · refine r_iconst (v := (1 : Int32)) gX12_isAsTold_56.2.2.1 rfl ?_
      exact r_ireturn gX12_isAsTold_56.2.2.2.1 rfl rfl
    · refine r_aload_n (x := 60) gX12_isAsTold_0.2.2.2.2.2.2.2.2.2.2.2.2.2.1 rfl ?_
      refine r_aload_n (x := 60) gX12_isAsTold_0.2.2.2.2.2.2.2.2.2.2.2.2.2.2.1 rfl ?_
      refine r_getI gX12_isAsTold_0.2.2.2.2.2.2.2.2.2.2.2.2.2.2.2.1 (ff_12_313_60 hE) (by decide) ?_
      refine r_iload_n (x := l1) gX12_isAsTold_28.1 rfl ?_
      refine r_calli (k := 0) (idx := 263) (y := 235) (as := [.ref 60, .int (q.1 60 37), .int l1]) (rest := []) (L0 := [(0, .ref 60), (1, .int (q.1 60 37)), (2, .int l1)]) gX12_isAsTold_28.2.1 rfl rfl rfl rfl rfl (vok_v (ob_60 hE) rfl) rfl (r_dep (by decide) (e_X12_at hE q (q.1 60 37) l1)) (fun r1 => ?_)
      refine r_iconst (v := (-1 : Int32)) gX12_isAsTold_28.2.2.1 rfl ?_
      refine r_icmp_eq (t := 56) gX12_isAsTold_28.2.2.2.1 rfl (fun h4 => ?_) (fun h4 => ?_)
      · exact r_sub (L' := [(0, .ref 60), (1, .int l1)]) (sub_c rfl (sub_c rfl sub_n)) (rb_X12_isAsTold_56 hE hrec_2 l1)
      · refine r_aload_n (x := 60) gX12_isAsTold_28.2.2.2.2.1 rfl ?_
        refine r_aload_n (x := 60) gX12_isAsTold_28.2.2.2.2.2.1 rfl ?_
        refine r_getI gX12_isAsTold_28.2.2.2.2.2.2.1 (ff_12_313_60 hE) (by decide) ?_
        refine r_iload_n (x := l1) gX12_isAsTold_28.2.2.2.2.2.2.2.1 rfl ?_
        refine r_calli (k := 0) (idx := 263) (y := 235) (as := [.ref 60, .int (q.1 60 37), .int l1]) (rest := []) (L0 := [(0, .ref 60), (1, .int (q.1 60 37)), (2, .int l1)]) gX12_isAsTold_28.2.2.2.2.2.2.2.2.1 rfl rfl rfl rfl rfl (vok_v (ob_60 hE) rfl) rfl (r_dep (by decide) (e_X12_at hE q (q.1 60 37) l1)) (fun r2 => ?_)
        refine r_aload_n (x := 60) gX12_isAsTold_28.2.2.2.2.2.2.2.2.2.1 rfl ?_
        refine r_getA gX12_isAsTold_28.2.2.2.2.2.2.2.2.2.2.1 (fa_12_74_60 hE) ?_
        refine r_iload_n (x := l1) gX12_isAsTold_28.2.2.2.2.2.2.2.2.2.2.2.1 rfl ?_
        refine r_iaload gX12_isAsTold_28.2.2.2.2.2.2.2.2.2.2.2.2.1 (ar_81 hE) ?_
        refine r_icmp_eq (t := 56) gX12_isAsTold_28.2.2.2.2.2.2.2.2.2.2.2.2.2.1 rfl (fun h3 => ?_) (fun h3 => ?_)
        · exact r_sub (L' := [(0, .ref 60), (1, .int l1)]) (sub_c rfl (sub_c rfl sub_n)) (rb_X12_isAsTold_56 hE hrec_2 l1)
        · refine r_iconst (v := (0 : Int32)) gX12_isAsTold_28.2.2.2.2.2.2.2.2.2.2.2.2.2.2.1 rfl ?_
          exact r_ireturn gX12_isAsTold_28.2.2.2.2.2.2.2.2.2.2.2.2.2.2.2.1 rfl rfl
def f_X12_isAsTold (q : SS)  : Option Int32 :=
  b_X12_isAsTold_2 q (0 : Int32)
theorem e_X12_isAsTold {E : EE} (hE : GE E) (q : SS)  : R E (κi E q) 1 258 0 [(0, .ref 60)] [] q (f_X12_isAsTold q) := by
  unfold f_X12_isAsTold
  refine r_iconst (v := (0 : Int32)) gX12_isAsTold_0.1 rfl ?_
  refine r_istore_n (L2 := [(0, .ref 60), (1, .int (0 : Int32))]) gX12_isAsTold_0.2.1 rfl rfl ?_
  exact r_sub (L' := [(0, .ref 60), (1, .int (0 : Int32))]) (sub_c rfl (sub_c rfl sub_n)) (rb_X12_isAsTold_2 hE q (0 : Int32))
def b_X12_bitsOf_4 (q : SS) : Int32 → Int32 → Option Int32 :=
  fx2 (fun (rec_4 : Int32 → Int32 → Option Int32) (l1 : Int32) (l2 : Int32) =>
  if l2 = 0 then
  (some l1)
  else
  (nm (l2 &&& (l2 - (1 : Int32))) fun v1 =>
  rec_4 (l1 + (1 : Int32)) v1)) FU
theorem rb_X12_bitsOf_4 {E : EE} (hE : GE E) (q : SS) (l1 : Int32) (l2 : Int32) : R E (κi E q) 0 190 4 [(1, .int l1), (2, .int l2)] [] q (b_X12_bitsOf_4 q l1 l2) := by
  unfold b_X12_bitsOf_4
  refine fx2_ok (P := fun l1 l2 o => R E (κi E q) 0 190 4 [(1, .int l1), (2, .int l2)] [] q o) (fun _ _ => r_no) (fun rec_4 hrec_4 l1 l2 => ?_) _ _ _
  refine r_iload_n (x := l2) gX12_bitsOf_0.2.2.2.2.1 rfl ?_
  refine r_if_eq (t := 20) gX12_bitsOf_0.2.2.2.2.2.1 rfl (fun h2 => ?_) (fun h2 => ?_)
  · refine r_iload_n (x := l1) gX12_bitsOf_0.2.2.2.2.2.2.2.2.2.2.2.2.2.2.1 rfl ?_
    exact r_ireturn gX12_bitsOf_0.2.2.2.2.2.2.2.2.2.2.2.2.2.2.2.1 rfl rfl
  · refine r_iinc (x := l1) (v := (l1 + (1 : Int32))) (L2 := [(1, .int (l1 + (1 : Int32))), (2, .int l2)]) gX12_bitsOf_0.2.2.2.2.2.2.1 rfl rfl rfl rfl ?_
    refine r_iload_n (x := l2) gX12_bitsOf_0.2.2.2.2.2.2.2.1 rfl ?_
    refine r_iload_n (x := l2) gX12_bitsOf_0.2.2.2.2.2.2.2.2.1 rfl ?_
    refine r_iconst (v := (1 : Int32)) gX12_bitsOf_0.2.2.2.2.2.2.2.2.2.1 rfl ?_
    refine r_isub gX12_bitsOf_0.2.2.2.2.2.2.2.2.2.2.1 ?_
    refine r_iand gX12_bitsOf_0.2.2.2.2.2.2.2.2.2.2.2.1 ?_
    refine r_nmI fun v1 _ => ?_
    refine r_istore_n (L2 := [(1, .int (l1 + (1 : Int32))), (2, .int v1)]) gX12_bitsOf_0.2.2.2.2.2.2.2.2.2.2.2.2.1 rfl rfl ?_
    refine r_goto (t := 4) gX12_bitsOf_0.2.2.2.2.2.2.2.2.2.2.2.2.2.1 rfl ?_
    exact r_sub (L' := [(1, .int (l1 + (1 : Int32))), (2, .int v1)]) (sub_c rfl (sub_c rfl sub_n)) (hrec_4 (l1 + (1 : Int32)) v1)
def f_X12_bitsOf (q : SS) (a0 : Int32) : Option Int32 :=
  b_X12_bitsOf_4 q (0 : Int32) a0
theorem e_X12_bitsOf {E : EE} (hE : GE E) (q : SS) (a0 : Int32) : R E (κi E q) 0 190 0 [(0, .int a0)] [] q (f_X12_bitsOf q a0) := by
  unfold f_X12_bitsOf
  refine r_iconst (v := (0 : Int32)) gX12_bitsOf_0.1 rfl ?_
  refine r_istore_n (L2 := [(0, .int a0), (1, .int (0 : Int32))]) gX12_bitsOf_0.2.1 rfl rfl ?_
  refine r_iload_n (x := a0) gX12_bitsOf_0.2.2.1 rfl ?_
  refine r_istore_n (L2 := [(0, .int a0), (1, .int (0 : Int32)), (2, .int a0)]) gX12_bitsOf_0.2.2.2.1 rfl rfl ?_
  exact r_sub (L' := [(1, .int (0 : Int32)), (2, .int a0)]) (sub_c rfl (sub_c rfl sub_n)) (rb_X12_bitsOf_4 hE q (0 : Int32) a0)
def b_X12_meetWay_102 (q : SS) (l1 : Int32) (l2 : Int64) : Option SS :=
  nm (sL q 60 43 l2) fun q6 =>
  nm (sI q6 60 44 l1) fun q7 =>
  some q7
theorem rb_X12_meetWay_102 {E : EE} (hE : GE E) (q : SS) (l1 : Int32) (l2 : Int64) : R E (κV E) 1 259 102 [(0, .ref 60), (1, .int l1), (2, .long l2)] [] q (b_X12_meetWay_102 q l1 l2) := by
  unfold b_X12_meetWay_102
  refine r_aload_n (x := 60) gX12_meetWay_90.2.2.2.2.2.2.1 rfl ?_
  refine r_lload_n (x := l2) gX12_meetWay_90.2.2.2.2.2.2.2.1 rfl ?_
  refine r_putL gX12_meetWay_90.2.2.2.2.2.2.2.2.1 (ff_12_328_60 hE) ?_
  refine r_nmS fun q6 _ => ?_
  refine r_aload_n (x := 60) gX12_meetWay_90.2.2.2.2.2.2.2.2.2.1 rfl ?_
  refine r_iload_n (x := l1) gX12_meetWay_90.2.2.2.2.2.2.2.2.2.2.1 rfl ?_
  refine r_putI gX12_meetWay_90.2.2.2.2.2.2.2.2.2.2.2.1 (ff_12_332_60 hE) ?_
  refine r_nmS fun q7 _ => ?_
  exact r_return gX12_meetWay_90.2.2.2.2.2.2.2.2.2.2.2.2.1 rfl rfl
def b_X12_meetWay_70 (q : SS) (l1 : Int32) (l2 : Int64) : Option SS :=
  if 0 < (lg_cmp l2 (q.2 60 43)) then
  (b_X12_meetWay_102 q l1 l2)
  else
  (if (lg_cmp l2 (q.2 60 43)) = 0 then
  (if (lg_cmp l2 (0 : Int64)) ≤ 0 then
  (some q)
  else
  (if (q.1 60 44) ≤ l1 then
  (some q)
  else
  (b_X12_meetWay_102 q l1 l2)))
  else
  (some q))
theorem rb_X12_meetWay_70 {E : EE} (hE : GE E) (q : SS) (l1 : Int32) (l2 : Int64) : R E (κV E) 1 259 70 [(0, .ref 60), (1, .int l1), (2, .long l2)] [] q (b_X12_meetWay_70 q l1 l2) := by
  unfold b_X12_meetWay_70
  refine r_lload_n (x := l2) gX12_meetWay_62.2.2.2.2.1 rfl ?_
  refine r_aload_n (x := 60) gX12_meetWay_62.2.2.2.2.2.1 rfl ?_
  refine r_getL gX12_meetWay_62.2.2.2.2.2.2.1 (ff_12_328_60 hE) ?_
  refine r_lcmp gX12_meetWay_62.2.2.2.2.2.2.2.1 ?_
  refine r_if_gt (t := 102) gX12_meetWay_62.2.2.2.2.2.2.2.2.1 rfl (fun h11 => ?_) (fun h11 => ?_)
  · exact r_sub (L' := [(0, .ref 60), (1, .int l1), (2, .long l2)]) (sub_c rfl (sub_c rfl (sub_c rfl sub_n))) (rb_X12_meetWay_102 hE q l1 l2)
  · refine r_lload_n (x := l2) gX12_meetWay_62.2.2.2.2.2.2.2.2.2.1 rfl ?_
    refine r_aload_n (x := 60) gX12_meetWay_62.2.2.2.2.2.2.2.2.2.2.1 rfl ?_
    refine r_getL gX12_meetWay_62.2.2.2.2.2.2.2.2.2.2.2.1 (ff_12_328_60 hE) ?_
    refine r_lcmp gX12_meetWay_62.2.2.2.2.2.2.2.2.2.2.2.2.1 ?_
    refine r_if_ne (t := 112) gX12_meetWay_62.2.2.2.2.2.2.2.2.2.2.2.2.2.1 rfl (fun h10 => ?_) (fun h10 => ?_)
    · refine r_lload_n (x := l2) gX12_meetWay_62.2.2.2.2.2.2.2.2.2.2.2.2.2.2.1 rfl ?_
      refine r_lconst (v := (0 : Int64)) gX12_meetWay_62.2.2.2.2.2.2.2.2.2.2.2.2.2.2.2.1 rfl ?_
      refine r_lcmp gX12_meetWay_90.1 ?_
      refine r_if_le (t := 112) gX12_meetWay_90.2.1 rfl (fun h9 => ?_) (fun h9 => ?_)
      · exact r_return gX12_meetWay_90.2.2.2.2.2.2.2.2.2.2.2.2.1 rfl rfl
      · refine r_iload_n (x := l1) gX12_meetWay_90.2.2.1 rfl ?_
        refine r_aload_n (x := 60) gX12_meetWay_90.2.2.2.1 rfl ?_
        refine r_getI gX12_meetWay_90.2.2.2.2.1 (ff_12_332_60 hE) (by decide) ?_
        refine r_icmp_ge (t := 112) gX12_meetWay_90.2.2.2.2.2.1 rfl (fun h8 => ?_) (fun h8 => ?_)
        · exact r_return gX12_meetWay_90.2.2.2.2.2.2.2.2.2.2.2.2.1 rfl rfl
        · exact r_sub (L' := [(0, .ref 60), (1, .int l1), (2, .long l2)]) (sub_c rfl (sub_c rfl (sub_c rfl sub_n))) (rb_X12_meetWay_102 hE q l1 l2)
    · exact r_return gX12_meetWay_90.2.2.2.2.2.2.2.2.2.2.2.2.1 rfl rfl
def b_X12_meetWay_59 (q : SS) (l1 : Int32) (l2 : Int64) (l4 : Int32) : Option SS :=
  nm (sI q 60 40 l4) fun q4 =>
  nm (sI q4 60 41 l1) fun q5 =>
  b_X12_meetWay_70 q5 l1 l2
theorem rb_X12_meetWay_59 {E : EE} (hE : GE E) (q : SS) (l1 : Int32) (l2 : Int64) (l4 : Int32) : R E (κV E) 1 259 59 [(0, .ref 60), (1, .int l1), (2, .long l2), (4, .int l4)] [] q (b_X12_meetWay_59 q l1 l2 l4) := by
  unfold b_X12_meetWay_59
  refine r_aload_n (x := 60) gX12_meetWay_27.2.2.2.2.2.2.2.2.2.2.2.2.2.2.1 rfl ?_
  refine r_iload (x := l4) gX12_meetWay_27.2.2.2.2.2.2.2.2.2.2.2.2.2.2.2.1 rfl ?_
  refine r_putI gX12_meetWay_62.1 (ff_12_322_60 hE) ?_
  refine r_nmS fun q4 _ => ?_
  refine r_aload_n (x := 60) gX12_meetWay_62.2.1 rfl ?_
  refine r_iload_n (x := l1) gX12_meetWay_62.2.2.1 rfl ?_
  refine r_putI gX12_meetWay_62.2.2.2.1 (ff_12_325_60 hE) ?_
  refine r_nmS fun q5 _ => ?_
  exact r_sub (L' := [(0, .ref 60), (1, .int l1), (2, .long l2)]) (sub_c rfl (sub_c rfl (sub_c rfl sub_n))) (rb_X12_meetWay_70 hE q5 l1 l2)
def f_X12_meetWay (q : SS) (a1 : Int32) (a2 : Int64) : Option SS :=
  nm (sI q 60 39 ((q.1 60 39) + (1 : Int32))) fun q1 =>
  nm (sI q1 60 42 ((q1.1 60 42) &&& a1)) fun q2 =>
  (f_X12_bitsOf q2 a1).bind fun r3 =>
  if (q2.1 60 40) < 0 then
  (b_X12_meetWay_59 q2 a1 a2 r3)
  else
  (if r3 < (q2.1 60 40) then
  (b_X12_meetWay_59 q2 a1 a2 r3)
  else
  (if r3 = (q2.1 60 40) then
  (if (q2.1 60 41) ≤ a1 then
  (b_X12_meetWay_70 q2 a1 a2)
  else
  (b_X12_meetWay_59 q2 a1 a2 r3))
  else
  (b_X12_meetWay_70 q2 a1 a2)))
theorem e_X12_meetWay {E : EE} (hE : GE E) (q : SS) (a1 : Int32) (a2 : Int64) : R E (κV E) 1 259 0 [(0, .ref 60), (1, .int a1), (2, .long a2)] [] q (f_X12_meetWay q a1 a2) := by
  unfold f_X12_meetWay
  refine r_aload_n (x := 60) gX12_meetWay_0.1 rfl ?_
  refine r_dup gX12_meetWay_0.2.1 rfl ?_
  refine r_getI gX12_meetWay_0.2.2.1 (ff_12_316_60 hE) (by decide) ?_
  refine r_iconst (v := (1 : Int32)) gX12_meetWay_0.2.2.2.1 rfl ?_
  refine r_iadd gX12_meetWay_0.2.2.2.2.1 ?_
  refine r_putI gX12_meetWay_0.2.2.2.2.2.1 (ff_12_316_60 hE) ?_
  refine r_nmS fun q1 _ => ?_
  refine r_aload_n (x := 60) gX12_meetWay_0.2.2.2.2.2.2.1 rfl ?_
  refine r_dup gX12_meetWay_0.2.2.2.2.2.2.2.1 rfl ?_
  refine r_getI gX12_meetWay_0.2.2.2.2.2.2.2.2.1 (ff_12_319_60 hE) (by decide) ?_
  refine r_iload_n (x := a1) gX12_meetWay_0.2.2.2.2.2.2.2.2.2.1 rfl ?_
  refine r_iand gX12_meetWay_0.2.2.2.2.2.2.2.2.2.2.1 ?_
  refine r_putI gX12_meetWay_0.2.2.2.2.2.2.2.2.2.2.2.1 (ff_12_319_60 hE) ?_
  refine r_nmS fun q2 _ => ?_
  refine r_iload_n (x := a1) gX12_meetWay_0.2.2.2.2.2.2.2.2.2.2.2.2.1 rfl ?_
  refine r_calli (k := 2) (idx := 310) (y := 190) (as := [.int a1]) (rest := []) (L0 := [(0, .int a1)]) gX12_meetWay_0.2.2.2.2.2.2.2.2.2.2.2.2.2.1 rfl rfl rfl rfl rfl vok_s rfl (r_dep (by decide) (e_X12_bitsOf hE q2 a1)) (fun r3 => ?_)
  refine r_istore (L2 := [(0, .ref 60), (1, .int a1), (2, .long a2), (4, .int r3)]) gX12_meetWay_0.2.2.2.2.2.2.2.2.2.2.2.2.2.2.1 rfl rfl ?_
  refine r_aload_n (x := 60) gX12_meetWay_0.2.2.2.2.2.2.2.2.2.2.2.2.2.2.2.1 rfl ?_
  refine r_getI gX12_meetWay_27.1 (ff_12_322_60 hE) (by decide) ?_
  refine r_if_lt (t := 59) gX12_meetWay_27.2.1 rfl (fun h15 => ?_) (fun h15 => ?_)
  · exact r_sub (L' := [(0, .ref 60), (1, .int a1), (2, .long a2), (4, .int r3)]) (sub_c rfl (sub_c rfl (sub_c rfl (sub_c rfl sub_n)))) (rb_X12_meetWay_59 hE q2 a1 a2 r3)
  · refine r_iload (x := r3) gX12_meetWay_27.2.2.1 rfl ?_
    refine r_aload_n (x := 60) gX12_meetWay_27.2.2.2.1 rfl ?_
    refine r_getI gX12_meetWay_27.2.2.2.2.1 (ff_12_322_60 hE) (by decide) ?_
    refine r_icmp_lt (t := 59) gX12_meetWay_27.2.2.2.2.2.1 rfl (fun h14 => ?_) (fun h14 => ?_)
    · exact r_sub (L' := [(0, .ref 60), (1, .int a1), (2, .long a2), (4, .int r3)]) (sub_c rfl (sub_c rfl (sub_c rfl (sub_c rfl sub_n)))) (rb_X12_meetWay_59 hE q2 a1 a2 r3)
    · refine r_iload (x := r3) gX12_meetWay_27.2.2.2.2.2.2.1 rfl ?_
      refine r_aload_n (x := 60) gX12_meetWay_27.2.2.2.2.2.2.2.1 rfl ?_
      refine r_getI gX12_meetWay_27.2.2.2.2.2.2.2.2.1 (ff_12_322_60 hE) (by decide) ?_
      refine r_icmp_ne (t := 70) gX12_meetWay_27.2.2.2.2.2.2.2.2.2.1 rfl (fun h13 => ?_) (fun h13 => ?_)
      · refine r_iload_n (x := a1) gX12_meetWay_27.2.2.2.2.2.2.2.2.2.2.1 rfl ?_
        refine r_aload_n (x := 60) gX12_meetWay_27.2.2.2.2.2.2.2.2.2.2.2.1 rfl ?_
        refine r_getI gX12_meetWay_27.2.2.2.2.2.2.2.2.2.2.2.2.1 (ff_12_325_60 hE) (by decide) ?_
        refine r_icmp_ge (t := 70) gX12_meetWay_27.2.2.2.2.2.2.2.2.2.2.2.2.2.1 rfl (fun h12 => ?_) (fun h12 => ?_)
        · exact r_sub (L' := [(0, .ref 60), (1, .int a1), (2, .long a2)]) (sub_c rfl (sub_c rfl (sub_c rfl sub_n))) (rb_X12_meetWay_70 hE q2 a1 a2)
        · exact r_sub (L' := [(0, .ref 60), (1, .int a1), (2, .long a2), (4, .int r3)]) (sub_c rfl (sub_c rfl (sub_c rfl (sub_c rfl sub_n)))) (rb_X12_meetWay_59 hE q2 a1 a2 r3)
      · exact r_sub (L' := [(0, .ref 60), (1, .int a1), (2, .long a2)]) (sub_c rfl (sub_c rfl (sub_c rfl sub_n))) (rb_X12_meetWay_70 hE q2 a1 a2)
abbrev GT_X12_goBehind : Type := (SS → Int32 → Int32 → Int64 → Option SS)
def GS_X12_goBehind (E : EE) (n : Nat) (r : GT_X12_goBehind) : Prop := (∀ (q : SS) (a1 : Int32) (a2 : Int32) (a3 : Int64), R E (κV E) (4 + n) 260 0 [(0, .ref 60), (1, .int a1), (2, .int a2), (3, .long a3)] [] q (r q a1 a2 a3))
def fb_X12_goBehind (r : GT_X12_goBehind) (q : SS) (a1 : Int32) (a2 : Int32) (a3 : Int64) : Option SS :=
  if a1 = (q.1 60 38) then
  ((f_X12_isAsTold q).bind fun r1 =>
  if r1 = 0 then
  (some q)
  else
  ((f_X12_meetWay q a2 a3).bind fun r2 =>
  some r2))
  else
  ((f_X12_at q (q.1 60 36) a1).bind fun r4 =>
  nm (r4 / (8 : Int32)) fun v5 =>
  (f_X12_at q (q.1 60 36) a1).bind fun r6 =>
  nm (jrem r6 (8 : Int32)) fun v7 =>
  (f_X12_maySlip q v5 v7).bind fun r8 =>
  if r8 = 0 then
  ((r q (a1 + (1 : Int32)) a2 (a3 * (12 : Int64))).bind fun r9 =>
  some r9)
  else
  ((f_X12_oddsOf q v5 v7).bind fun r10 =>
  if vin v5 12 then
  nm (r10.2.1 81 v5.toNatClampNeg) fun v11 =>
  (r r10.2 (a1 + (1 : Int32)) a2 (a3 * (((12 : Int32) - r10.1).toInt64))).bind fun r12 =>
  if vin v5 12 then
  nm (sI r12 81 v5.toNatClampNeg v7) fun q13 =>
  (r q13 (a1 + (1 : Int32)) (a2 ||| (jshl (1 : Int32) a1)) (a3 * (r10.1.toInt64))).bind fun r14 =>
  if vin v5 12 then
  nm (sI r14 81 v5.toNatClampNeg v11) fun q15 =>
  some q15
  else none
  else none
  else none))
theorem eb_X12_goBehind {E : EE} (hE : GE E) {r : GT_X12_goBehind} (n : Nat) (hr : GS_X12_goBehind E n r) (q : SS) (a1 : Int32) (a2 : Int32) (a3 : Int64) : R E (κV E) (4 + n + 1) 260 0 [(0, .ref 60), (1, .int a1), (2, .int a2), (3, .long a3)] [] q (fb_X12_goBehind r q a1 a2 a3) := by
  unfold fb_X12_goBehind
  refine r_iload_n (x := a1) gX12_goBehind_0.1 rfl ?_
  refine r_aload_n (x := 60) gX12_goBehind_0.2.1 rfl ?_
  refine r_getI gX12_goBehind_0.2.2.1 (ff_12_335_60 hE) (by decide) ?_
  refine r_icmp_ne (t := 22) gX12_goBehind_0.2.2.2.1 rfl (fun h17 => ?_) (fun h17 => ?_)
  · refine r_aload_n (x := 60) gX12_goBehind_0.2.2.2.2.1 rfl ?_
    refine r_calli (k := 0) (idx := 338) (y := 258) (as := [.ref 60]) (rest := []) (L0 := [(0, .ref 60)]) gX12_goBehind_0.2.2.2.2.2.1 rfl rfl rfl rfl rfl (vok_v (ob_60 hE) rfl) rfl (r_dep (by omega) (e_X12_isAsTold hE q)) (fun r1 => ?_)
    refine r_if_eq (t := 21) gX12_goBehind_0.2.2.2.2.2.2.1 rfl (fun h3 => ?_) (fun h3 => ?_)
    · exact r_return gX12_goBehind_0.2.2.2.2.2.2.2.2.2.2.2.1 rfl rfl
    · refine r_aload_n (x := 60) gX12_goBehind_0.2.2.2.2.2.2.2.1 rfl ?_
      refine r_iload_n (x := a2) gX12_goBehind_0.2.2.2.2.2.2.2.2.1 rfl ?_
      refine r_lload_n (x := a3) gX12_goBehind_0.2.2.2.2.2.2.2.2.2.1 rfl ?_
      refine r_callV (k := 0) (idx := 341) (y := 259) (as := [.ref 60, .int a2, .long a3]) (rest := []) (L0 := [(0, .ref 60), (1, .int a2), (2, .long a3)]) gX12_goBehind_0.2.2.2.2.2.2.2.2.2.2.1 rfl rfl rfl rfl rfl (vok_v (ob_60 hE) rfl) rfl (r_dep (by omega) (e_X12_meetWay hE q a2 a3)) (fun r2 => ?_)
      exact r_return gX12_goBehind_0.2.2.2.2.2.2.2.2.2.2.2.1 rfl rfl
  · refine r_aload_n (x := 60) gX12_goBehind_0.2.2.2.2.2.2.2.2.2.2.2.2.1 rfl ?_
    refine r_aload_n (x := 60) gX12_goBehind_0.2.2.2.2.2.2.2.2.2.2.2.2.2.1 rfl ?_
    refine r_getI gX12_goBehind_0.2.2.2.2.2.2.2.2.2.2.2.2.2.2.1 (ff_12_345_60 hE) (by decide) ?_
    refine r_iload_n (x := a1) gX12_goBehind_0.2.2.2.2.2.2.2.2.2.2.2.2.2.2.2.1 rfl ?_
    refine r_calli (k := 0) (idx := 263) (y := 235) (as := [.ref 60, .int (q.1 60 36), .int a1]) (rest := []) (L0 := [(0, .ref 60), (1, .int (q.1 60 36)), (2, .int a1)]) gX12_goBehind_28.1 rfl rfl rfl rfl rfl (vok_v (ob_60 hE) rfl) rfl (r_dep (by omega) (e_X12_at hE q (q.1 60 36) a1)) (fun r4 => ?_)
    refine r_bipush (v := (8 : Int32)) gX12_goBehind_28.2.1 rfl ?_
    refine r_idivC gX12_goBehind_28.2.2.1 (by decide) ?_
    refine r_nmI fun v5 _ => ?_
    refine r_istore (L2 := [(0, .ref 60), (1, .int a1), (2, .int a2), (3, .long a3), (5, .int v5)]) gX12_goBehind_28.2.2.2.1 rfl rfl ?_
    refine r_aload_n (x := 60) gX12_goBehind_28.2.2.2.2.1 rfl ?_
    refine r_aload_n (x := 60) gX12_goBehind_28.2.2.2.2.2.1 rfl ?_
    refine r_getI gX12_goBehind_28.2.2.2.2.2.2.1 (ff_12_345_60 hE) (by decide) ?_
    refine r_iload_n (x := a1) gX12_goBehind_28.2.2.2.2.2.2.2.1 rfl ?_
    refine r_calli (k := 0) (idx := 263) (y := 235) (as := [.ref 60, .int (q.1 60 36), .int a1]) (rest := []) (L0 := [(0, .ref 60), (1, .int (q.1 60 36)), (2, .int a1)]) gX12_goBehind_28.2.2.2.2.2.2.2.2.1 rfl rfl rfl rfl rfl (vok_v (ob_60 hE) rfl) rfl (r_dep (by omega) (e_X12_at hE q (q.1 60 36) a1)) (fun r6 => ?_)
    refine r_bipush (v := (8 : Int32)) gX12_goBehind_28.2.2.2.2.2.2.2.2.2.1 rfl ?_
    refine r_iremC gX12_goBehind_28.2.2.2.2.2.2.2.2.2.2.1 (by decide) ?_
    refine r_nmI fun v7 _ => ?_
    refine r_istore (L2 := [(0, .ref 60), (1, .int a1), (2, .int a2), (3, .long a3), (5, .int v5), (6, .int v7)]) gX12_goBehind_28.2.2.2.2.2.2.2.2.2.2.2.1 rfl rfl ?_
    refine r_aload_n (x := 60) gX12_goBehind_28.2.2.2.2.2.2.2.2.2.2.2.2.1 rfl ?_
    refine r_iload (x := v5) gX12_goBehind_28.2.2.2.2.2.2.2.2.2.2.2.2.2.1 rfl ?_
    refine r_iload (x := v7) gX12_goBehind_28.2.2.2.2.2.2.2.2.2.2.2.2.2.2.1 rfl ?_
    refine r_calli (k := 0) (idx := 251) (y := 230) (as := [.ref 60, .int v5, .int v7]) (rest := []) (L0 := [(0, .ref 60), (1, .int v5), (2, .int v7)]) gX12_goBehind_28.2.2.2.2.2.2.2.2.2.2.2.2.2.2.2.1 rfl rfl rfl rfl rfl (vok_v (ob_60 hE) rfl) rfl (r_dep (by omega) (e_X12_maySlip hE q v5 v7)) (fun r8 => ?_)
    refine r_if_ne (t := 75) gX12_goBehind_58.1 rfl (fun h16 => ?_) (fun h16 => ?_)
    · refine r_aload_n (x := 60) gX12_goBehind_58.2.1 rfl ?_
      refine r_iload_n (x := a1) gX12_goBehind_58.2.2.1 rfl ?_
      refine r_iconst (v := (1 : Int32)) gX12_goBehind_58.2.2.2.1 rfl ?_
      refine r_iadd gX12_goBehind_58.2.2.2.2.1 ?_
      refine r_iload_n (x := a2) gX12_goBehind_58.2.2.2.2.2.1 rfl ?_
      refine r_lload_n (x := a3) gX12_goBehind_58.2.2.2.2.2.2.1 rfl ?_
      refine r_ldc2 (v := (12 : Int64)) gX12_goBehind_58.2.2.2.2.2.2.2.1 rfl ?_
      refine r_lmul gX12_goBehind_58.2.2.2.2.2.2.2.2.1 ?_
      refine r_callV (k := 0) (idx := 348) (y := 260) (as := [.ref 60, .int (a1 + (1 : Int32)), .int a2, .long (a3 * (12 : Int64))]) (rest := []) (L0 := [(0, .ref 60), (1, .int (a1 + (1 : Int32))), (2, .int a2), (3, .long (a3 * (12 : Int64)))]) gX12_goBehind_58.2.2.2.2.2.2.2.2.2.1 rfl rfl rfl rfl rfl (vok_v (ob_60 hE) rfl) rfl (hr q (a1 + (1 : Int32)) a2 (a3 * (12 : Int64))) (fun r9 => ?_)
      exact r_return gX12_goBehind_58.2.2.2.2.2.2.2.2.2.2.1 rfl rfl
    · refine r_aload_n (x := 60) gX12_goBehind_58.2.2.2.2.2.2.2.2.2.2.2.1 rfl ?_
      refine r_iload (x := v5) gX12_goBehind_58.2.2.2.2.2.2.2.2.2.2.2.2.1 rfl ?_
      refine r_iload (x := v7) gX12_goBehind_58.2.2.2.2.2.2.2.2.2.2.2.2.2.1 rfl ?_
      refine r_callI (k := 0) (idx := 260) (y := 231) (as := [.ref 60, .int v5, .int v7]) (rest := []) (L0 := [(0, .ref 60), (1, .int v5), (2, .int v7)]) gX12_goBehind_58.2.2.2.2.2.2.2.2.2.2.2.2.2.2.1 rfl rfl rfl rfl rfl (vok_v (ob_60 hE) rfl) rfl (r_dep (by omega) (e_X12_oddsOf hE q v5 v7)) (fun r10 => ?_)
      refine r_istore (L2 := [(0, .ref 60), (1, .int a1), (2, .int a2), (3, .long a3), (5, .int v5), (6, .int v7), (7, .int r10.1)]) gX12_goBehind_58.2.2.2.2.2.2.2.2.2.2.2.2.2.2.2.1 rfl rfl ?_
      refine r_aload_n (x := 60) gX12_goBehind_85.1 rfl ?_
      refine r_getA gX12_goBehind_85.2.1 (fa_12_74_60 hE) ?_
      refine r_iload (x := v5) gX12_goBehind_85.2.2.1 rfl ?_
      refine r_iaload gX12_goBehind_85.2.2.2.1 (ar_81 hE) ?_
      refine r_nmI fun v11 _ => ?_
      refine r_istore (L2 := [(0, .ref 60), (1, .int a1), (2, .int a2), (3, .long a3), (5, .int v5), (6, .int v7), (7, .int r10.1), (8, .int v11)]) gX12_goBehind_85.2.2.2.2.1 rfl rfl ?_
      refine r_aload_n (x := 60) gX12_goBehind_85.2.2.2.2.2.1 rfl ?_
      refine r_iload_n (x := a1) gX12_goBehind_85.2.2.2.2.2.2.1 rfl ?_
      refine r_iconst (v := (1 : Int32)) gX12_goBehind_85.2.2.2.2.2.2.2.1 rfl ?_
      refine r_iadd gX12_goBehind_85.2.2.2.2.2.2.2.2.1 ?_
      refine r_iload_n (x := a2) gX12_goBehind_85.2.2.2.2.2.2.2.2.2.1 rfl ?_
      refine r_lload_n (x := a3) gX12_goBehind_85.2.2.2.2.2.2.2.2.2.2.1 rfl ?_
      refine r_bipush (v := (12 : Int32)) gX12_goBehind_85.2.2.2.2.2.2.2.2.2.2.2.1 rfl ?_
      refine r_iload (x := r10.1) gX12_goBehind_85.2.2.2.2.2.2.2.2.2.2.2.2.1 rfl ?_
      refine r_isub gX12_goBehind_85.2.2.2.2.2.2.2.2.2.2.2.2.2.1 ?_
      refine r_i2l gX12_goBehind_85.2.2.2.2.2.2.2.2.2.2.2.2.2.2.1 ?_
      refine r_lmul gX12_goBehind_85.2.2.2.2.2.2.2.2.2.2.2.2.2.2.2.1 ?_
      refine r_callV (k := 0) (idx := 348) (y := 260) (as := [.ref 60, .int (a1 + (1 : Int32)), .int a2, .long (a3 * (((12 : Int32) - r10.1).toInt64))]) (rest := []) (L0 := [(0, .ref 60), (1, .int (a1 + (1 : Int32))), (2, .int a2), (3, .long (a3 * (((12 : Int32) - r10.1).toInt64)))]) gX12_goBehind_107.1 rfl rfl rfl rfl rfl (vok_v (ob_60 hE) rfl) rfl (hr r10.2 (a1 + (1 : Int32)) a2 (a3 * (((12 : Int32) - r10.1).toInt64))) (fun r12 => ?_)
      refine r_aload_n (x := 60) gX12_goBehind_107.2.1 rfl ?_
      refine r_getA gX12_goBehind_107.2.2.1 (fa_12_74_60 hE) ?_
      refine r_iload (x := v5) gX12_goBehind_107.2.2.2.1 rfl ?_
      refine r_iload (x := v7) gX12_goBehind_107.2.2.2.2.1 rfl ?_
      refine r_iastore gX12_goBehind_107.2.2.2.2.2.1 (ar_81 hE) ?_
      refine r_nmS fun q13 _ => ?_
      refine r_aload_n (x := 60) gX12_goBehind_107.2.2.2.2.2.2.1 rfl ?_
      refine r_iload_n (x := a1) gX12_goBehind_107.2.2.2.2.2.2.2.1 rfl ?_
      refine r_iconst (v := (1 : Int32)) gX12_goBehind_107.2.2.2.2.2.2.2.2.1 rfl ?_
      refine r_iadd gX12_goBehind_107.2.2.2.2.2.2.2.2.2.1 ?_
      refine r_iload_n (x := a2) gX12_goBehind_107.2.2.2.2.2.2.2.2.2.2.1 rfl ?_
      refine r_iconst (v := (1 : Int32)) gX12_goBehind_107.2.2.2.2.2.2.2.2.2.2.2.1 rfl ?_
      refine r_iload_n (x := a1) gX12_goBehind_107.2.2.2.2.2.2.2.2.2.2.2.2.1 rfl ?_
      refine r_ishl gX12_goBehind_107.2.2.2.2.2.2.2.2.2.2.2.2.2.1 ?_
      refine r_ior gX12_goBehind_107.2.2.2.2.2.2.2.2.2.2.2.2.2.2.1 ?_
      refine r_lload_n (x := a3) gX12_goBehind_107.2.2.2.2.2.2.2.2.2.2.2.2.2.2.2.1 rfl ?_
      refine r_iload (x := r10.1) gX12_goBehind_129.1 rfl ?_
      refine r_i2l gX12_goBehind_129.2.1 ?_
      refine r_lmul gX12_goBehind_129.2.2.1 ?_
      refine r_callV (k := 0) (idx := 348) (y := 260) (as := [.ref 60, .int (a1 + (1 : Int32)), .int (a2 ||| (jshl (1 : Int32) a1)), .long (a3 * (r10.1.toInt64))]) (rest := []) (L0 := [(0, .ref 60), (1, .int (a1 + (1 : Int32))), (2, .int (a2 ||| (jshl (1 : Int32) a1))), (3, .long (a3 * (r10.1.toInt64)))]) gX12_goBehind_129.2.2.2.1 rfl rfl rfl rfl rfl (vok_v (ob_60 hE) rfl) rfl (hr q13 (a1 + (1 : Int32)) (a2 ||| (jshl (1 : Int32) a1)) (a3 * (r10.1.toInt64))) (fun r14 => ?_)
      refine r_aload_n (x := 60) gX12_goBehind_129.2.2.2.2.1 rfl ?_
      refine r_getA gX12_goBehind_129.2.2.2.2.2.1 (fa_12_74_60 hE) ?_
      refine r_iload (x := v5) gX12_goBehind_129.2.2.2.2.2.2.1 rfl ?_
      refine r_iload (x := v11) gX12_goBehind_129.2.2.2.2.2.2.2.1 rfl ?_
      refine r_iastore gX12_goBehind_129.2.2.2.2.2.2.2.2.1 (ar_81 hE) ?_
      refine r_nmS fun q15 _ => ?_
      exact r_return gX12_goBehind_129.2.2.2.2.2.2.2.2.2.1 rfl rfl
def g_X12_goBehind : Nat → GT_X12_goBehind
  | 0 => (fun _ _ _ _ => none)
  | n + 1 => (fb_X12_goBehind (g_X12_goBehind n))
theorem gs_X12_goBehind {E : EE} (hE : GE E) : ∀ n, GS_X12_goBehind E n (g_X12_goBehind n)
  | 0 => fun _ _ _ _ => r_no
  | n + 1 => eb_X12_goBehind hE n (gs_X12_goBehind hE n)
def f_X12_goBehind : SS → Int32 → Int32 → Int64 → Option SS := (g_X12_goBehind 60)
theorem e_X12_goBehind {E : EE} (hE : GE E) : ∀ (q : SS) (a1 : Int32) (a2 : Int32) (a3 : Int64), R E (κV E) 64 260 0 [(0, .ref 60), (1, .int a1), (2, .int a2), (3, .long a3)] [] q (f_X12_goBehind q a1 a2 a3) := (gs_X12_goBehind hE 60)
def f_X12_behind (q : SS) (a1 : Int32) (a2 : Int32) (a3 : Int32) : Option (Int32 × SS) :=
  (f_X12_isShelf q a1).bind fun r1 =>
  if r1 = 0 then
  (some ((-1 : Int32), q))
  else
  ((f_X12_isShelf q a2).bind fun r2 =>
  if r2 = 0 then
  (some ((-1 : Int32), q))
  else
  ((f_X12_in q a3 (0 : Int32) (4 : Int32)).bind fun r3 =>
  if r3 = 0 then
  (some ((-1 : Int32), q))
  else
  ((f_X12_rowFault q a1).bind fun r4 =>
  if 0 ≤ r4 then
  ((f_X12_rowFault q a2).bind fun r5 =>
  if 0 ≤ r5 then
  (nm (sI q 60 36 a1) fun q6 =>
  nm (sI q6 60 37 a2) fun q7 =>
  (f_X12_longOf q7 a1 (12 : Int32)).bind fun r8 =>
  nm (sI q7 60 38 r8) fun q9 =>
  nm (sI q9 60 39 (0 : Int32)) fun q10 =>
  nm (sI q10 60 40 (-2 : Int32)) fun q11 =>
  nm (sI q11 60 41 (-2 : Int32)) fun q12 =>
  nm (sI q12 60 42 (-1 : Int32)) fun q13 =>
  nm (sL q13 60 43 (0 : Int64)) fun q14 =>
  nm (sI q14 60 44 (-2 : Int32)) fun q15 =>
  (f_X12_layNow q15).bind fun r16 =>
  (f_X12_goBehind r16 (0 : Int32) (0 : Int32) (1 : Int64)).bind fun r17 =>
  sw a3 [(0, (some ((r17.1 60 39), r17))), (1, (some ((r17.1 60 40), r17))), (2, (some ((r17.1 60 41), r17))), (3, (if (r17.1 60 39) = 0 then
  (some ((0 : Int32), r17))
  else
  (some ((r17.1 60 42), r17))))]
  (some ((r17.1 60 44), r17)))
  else
  ((f_X12_rowFault q a2).bind fun r24 =>
  some (r24, q)))
  else
  ((f_X12_rowFault q a1).bind fun r26 =>
  some (r26, q)))))
theorem e_X12_behind {E : EE} (hE : GE E) (q : SS) (a1 : Int32) (a2 : Int32) (a3 : Int32) : R E (κI E) 65 261 0 [(0, .ref 60), (1, .int a1), (2, .int a2), (3, .int a3)] [] q (f_X12_behind q a1 a2 a3) := by
  unfold f_X12_behind
  refine r_iload_n (x := a1) gX12_behind_0.1 rfl ?_
  refine r_calli (k := 2) (idx := 137) (y := 288) (as := [.int a1]) (rest := []) (L0 := [(0, .int a1)]) gX12_behind_0.2.1 rfl rfl rfl rfl rfl vok_s rfl (r_dep (by decide) (e_X12_isShelf hE q a1)) (fun r1 => ?_)
  refine r_if_eq (t := 23) gX12_behind_0.2.2.1 rfl (fun h30 => ?_) (fun h30 => ?_)
  · refine r_iconst (v := (-1 : Int32)) gX12_behind_0.2.2.2.2.2.2.2.2.2.2.2.1 rfl ?_
    exact r_ireturn gX12_behind_0.2.2.2.2.2.2.2.2.2.2.2.2.1 rfl rfl
  · refine r_iload_n (x := a2) gX12_behind_0.2.2.2.1 rfl ?_
    refine r_calli (k := 2) (idx := 137) (y := 288) (as := [.int a2]) (rest := []) (L0 := [(0, .int a2)]) gX12_behind_0.2.2.2.2.1 rfl rfl rfl rfl rfl vok_s rfl (r_dep (by decide) (e_X12_isShelf hE q a2)) (fun r2 => ?_)
    refine r_if_eq (t := 23) gX12_behind_0.2.2.2.2.2.1 rfl (fun h29 => ?_) (fun h29 => ?_)
    · refine r_iconst (v := (-1 : Int32)) gX12_behind_0.2.2.2.2.2.2.2.2.2.2.2.1 rfl ?_
      exact r_ireturn gX12_behind_0.2.2.2.2.2.2.2.2.2.2.2.2.1 rfl rfl
    · refine r_iload_n (x := a3) gX12_behind_0.2.2.2.2.2.2.1 rfl ?_
      refine r_iconst (v := (0 : Int32)) gX12_behind_0.2.2.2.2.2.2.2.1 rfl ?_
      refine r_iconst (v := (4 : Int32)) gX12_behind_0.2.2.2.2.2.2.2.2.1 rfl ?_
      refine r_calli (k := 2) (idx := 118) (y := 189) (as := [.int a3, .int (0 : Int32), .int (4 : Int32)]) (rest := []) (L0 := [(0, .int a3), (1, .int (0 : Int32)), (2, .int (4 : Int32))]) gX12_behind_0.2.2.2.2.2.2.2.2.2.1 rfl rfl rfl rfl rfl vok_s rfl (r_dep (by decide) (e_X12_in hE q a3 (0 : Int32) (4 : Int32))) (fun r3 => ?_)
      refine r_if_ne (t := 25) gX12_behind_0.2.2.2.2.2.2.2.2.2.2.1 rfl (fun h28 => ?_) (fun h28 => ?_)
      · refine r_iconst (v := (-1 : Int32)) gX12_behind_0.2.2.2.2.2.2.2.2.2.2.2.1 rfl ?_
        exact r_ireturn gX12_behind_0.2.2.2.2.2.2.2.2.2.2.2.2.1 rfl rfl
      · refine r_aload_n (x := 60) gX12_behind_0.2.2.2.2.2.2.2.2.2.2.2.2.2.1 rfl ?_
        refine r_iload_n (x := a1) gX12_behind_0.2.2.2.2.2.2.2.2.2.2.2.2.2.2.1 rfl ?_
        refine r_calli (k := 0) (idx := 278) (y := 234) (as := [.ref 60, .int a1]) (rest := []) (L0 := [(0, .ref 60), (1, .int a1)]) gX12_behind_0.2.2.2.2.2.2.2.2.2.2.2.2.2.2.2.1 rfl rfl rfl rfl rfl (vok_v (ob_60 hE) rfl) rfl (r_dep (by decide) (e_X12_rowFault hE q a1)) (fun r4 => ?_)
        refine r_if_ge (t := 39) gX12_behind_30.1 rfl (fun h27 => ?_) (fun h27 => ?_)
        · refine r_aload_n (x := 60) gX12_behind_30.2.2.2.2.2.1 rfl ?_
          refine r_iload_n (x := a2) gX12_behind_30.2.2.2.2.2.2.1 rfl ?_
          refine r_calli (k := 0) (idx := 278) (y := 234) (as := [.ref 60, .int a2]) (rest := []) (L0 := [(0, .ref 60), (1, .int a2)]) gX12_behind_30.2.2.2.2.2.2.2.1 rfl rfl rfl rfl rfl (vok_v (ob_60 hE) rfl) rfl (r_dep (by decide) (e_X12_rowFault hE q a2)) (fun r5 => ?_)
          refine r_if_ge (t := 53) gX12_behind_30.2.2.2.2.2.2.2.2.1 rfl (fun h25 => ?_) (fun h25 => ?_)
          · refine r_aload_n (x := 60) gX12_behind_30.2.2.2.2.2.2.2.2.2.2.2.2.2.1 rfl ?_
            refine r_iload_n (x := a1) gX12_behind_30.2.2.2.2.2.2.2.2.2.2.2.2.2.2.1 rfl ?_
            refine r_putI gX12_behind_30.2.2.2.2.2.2.2.2.2.2.2.2.2.2.2.1 (ff_12_345_60 hE) ?_
            refine r_nmS fun q6 _ => ?_
            refine r_aload_n (x := 60) gX12_behind_58.1 rfl ?_
            refine r_iload_n (x := a2) gX12_behind_58.2.1 rfl ?_
            refine r_putI gX12_behind_58.2.2.1 (ff_12_313_60 hE) ?_
            refine r_nmS fun q7 _ => ?_
            refine r_aload_n (x := 60) gX12_behind_58.2.2.2.1 rfl ?_
            refine r_aload_n (x := 60) gX12_behind_58.2.2.2.2.1 rfl ?_
            refine r_iload_n (x := a1) gX12_behind_58.2.2.2.2.2.1 rfl ?_
            refine r_bipush (v := (12 : Int32)) gX12_behind_58.2.2.2.2.2.2.1 rfl ?_
            refine r_calli (k := 0) (idx := 272) (y := 236) (as := [.ref 60, .int a1, .int (12 : Int32)]) (rest := [.ref 60]) (L0 := [(0, .ref 60), (1, .int a1), (2, .int (12 : Int32))]) gX12_behind_58.2.2.2.2.2.2.2.1 rfl rfl rfl rfl rfl (vok_v (ob_60 hE) rfl) rfl (r_dep (by decide) (e_X12_longOf hE q7 a1 (12 : Int32))) (fun r8 => ?_)
            refine r_putI gX12_behind_58.2.2.2.2.2.2.2.2.1 (ff_12_335_60 hE) ?_
            refine r_nmS fun q9 _ => ?_
            refine r_aload_n (x := 60) gX12_behind_58.2.2.2.2.2.2.2.2.2.1 rfl ?_
            refine r_iconst (v := (0 : Int32)) gX12_behind_58.2.2.2.2.2.2.2.2.2.2.1 rfl ?_
            refine r_putI gX12_behind_58.2.2.2.2.2.2.2.2.2.2.2.1 (ff_12_316_60 hE) ?_
            refine r_nmS fun q10 _ => ?_
            refine r_aload_n (x := 60) gX12_behind_58.2.2.2.2.2.2.2.2.2.2.2.2.1 rfl ?_
            refine r_bipush (v := (-2 : Int32)) gX12_behind_58.2.2.2.2.2.2.2.2.2.2.2.2.2.1 rfl ?_
            refine r_putI gX12_behind_58.2.2.2.2.2.2.2.2.2.2.2.2.2.2.1 (ff_12_322_60 hE) ?_
            refine r_nmS fun q11 _ => ?_
            refine r_aload_n (x := 60) gX12_behind_58.2.2.2.2.2.2.2.2.2.2.2.2.2.2.2.1 rfl ?_
            refine r_bipush (v := (-2 : Int32)) gX12_behind_86.1 rfl ?_
            refine r_putI gX12_behind_86.2.1 (ff_12_325_60 hE) ?_
            refine r_nmS fun q12 _ => ?_
            refine r_aload_n (x := 60) gX12_behind_86.2.2.1 rfl ?_
            refine r_iconst (v := (-1 : Int32)) gX12_behind_86.2.2.2.1 rfl ?_
            refine r_putI gX12_behind_86.2.2.2.2.1 (ff_12_319_60 hE) ?_
            refine r_nmS fun q13 _ => ?_
            refine r_aload_n (x := 60) gX12_behind_86.2.2.2.2.2.1 rfl ?_
            refine r_lconst (v := (0 : Int64)) gX12_behind_86.2.2.2.2.2.2.1 rfl ?_
            refine r_putL gX12_behind_86.2.2.2.2.2.2.2.1 (ff_12_328_60 hE) ?_
            refine r_nmS fun q14 _ => ?_
            refine r_aload_n (x := 60) gX12_behind_86.2.2.2.2.2.2.2.2.1 rfl ?_
            refine r_bipush (v := (-2 : Int32)) gX12_behind_86.2.2.2.2.2.2.2.2.2.1 rfl ?_
            refine r_putI gX12_behind_86.2.2.2.2.2.2.2.2.2.2.1 (ff_12_332_60 hE) ?_
            refine r_nmS fun q15 _ => ?_
            refine r_aload_n (x := 60) gX12_behind_86.2.2.2.2.2.2.2.2.2.2.2.1 rfl ?_
            refine r_callV (k := 0) (idx := 168) (y := 226) (as := [.ref 60]) (rest := []) (L0 := [(0, .ref 60)]) gX12_behind_86.2.2.2.2.2.2.2.2.2.2.2.2.1 rfl rfl rfl rfl rfl (vok_v (ob_60 hE) rfl) rfl (r_dep (by decide) (e_X12_layNow hE q15)) (fun r16 => ?_)
            refine r_aload_n (x := 60) gX12_behind_86.2.2.2.2.2.2.2.2.2.2.2.2.2.1 rfl ?_
            refine r_iconst (v := (0 : Int32)) gX12_behind_86.2.2.2.2.2.2.2.2.2.2.2.2.2.2.1 rfl ?_
            refine r_iconst (v := (0 : Int32)) gX12_behind_86.2.2.2.2.2.2.2.2.2.2.2.2.2.2.2.1 rfl ?_
            refine r_lconst (v := (1 : Int64)) gX12_behind_114.1 rfl ?_
            refine r_callV (k := 0) (idx := 348) (y := 260) (as := [.ref 60, .int (0 : Int32), .int (0 : Int32), .long (1 : Int64)]) (rest := []) (L0 := [(0, .ref 60), (1, .int (0 : Int32)), (2, .int (0 : Int32)), (3, .long (1 : Int64))]) gX12_behind_114.2.1 rfl rfl rfl rfl rfl (vok_v (ob_60 hE) rfl) rfl (r_dep (by decide) (e_X12_goBehind hE r16 (0 : Int32) (0 : Int32) (1 : Int64))) (fun r17 => ?_)
            refine r_iload_n (x := a3) gX12_behind_114.2.2.1 rfl ?_
            refine r_sw1 (fun h18 => ?_) (fun h18 => ?_)
            · refine r_jmp (t := 148) dX12_behind_119 rfl (by rw [h18]; rfl) ?_
              refine r_aload_n (x := 60) gX12_behind_148.1 rfl ?_
              refine r_getI gX12_behind_148.2.1 (ff_12_316_60 hE) (by decide) ?_
              exact r_ireturn gX12_behind_148.2.2.1 rfl rfl
            refine r_sw1 (fun h19 => ?_) (fun h19 => ?_)
            · refine r_jmp (t := 153) dX12_behind_119 rfl (by rw [h19]; rfl) ?_
              refine r_aload_n (x := 60) gX12_behind_148.2.2.2.1 rfl ?_
              refine r_getI gX12_behind_148.2.2.2.2.1 (ff_12_322_60 hE) (by decide) ?_
              exact r_ireturn gX12_behind_148.2.2.2.2.2.1 rfl rfl
            refine r_sw1 (fun h20 => ?_) (fun h20 => ?_)
            · refine r_jmp (t := 158) dX12_behind_119 rfl (by rw [h20]; rfl) ?_
              refine r_aload_n (x := 60) gX12_behind_148.2.2.2.2.2.2.1 rfl ?_
              refine r_getI gX12_behind_148.2.2.2.2.2.2.2.1 (ff_12_325_60 hE) (by decide) ?_
              exact r_ireturn gX12_behind_148.2.2.2.2.2.2.2.2.1 rfl rfl
            refine r_sw1 (fun h21 => ?_) (fun h21 => ?_)
            · refine r_jmp (t := 163) dX12_behind_119 rfl (by rw [h21]; rfl) ?_
              refine r_aload_n (x := 60) gX12_behind_148.2.2.2.2.2.2.2.2.2.1 rfl ?_
              refine r_getI gX12_behind_148.2.2.2.2.2.2.2.2.2.2.1 (ff_12_316_60 hE) (by decide) ?_
              refine r_if_ne (t := 174) gX12_behind_148.2.2.2.2.2.2.2.2.2.2.2.1 rfl (fun h22 => ?_) (fun h22 => ?_)
              · refine r_iconst (v := (0 : Int32)) gX12_behind_148.2.2.2.2.2.2.2.2.2.2.2.2.1 rfl ?_
                refine r_goto (t := 178) gX12_behind_148.2.2.2.2.2.2.2.2.2.2.2.2.2.1 rfl ?_
                exact r_ireturn gX12_behind_178.1 rfl rfl
              · refine r_aload_n (x := 60) gX12_behind_148.2.2.2.2.2.2.2.2.2.2.2.2.2.2.1 rfl ?_
                refine r_getI gX12_behind_148.2.2.2.2.2.2.2.2.2.2.2.2.2.2.2.1 (ff_12_319_60 hE) (by decide) ?_
                exact r_ireturn gX12_behind_178.1 rfl rfl
            refine r_jmp (t := 179) dX12_behind_119 rfl ?_ ?_
            · have h23 := sw_lo (v := a3.toInt) 0
              have h23 := sw_st h23 h18
              have h23 := sw_st h23 h19
              have h23 := sw_st h23 h20
              have h23 := sw_st h23 h21
              exact sw_df h23 (by decide) rfl
            refine r_aload_n (x := 60) gX12_behind_178.2.1 rfl ?_
            refine r_getI gX12_behind_178.2.2.1 (ff_12_332_60 hE) (by decide) ?_
            exact r_ireturn gX12_behind_178.2.2.2.1 rfl rfl
          · refine r_aload_n (x := 60) gX12_behind_30.2.2.2.2.2.2.2.2.2.1 rfl ?_
            refine r_iload_n (x := a2) gX12_behind_30.2.2.2.2.2.2.2.2.2.2.1 rfl ?_
            refine r_calli (k := 0) (idx := 278) (y := 234) (as := [.ref 60, .int a2]) (rest := []) (L0 := [(0, .ref 60), (1, .int a2)]) gX12_behind_30.2.2.2.2.2.2.2.2.2.2.2.1 rfl rfl rfl rfl rfl (vok_v (ob_60 hE) rfl) rfl (r_dep (by decide) (e_X12_rowFault hE q a2)) (fun r24 => ?_)
            exact r_ireturn gX12_behind_30.2.2.2.2.2.2.2.2.2.2.2.2.1 rfl rfl
        · refine r_aload_n (x := 60) gX12_behind_30.2.1 rfl ?_
          refine r_iload_n (x := a1) gX12_behind_30.2.2.1 rfl ?_
          refine r_calli (k := 0) (idx := 278) (y := 234) (as := [.ref 60, .int a1]) (rest := []) (L0 := [(0, .ref 60), (1, .int a1)]) gX12_behind_30.2.2.2.1 rfl rfl rfl rfl rfl (vok_v (ob_60 hE) rfl) rfl (r_dep (by decide) (e_X12_rowFault hE q a1)) (fun r26 => ?_)
          exact r_ireturn gX12_behind_30.2.2.2.2.1 rfl rfl
def b_X8_realsOf_41 (rec_4 : Int32 → Int32 → Int32 → Option Int32) (q : SS) (l1 : Int32) (l3 : Int32) (s0 : Int32) (s1 : Int32) : Option Int32 :=
  nm (s1 + s0) fun v4 =>
  rec_4 l1 v4 (l3 + (1 : Int32))
theorem rb_X8_realsOf_41 {E : EE} (hE : GE E) {q : SS} {rec_4 : Int32 → Int32 → Int32 → Option Int32} (hrec_4 : ∀ (yl1 : Int32) (yl2 : Int32) (yl3 : Int32), R E (κi E q) 3 101 4 [(0, .ref 24), (1, .int yl1), (2, .int yl2), (3, .int yl3)] [] q (rec_4 yl1 yl2 yl3)) (l1 : Int32) (l3 : Int32) (s0 : Int32) (s1 : Int32) : R E (κi E q) 3 101 41 [(0, .ref 24), (1, .int l1), (3, .int l3)] [.int s0, .int s1] q (b_X8_realsOf_41 rec_4 q l1 l3 s0 s1) := by
  unfold b_X8_realsOf_41
  refine r_iadd gX8_realsOf_26.2.2.2.2.2.2.2.1 ?_
  refine r_nmI fun v4 _ => ?_
  refine r_istore_n (L2 := [(0, .ref 24), (1, .int l1), (2, .int v4), (3, .int l3)]) gX8_realsOf_26.2.2.2.2.2.2.2.2.1 rfl rfl ?_
  refine r_iinc (x := l3) (v := (l3 + (1 : Int32))) (L2 := [(0, .ref 24), (1, .int l1), (2, .int v4), (3, .int (l3 + (1 : Int32)))]) gX8_realsOf_26.2.2.2.2.2.2.2.2.2.1 rfl rfl rfl rfl ?_
  refine r_goto (t := 4) gX8_realsOf_26.2.2.2.2.2.2.2.2.2.2.1 rfl ?_
  exact r_sub (L' := [(0, .ref 24), (1, .int l1), (2, .int v4), (3, .int (l3 + (1 : Int32)))]) (sub_c rfl (sub_c rfl (sub_c rfl (sub_c rfl sub_n)))) (hrec_4 l1 v4 (l3 + (1 : Int32)))
def b_X8_realsOf_40 (rec_4 : Int32 → Int32 → Int32 → Option Int32) (q : SS) (l1 : Int32) (l3 : Int32) (s0 : Int32) : Option Int32 :=
  b_X8_realsOf_41 rec_4 q l1 l3 (0 : Int32) s0
theorem rb_X8_realsOf_40 {E : EE} (hE : GE E) {q : SS} {rec_4 : Int32 → Int32 → Int32 → Option Int32} (hrec_4 : ∀ (yl1 : Int32) (yl2 : Int32) (yl3 : Int32), R E (κi E q) 3 101 4 [(0, .ref 24), (1, .int yl1), (2, .int yl2), (3, .int yl3)] [] q (rec_4 yl1 yl2 yl3)) (l1 : Int32) (l3 : Int32) (s0 : Int32) : R E (κi E q) 3 101 40 [(0, .ref 24), (1, .int l1), (3, .int l3)] [.int s0] q (b_X8_realsOf_40 rec_4 q l1 l3 s0) := by
  unfold b_X8_realsOf_40
  refine r_iconst (v := (0 : Int32)) gX8_realsOf_26.2.2.2.2.2.2.1 rfl ?_
  exact r_sub (L' := [(0, .ref 24), (1, .int l1), (3, .int l3)]) (sub_c rfl (sub_c rfl (sub_c rfl sub_n))) (rb_X8_realsOf_41 hE hrec_4 l1 l3 (0 : Int32) s0)
def b_X8_realsOf_4 (q : SS) : Int32 → Int32 → Int32 → Option Int32 :=
  fx3 (fun (rec_4 : Int32 → Int32 → Int32 → Option Int32) (l1 : Int32) (l2 : Int32) (l3 : Int32) =>
  (f_X10_tickets q).bind fun r1 =>
  if r1 ≤ l3 then
  (some l2)
  else
  ((f_X8_holderOf q l3).bind fun r2 =>
  if r2 = l1 then
  ((f_X10_isReal q l3).bind fun r3 =>
  if r3 = 0 then
  (b_X8_realsOf_40 rec_4 q l1 l3 l2)
  else
  (b_X8_realsOf_41 rec_4 q l1 l3 (1 : Int32) l2))
  else
  (b_X8_realsOf_40 rec_4 q l1 l3 l2))) FU
theorem rb_X8_realsOf_4 {E : EE} (hE : GE E) (q : SS) (l1 : Int32) (l2 : Int32) (l3 : Int32) : R E (κi E q) 3 101 4 [(0, .ref 24), (1, .int l1), (2, .int l2), (3, .int l3)] [] q (b_X8_realsOf_4 q l1 l2 l3) := by
  unfold b_X8_realsOf_4
  refine fx3_ok (P := fun l1 l2 l3 o => R E (κi E q) 3 101 4 [(0, .ref 24), (1, .int l1), (2, .int l2), (3, .int l3)] [] q o) (fun _ _ _ => r_no) (fun rec_4 hrec_4 l1 l2 l3 => ?_) _ _ _ _
  refine r_iload_n (x := l3) gX8_realsOf_0.2.2.2.2.1 rfl ?_
  refine r_aload_n (x := 24) gX8_realsOf_0.2.2.2.2.2.1 rfl ?_
  refine r_getA gX8_realsOf_0.2.2.2.2.2.2.1 (fa_8_9_24 hE) ?_
  refine r_calli (k := 0) (idx := 33) (y := 126) (as := [.ref 1]) (rest := [.int l3]) (L0 := [(0, .ref 1)]) gX8_realsOf_0.2.2.2.2.2.2.2.1 rfl rfl rfl rfl rfl (vok_v (ob_1 hE) rfl) rfl (r_dep (by decide) (e_X10_tickets hE q)) (fun r1 => ?_)
  refine r_icmp_ge (t := 49) gX8_realsOf_0.2.2.2.2.2.2.2.2.1 rfl (fun h7 => ?_) (fun h7 => ?_)
  · refine r_iload_n (x := l2) gX8_realsOf_26.2.2.2.2.2.2.2.2.2.2.2.1 rfl ?_
    exact r_ireturn gX8_realsOf_26.2.2.2.2.2.2.2.2.2.2.2.2.1 rfl rfl
  · refine r_iload_n (x := l2) gX8_realsOf_0.2.2.2.2.2.2.2.2.2.1 rfl ?_
    refine r_aload_n (x := 24) gX8_realsOf_0.2.2.2.2.2.2.2.2.2.2.1 rfl ?_
    refine r_iload_n (x := l3) gX8_realsOf_0.2.2.2.2.2.2.2.2.2.2.2.1 rfl ?_
    refine r_calli (k := 0) (idx := 37) (y := 98) (as := [.ref 24, .int l3]) (rest := [.int l2]) (L0 := [(0, .ref 24), (1, .int l3)]) gX8_realsOf_0.2.2.2.2.2.2.2.2.2.2.2.2.1 rfl rfl rfl rfl rfl (vok_v (ob_24 hE) rfl) rfl (r_dep (by decide) (e_X8_holderOf hE q l3)) (fun r2 => ?_)
    refine r_iload_n (x := l1) gX8_realsOf_0.2.2.2.2.2.2.2.2.2.2.2.2.2.1 rfl ?_
    refine r_icmp_ne (t := 40) gX8_realsOf_0.2.2.2.2.2.2.2.2.2.2.2.2.2.2.1 rfl (fun h6 => ?_) (fun h6 => ?_)
    · refine r_aload_n (x := 24) gX8_realsOf_0.2.2.2.2.2.2.2.2.2.2.2.2.2.2.2.1 rfl ?_
      refine r_getA gX8_realsOf_26.1 (fa_8_9_24 hE) ?_
      refine r_iload_n (x := l3) gX8_realsOf_26.2.1 rfl ?_
      refine r_calli (k := 0) (idx := 41) (y := 131) (as := [.ref 1, .int l3]) (rest := [.int l2]) (L0 := [(0, .ref 1), (1, .int l3)]) gX8_realsOf_26.2.2.1 rfl rfl rfl rfl rfl (vok_v (ob_1 hE) rfl) rfl (r_dep (by decide) (e_X10_isReal hE q l3)) (fun r3 => ?_)
      refine r_if_eq (t := 40) gX8_realsOf_26.2.2.2.1 rfl (fun h5 => ?_) (fun h5 => ?_)
      · exact r_sub (L' := [(0, .ref 24), (1, .int l1), (3, .int l3)]) (sub_c rfl (sub_c rfl (sub_c rfl sub_n))) (rb_X8_realsOf_40 hE hrec_4 l1 l3 l2)
      · refine r_iconst (v := (1 : Int32)) gX8_realsOf_26.2.2.2.2.1 rfl ?_
        refine r_goto (t := 41) gX8_realsOf_26.2.2.2.2.2.1 rfl ?_
        exact r_sub (L' := [(0, .ref 24), (1, .int l1), (3, .int l3)]) (sub_c rfl (sub_c rfl (sub_c rfl sub_n))) (rb_X8_realsOf_41 hE hrec_4 l1 l3 (1 : Int32) l2)
    · exact r_sub (L' := [(0, .ref 24), (1, .int l1), (3, .int l3)]) (sub_c rfl (sub_c rfl (sub_c rfl sub_n))) (rb_X8_realsOf_40 hE hrec_4 l1 l3 l2)
def f_X8_realsOf (q : SS) (a1 : Int32) : Option Int32 :=
  b_X8_realsOf_4 q a1 (0 : Int32) (0 : Int32)
theorem e_X8_realsOf {E : EE} (hE : GE E) (q : SS) (a1 : Int32) : R E (κi E q) 3 101 0 [(0, .ref 24), (1, .int a1)] [] q (f_X8_realsOf q a1) := by
  unfold f_X8_realsOf
  refine r_iconst (v := (0 : Int32)) gX8_realsOf_0.1 rfl ?_
  refine r_istore_n (L2 := [(0, .ref 24), (1, .int a1), (2, .int (0 : Int32))]) gX8_realsOf_0.2.1 rfl rfl ?_
  refine r_iconst (v := (0 : Int32)) gX8_realsOf_0.2.2.1 rfl ?_
  refine r_istore_n (L2 := [(0, .ref 24), (1, .int a1), (2, .int (0 : Int32)), (3, .int (0 : Int32))]) gX8_realsOf_0.2.2.2.1 rfl rfl ?_
  exact r_sub (L' := [(0, .ref 24), (1, .int a1), (2, .int (0 : Int32)), (3, .int (0 : Int32))]) (sub_c rfl (sub_c rfl (sub_c rfl (sub_c rfl sub_n)))) (rb_X8_realsOf_4 hE q a1 (0 : Int32) (0 : Int32))
def b_X11_realsOfSet_36 (rec_5 : Int32 → Int32 → Int32 → Option Int32) (q : SS) (l2 : Int32) (l3 : Int32) (l4 : Int32) : Option Int32 :=
  rec_5 l2 l3 (l4 + (1 : Int32))
theorem rb_X11_realsOfSet_36 {E : EE} (hE : GE E) {q : SS} {rec_5 : Int32 → Int32 → Int32 → Option Int32} (hrec_5 : ∀ (yl2 : Int32) (yl3 : Int32) (yl4 : Int32), R E (κi E q) 4 166 5 [(0, .ref 0), (1, .ref 24), (2, .int yl2), (3, .int yl3), (4, .int yl4)] [] q (rec_5 yl2 yl3 yl4)) (l2 : Int32) (l3 : Int32) (l4 : Int32) : R E (κi E q) 4 166 36 [(0, .ref 0), (1, .ref 24), (2, .int l2), (3, .int l3), (4, .int l4)] [] q (b_X11_realsOfSet_36 rec_5 q l2 l3 l4) := by
  unfold b_X11_realsOfSet_36
  refine r_iinc (x := l4) (v := (l4 + (1 : Int32))) (L2 := [(0, .ref 0), (1, .ref 24), (2, .int l2), (3, .int l3), (4, .int (l4 + (1 : Int32)))]) gX11_realsOfSet_27.2.2.2.2.2.2.1 rfl rfl rfl rfl ?_
  refine r_goto (t := 5) gX11_realsOfSet_27.2.2.2.2.2.2.2.1 rfl ?_
  exact r_sub (L' := [(0, .ref 0), (1, .ref 24), (2, .int l2), (3, .int l3), (4, .int (l4 + (1 : Int32)))]) (sub_c rfl (sub_c rfl (sub_c rfl (sub_c rfl (sub_c rfl sub_n))))) (hrec_5 l2 l3 (l4 + (1 : Int32)))
def b_X11_realsOfSet_5 (q : SS) : Int32 → Int32 → Int32 → Option Int32 :=
  fx3 (fun (rec_5 : Int32 → Int32 → Int32 → Option Int32) (l2 : Int32) (l3 : Int32) (l4 : Int32) =>
  (f_X10_people q).bind fun r1 =>
  if r1 ≤ l4 then
  (some l3)
  else
  (if ((jshr l2 l4) &&& (1 : Int32)) = (1 : Int32) then
  ((f_X8_realsOf q l4).bind fun r2 =>
  nm (l3 + r2) fun v3 =>
  b_X11_realsOfSet_36 rec_5 q l2 v3 l4)
  else
  (b_X11_realsOfSet_36 rec_5 q l2 l3 l4))) FU
theorem rb_X11_realsOfSet_5 {E : EE} (hE : GE E) (q : SS) (l2 : Int32) (l3 : Int32) (l4 : Int32) : R E (κi E q) 4 166 5 [(0, .ref 0), (1, .ref 24), (2, .int l2), (3, .int l3), (4, .int l4)] [] q (b_X11_realsOfSet_5 q l2 l3 l4) := by
  unfold b_X11_realsOfSet_5
  refine fx3_ok (P := fun l2 l3 l4 o => R E (κi E q) 4 166 5 [(0, .ref 0), (1, .ref 24), (2, .int l2), (3, .int l3), (4, .int l4)] [] q o) (fun _ _ _ => r_no) (fun rec_5 hrec_5 l2 l3 l4 => ?_) _ _ _ _
  refine r_iload (x := l4) gX11_realsOfSet_0.2.2.2.2.1 rfl ?_
  refine r_aload_n (x := 0) gX11_realsOfSet_0.2.2.2.2.2.1 rfl ?_
  refine r_getA gX11_realsOfSet_0.2.2.2.2.2.2.1 (fa_11_10_0 hE) ?_
  refine r_calli (k := 0) (idx := 226) (y := 125) (as := [.ref 1]) (rest := [.int l4]) (L0 := [(0, .ref 1)]) gX11_realsOfSet_0.2.2.2.2.2.2.2.1 rfl rfl rfl rfl rfl (vok_v (ob_1 hE) rfl) rfl (r_dep (by decide) (e_X10_people hE q)) (fun r1 => ?_)
  refine r_icmp_ge (t := 42) gX11_realsOfSet_0.2.2.2.2.2.2.2.2.1 rfl (fun h5 => ?_) (fun h5 => ?_)
  · refine r_iload_n (x := l3) gX11_realsOfSet_27.2.2.2.2.2.2.2.2.1 rfl ?_
    exact r_ireturn gX11_realsOfSet_27.2.2.2.2.2.2.2.2.2.1 rfl rfl
  · refine r_iload_n (x := l2) gX11_realsOfSet_0.2.2.2.2.2.2.2.2.2.1 rfl ?_
    refine r_iload (x := l4) gX11_realsOfSet_0.2.2.2.2.2.2.2.2.2.2.1 rfl ?_
    refine r_ishr gX11_realsOfSet_0.2.2.2.2.2.2.2.2.2.2.2.1 ?_
    refine r_iconst (v := (1 : Int32)) gX11_realsOfSet_0.2.2.2.2.2.2.2.2.2.2.2.2.1 rfl ?_
    refine r_iand gX11_realsOfSet_0.2.2.2.2.2.2.2.2.2.2.2.2.2.1 ?_
    refine r_iconst (v := (1 : Int32)) gX11_realsOfSet_0.2.2.2.2.2.2.2.2.2.2.2.2.2.2.1 rfl ?_
    refine r_icmp_ne (t := 36) gX11_realsOfSet_0.2.2.2.2.2.2.2.2.2.2.2.2.2.2.2.1 rfl (fun h4 => ?_) (fun h4 => ?_)
    · refine r_iload_n (x := l3) gX11_realsOfSet_27.1 rfl ?_
      refine r_aload_n (x := 24) gX11_realsOfSet_27.2.1 rfl ?_
      refine r_iload (x := l4) gX11_realsOfSet_27.2.2.1 rfl ?_
      refine r_calli (k := 0) (idx := 150) (y := 101) (as := [.ref 24, .int l4]) (rest := [.int l3]) (L0 := [(0, .ref 24), (1, .int l4)]) gX11_realsOfSet_27.2.2.2.1 rfl rfl rfl rfl rfl (vok_v (ob_24 hE) rfl) rfl (r_dep (by decide) (e_X8_realsOf hE q l4)) (fun r2 => ?_)
      refine r_iadd gX11_realsOfSet_27.2.2.2.2.1 ?_
      refine r_nmI fun v3 _ => ?_
      refine r_istore_n (L2 := [(0, .ref 0), (1, .ref 24), (2, .int l2), (3, .int v3), (4, .int l4)]) gX11_realsOfSet_27.2.2.2.2.2.1 rfl rfl ?_
      exact r_sub (L' := [(0, .ref 0), (1, .ref 24), (2, .int l2), (3, .int v3), (4, .int l4)]) (sub_c rfl (sub_c rfl (sub_c rfl (sub_c rfl (sub_c rfl sub_n))))) (rb_X11_realsOfSet_36 hE hrec_5 l2 v3 l4)
    · exact r_sub (L' := [(0, .ref 0), (1, .ref 24), (2, .int l2), (3, .int l3), (4, .int l4)]) (sub_c rfl (sub_c rfl (sub_c rfl (sub_c rfl (sub_c rfl sub_n))))) (rb_X11_realsOfSet_36 hE hrec_5 l2 l3 l4)
def f_X11_realsOfSet (q : SS) (a2 : Int32) : Option Int32 :=
  b_X11_realsOfSet_5 q a2 (0 : Int32) (0 : Int32)
theorem e_X11_realsOfSet {E : EE} (hE : GE E) (q : SS) (a2 : Int32) : R E (κi E q) 4 166 0 [(0, .ref 0), (1, .ref 24), (2, .int a2)] [] q (f_X11_realsOfSet q a2) := by
  unfold f_X11_realsOfSet
  refine r_iconst (v := (0 : Int32)) gX11_realsOfSet_0.1 rfl ?_
  refine r_istore_n (L2 := [(0, .ref 0), (1, .ref 24), (2, .int a2), (3, .int (0 : Int32))]) gX11_realsOfSet_0.2.1 rfl rfl ?_
  refine r_iconst (v := (0 : Int32)) gX11_realsOfSet_0.2.2.1 rfl ?_
  refine r_istore (L2 := [(0, .ref 0), (1, .ref 24), (2, .int a2), (3, .int (0 : Int32)), (4, .int (0 : Int32))]) gX11_realsOfSet_0.2.2.2.1 rfl rfl ?_
  exact r_sub (L' := [(0, .ref 0), (1, .ref 24), (2, .int a2), (3, .int (0 : Int32)), (4, .int (0 : Int32))]) (sub_c rfl (sub_c rfl (sub_c rfl (sub_c rfl (sub_c rfl sub_n))))) (rb_X11_realsOfSet_5 hE q a2 (0 : Int32) (0 : Int32))
def b_X11_half_75 (rec_27 : SS → Int32 → Int32 → Int32 → Int32 → Option (Int32 × SS)) (q : SS) (l2 : Int32) (l3 : Int32) (l4 : Int32) (l5 : Int32) : Option (Int32 × SS) :=
  rec_27 q l2 l3 l4 (l5 + (1 : Int32))
theorem rb_X11_half_75 {E : EE} (hE : GE E) {rec_27 : SS → Int32 → Int32 → Int32 → Int32 → Option (Int32 × SS)} (hrec_27 : ∀ (yq : SS) (yl2 : Int32) (yl3 : Int32) (yl4 : Int32) (yl5 : Int32), R E (κI E) 5 165 27 [(0, .ref 0), (1, .ref 24), (2, .int yl2), (3, .int yl3), (4, .int yl4), (5, .int yl5)] [] yq (rec_27 yq yl2 yl3 yl4 yl5)) (q : SS) (l2 : Int32) (l3 : Int32) (l4 : Int32) (l5 : Int32) : R E (κI E) 5 165 75 [(0, .ref 0), (1, .ref 24), (2, .int l2), (3, .int l3), (4, .int l4), (5, .int l5)] [] q (b_X11_half_75 rec_27 q l2 l3 l4 l5) := by
  unfold b_X11_half_75
  refine r_iinc (x := l5) (v := (l5 + (1 : Int32))) (L2 := [(0, .ref 0), (1, .ref 24), (2, .int l2), (3, .int l3), (4, .int l4), (5, .int (l5 + (1 : Int32)))]) gX11_half_58.2.2.2.2.2.2.2.2.2.1 rfl rfl rfl rfl ?_
  refine r_goto (t := 27) gX11_half_58.2.2.2.2.2.2.2.2.2.2.1 rfl ?_
  exact r_sub (L' := [(0, .ref 0), (1, .ref 24), (2, .int l2), (3, .int l3), (4, .int l4), (5, .int (l5 + (1 : Int32)))]) (sub_c rfl (sub_c rfl (sub_c rfl (sub_c rfl (sub_c rfl (sub_c rfl sub_n)))))) (hrec_27 q l2 l3 l4 (l5 + (1 : Int32)))
def b_X11_half_27 : SS → Int32 → Int32 → Int32 → Int32 → Option (Int32 × SS) :=
  fx5 (fun (rec_27 : SS → Int32 → Int32 → Int32 → Int32 → Option (Int32 × SS)) (q : SS) (l2 : Int32) (l3 : Int32) (l4 : Int32) (l5 : Int32) =>
  (f_X10_people q).bind fun r3 =>
  if (jshl (1 : Int32) r3) ≤ l5 then
  (some (l3, q))
  else
  ((f_J6_bitCount_0f7a4 q l5).bind fun r4 =>
  if l4 ≤ r4 then
  (b_X11_half_75 rec_27 q l2 l3 l4 l5)
  else
  ((f_X11_realsOfSet q l5).bind fun r5 =>
  if ((2 : Int32) * r5) < l2 then
  (b_X11_half_75 rec_27 q l2 l3 l4 l5)
  else
  (b_X11_half_75 rec_27 q l2 l5 r4 l5)))) FU
theorem rb_X11_half_27 {E : EE} (hE : GE E) (q : SS) (l2 : Int32) (l3 : Int32) (l4 : Int32) (l5 : Int32) : R E (κI E) 5 165 27 [(0, .ref 0), (1, .ref 24), (2, .int l2), (3, .int l3), (4, .int l4), (5, .int l5)] [] q (b_X11_half_27 q l2 l3 l4 l5) := by
  unfold b_X11_half_27
  refine fx5_ok (P := fun q l2 l3 l4 l5 o => R E (κI E) 5 165 27 [(0, .ref 0), (1, .ref 24), (2, .int l2), (3, .int l3), (4, .int l4), (5, .int l5)] [] q o) (fun _ _ _ _ _ => r_no) (fun rec_27 hrec_27 q l2 l3 l4 l5 => ?_) _ _ _ _ _ _
  refine r_iload (x := l5) gX11_half_27.1 rfl ?_
  refine r_iconst (v := (1 : Int32)) gX11_half_27.2.1 rfl ?_
  refine r_aload_n (x := 0) gX11_half_27.2.2.1 rfl ?_
  refine r_getA gX11_half_27.2.2.2.1 (fa_11_10_0 hE) ?_
  refine r_calli (k := 0) (idx := 226) (y := 125) (as := [.ref 1]) (rest := [.int (1 : Int32), .int l5]) (L0 := [(0, .ref 1)]) gX11_half_27.2.2.2.2.1 rfl rfl rfl rfl rfl (vok_v (ob_1 hE) rfl) rfl (r_dep (by decide) (e_X10_people hE q)) (fun r3 => ?_)
  refine r_ishl gX11_half_27.2.2.2.2.2.1 ?_
  refine r_icmp_ge (t := 81) gX11_half_27.2.2.2.2.2.2.1 rfl (fun h8 => ?_) (fun h8 => ?_)
  · refine r_iload_n (x := l3) gX11_half_58.2.2.2.2.2.2.2.2.2.2.2.1 rfl ?_
    exact r_ireturn gX11_half_58.2.2.2.2.2.2.2.2.2.2.2.2.1 rfl rfl
  · refine r_iload (x := l5) gX11_half_27.2.2.2.2.2.2.2.1 rfl ?_
    refine r_calli (k := 2) (idx := 264) (y := 296) (as := [.int l5]) (rest := []) (L0 := [(0, .int l5)]) gX11_half_27.2.2.2.2.2.2.2.2.1 rfl rfl rfl rfl rfl vok_s rfl (r_dep (by decide) (e_J6_bitCount_0f7a4 hE q l5)) (fun r4 => ?_)
    refine r_istore (L2 := [(0, .ref 0), (1, .ref 24), (2, .int l2), (3, .int l3), (4, .int l4), (5, .int l5), (6, .int r4)]) gX11_half_27.2.2.2.2.2.2.2.2.2.1 rfl rfl ?_
    refine r_iload (x := r4) gX11_half_27.2.2.2.2.2.2.2.2.2.2.1 rfl ?_
    refine r_iload (x := l4) gX11_half_27.2.2.2.2.2.2.2.2.2.2.2.1 rfl ?_
    refine r_icmp_ge (t := 75) gX11_half_27.2.2.2.2.2.2.2.2.2.2.2.2.1 rfl (fun h7 => ?_) (fun h7 => ?_)
    · exact r_sub (L' := [(0, .ref 0), (1, .ref 24), (2, .int l2), (3, .int l3), (4, .int l4), (5, .int l5)]) (sub_c rfl (sub_c rfl (sub_c rfl (sub_c rfl (sub_c rfl (sub_c rfl sub_n)))))) (rb_X11_half_75 hE hrec_27 q l2 l3 l4 l5)
    · refine r_iconst (v := (2 : Int32)) gX11_half_27.2.2.2.2.2.2.2.2.2.2.2.2.2.1 rfl ?_
      refine r_aload_n (x := 0) gX11_half_27.2.2.2.2.2.2.2.2.2.2.2.2.2.2.1 rfl ?_
      refine r_aload_n (x := 24) gX11_half_27.2.2.2.2.2.2.2.2.2.2.2.2.2.2.2.1 rfl ?_
      refine r_iload (x := l5) gX11_half_58.1 rfl ?_
      refine r_calli (k := 0) (idx := 269) (y := 166) (as := [.ref 0, .ref 24, .int l5]) (rest := [.int (2 : Int32)]) (L0 := [(0, .ref 0), (1, .ref 24), (2, .int l5)]) gX11_half_58.2.1 rfl rfl rfl rfl rfl (vok_v (ob_0 hE) rfl) rfl (r_dep (by decide) (e_X11_realsOfSet hE q l5)) (fun r5 => ?_)
      refine r_imul gX11_half_58.2.2.1 ?_
      refine r_iload_n (x := l2) gX11_half_58.2.2.2.1 rfl ?_
      refine r_icmp_lt (t := 75) gX11_half_58.2.2.2.2.1 rfl (fun h6 => ?_) (fun h6 => ?_)
      · exact r_sub (L' := [(0, .ref 0), (1, .ref 24), (2, .int l2), (3, .int l3), (4, .int l4), (5, .int l5)]) (sub_c rfl (sub_c rfl (sub_c rfl (sub_c rfl (sub_c rfl (sub_c rfl sub_n)))))) (rb_X11_half_75 hE hrec_27 q l2 l3 l4 l5)
      · refine r_iload (x := r4) gX11_half_58.2.2.2.2.2.1 rfl ?_
        refine r_istore (L2 := [(0, .ref 0), (1, .ref 24), (2, .int l2), (3, .int l3), (4, .int r4), (5, .int l5), (6, .int r4)]) gX11_half_58.2.2.2.2.2.2.1 rfl rfl ?_
        refine r_iload (x := l5) gX11_half_58.2.2.2.2.2.2.2.1 rfl ?_
        refine r_istore_n (L2 := [(0, .ref 0), (1, .ref 24), (2, .int l2), (3, .int l5), (4, .int r4), (5, .int l5), (6, .int r4)]) gX11_half_58.2.2.2.2.2.2.2.2.1 rfl rfl ?_
        exact r_sub (L' := [(0, .ref 0), (1, .ref 24), (2, .int l2), (3, .int l5), (4, .int r4), (5, .int l5)]) (sub_c rfl (sub_c rfl (sub_c rfl (sub_c rfl (sub_c rfl (sub_c rfl sub_n)))))) (rb_X11_half_75 hE hrec_27 q l2 l5 r4 l5)
def f_X11_half (q : SS)  : Option (Int32 × SS) :=
  (f_X11_now q).bind fun r1 =>
  (f_X8_reals r1).bind fun r2 =>
  if r2 = 0 then
  (some ((-2 : Int32), r1))
  else
  (b_X11_half_27 r1 r2 (-2 : Int32) (7 : Int32) (0 : Int32))
theorem e_X11_half {E : EE} (hE : GE E) (q : SS)  : R E (κI E) 5 165 0 [(0, .ref 0)] [] q (f_X11_half q) := by
  unfold f_X11_half
  refine r_aload_n (x := 0) gX11_half_0.1 rfl ?_
  refine r_callA (k := 0) (idx := 143) (y := 148) (as := [.ref 0]) (rest := []) (L0 := [(0, .ref 0)]) gX11_half_0.2.1 rfl rfl rfl rfl rfl (vok_v (ob_0 hE) rfl) rfl (r_dep (by decide) (e_X11_now hE q)) (fun r1 => ?_)
  refine r_astore_n (L2 := [(0, .ref 0), (1, .ref 24)]) gX11_half_0.2.2.1 rfl rfl ?_
  refine r_aload_n (x := 24) gX11_half_0.2.2.2.1 rfl ?_
  refine r_calli (k := 0) (idx := 223) (y := 102) (as := [.ref 24]) (rest := []) (L0 := [(0, .ref 24)]) gX11_half_0.2.2.2.2.1 rfl rfl rfl rfl rfl (vok_v (ob_24 hE) rfl) rfl (r_dep (by decide) (e_X8_reals hE r1)) (fun r2 => ?_)
  refine r_istore_n (L2 := [(0, .ref 0), (1, .ref 24), (2, .int r2)]) gX11_half_0.2.2.2.2.2.1 rfl rfl ?_
  refine r_iload_n (x := r2) gX11_half_0.2.2.2.2.2.2.1 rfl ?_
  refine r_if_ne (t := 17) gX11_half_0.2.2.2.2.2.2.2.1 rfl (fun h9 => ?_) (fun h9 => ?_)
  · refine r_bipush (v := (-2 : Int32)) gX11_half_0.2.2.2.2.2.2.2.2.1 rfl ?_
    exact r_ireturn gX11_half_0.2.2.2.2.2.2.2.2.2.1 rfl rfl
  · refine r_bipush (v := (-2 : Int32)) gX11_half_0.2.2.2.2.2.2.2.2.2.2.1 rfl ?_
    refine r_istore_n (L2 := [(0, .ref 0), (1, .ref 24), (2, .int r2), (3, .int (-2 : Int32))]) gX11_half_0.2.2.2.2.2.2.2.2.2.2.2.1 rfl rfl ?_
    refine r_bipush (v := (7 : Int32)) gX11_half_0.2.2.2.2.2.2.2.2.2.2.2.2.1 rfl ?_
    refine r_istore (L2 := [(0, .ref 0), (1, .ref 24), (2, .int r2), (3, .int (-2 : Int32)), (4, .int (7 : Int32))]) gX11_half_0.2.2.2.2.2.2.2.2.2.2.2.2.2.1 rfl rfl ?_
    refine r_iconst (v := (0 : Int32)) gX11_half_0.2.2.2.2.2.2.2.2.2.2.2.2.2.2.1 rfl ?_
    refine r_istore (L2 := [(0, .ref 0), (1, .ref 24), (2, .int r2), (3, .int (-2 : Int32)), (4, .int (7 : Int32)), (5, .int (0 : Int32))]) gX11_half_0.2.2.2.2.2.2.2.2.2.2.2.2.2.2.2.1 rfl rfl ?_
    exact r_sub (L' := [(0, .ref 0), (1, .ref 24), (2, .int r2), (3, .int (-2 : Int32)), (4, .int (7 : Int32)), (5, .int (0 : Int32))]) (sub_c rfl (sub_c rfl (sub_c rfl (sub_c rfl (sub_c rfl (sub_c rfl sub_n)))))) (rb_X11_half_27 hE r1 r2 (-2 : Int32) (7 : Int32) (0 : Int32))
def b_X12_realOf_34 (rec_4 : Int32 → Int32 → Int32 → Option Int32) (q : SS) (l1 : Int32) (l2 : Int32) (l3 : Int32) : Option Int32 :=
  rec_4 l1 l2 (l3 + (1 : Int32))
theorem rb_X12_realOf_34 {E : EE} (hE : GE E) {q : SS} {rec_4 : Int32 → Int32 → Int32 → Option Int32} (hrec_4 : ∀ (yl1 : Int32) (yl2 : Int32) (yl3 : Int32), R E (κi E q) 0 228 4 [(0, .ref 60), (1, .int yl1), (2, .int yl2), (3, .int yl3)] [] q (rec_4 yl1 yl2 yl3)) (l1 : Int32) (l2 : Int32) (l3 : Int32) : R E (κi E q) 0 228 34 [(0, .ref 60), (1, .int l1), (2, .int l2), (3, .int l3)] [] q (b_X12_realOf_34 rec_4 q l1 l2 l3) := by
  unfold b_X12_realOf_34
  refine r_iinc (x := l3) (v := (l3 + (1 : Int32))) (L2 := [(0, .ref 60), (1, .int l1), (2, .int l2), (3, .int (l3 + (1 : Int32)))]) gX12_realOf_26.2.2.2.2.1 rfl rfl rfl rfl ?_
  refine r_goto (t := 4) gX12_realOf_26.2.2.2.2.2.1 rfl ?_
  exact r_sub (L' := [(0, .ref 60), (1, .int l1), (2, .int l2), (3, .int (l3 + (1 : Int32)))]) (sub_c rfl (sub_c rfl (sub_c rfl (sub_c rfl sub_n)))) (hrec_4 l1 l2 (l3 + (1 : Int32)))
def b_X12_realOf_4 (q : SS) : Int32 → Int32 → Int32 → Option Int32 :=
  fx3 (fun (rec_4 : Int32 → Int32 → Int32 → Option Int32) (l1 : Int32) (l2 : Int32) (l3 : Int32) =>
  if (q.1 60 6) ≤ l3 then
  (some l2)
  else
  (if vin l3 12 then
  if (q.1 81 l3.toNatClampNeg) = l1 then
  (if vin l3 12 then
  if (q.1 66 l3.toNatClampNeg) = 0 then
  (b_X12_realOf_34 rec_4 q l1 (l2 + (1 : Int32)) l3)
  else
  (b_X12_realOf_34 rec_4 q l1 l2 l3)
  else none)
  else
  (b_X12_realOf_34 rec_4 q l1 l2 l3)
  else none)) FU
theorem rb_X12_realOf_4 {E : EE} (hE : GE E) (q : SS) (l1 : Int32) (l2 : Int32) (l3 : Int32) : R E (κi E q) 0 228 4 [(0, .ref 60), (1, .int l1), (2, .int l2), (3, .int l3)] [] q (b_X12_realOf_4 q l1 l2 l3) := by
  unfold b_X12_realOf_4
  refine fx3_ok (P := fun l1 l2 l3 o => R E (κi E q) 0 228 4 [(0, .ref 60), (1, .int l1), (2, .int l2), (3, .int l3)] [] q o) (fun _ _ _ => r_no) (fun rec_4 hrec_4 l1 l2 l3 => ?_) _ _ _ _
  refine r_iload_n (x := l3) gX12_realOf_0.2.2.2.2.1 rfl ?_
  refine r_aload_n (x := 60) gX12_realOf_0.2.2.2.2.2.1 rfl ?_
  refine r_getI gX12_realOf_0.2.2.2.2.2.2.1 (ff_12_122_60 hE) (by decide) ?_
  refine r_icmp_ge (t := 40) gX12_realOf_0.2.2.2.2.2.2.2.1 rfl (fun h3 => ?_) (fun h3 => ?_)
  · refine r_iload_n (x := l2) gX12_realOf_26.2.2.2.2.2.2.1 rfl ?_
    exact r_ireturn gX12_realOf_26.2.2.2.2.2.2.2.1 rfl rfl
  · refine r_aload_n (x := 60) gX12_realOf_0.2.2.2.2.2.2.2.2.1 rfl ?_
    refine r_getA gX12_realOf_0.2.2.2.2.2.2.2.2.2.1 (fa_12_74_60 hE) ?_
    refine r_iload_n (x := l3) gX12_realOf_0.2.2.2.2.2.2.2.2.2.2.1 rfl ?_
    refine r_iaload gX12_realOf_0.2.2.2.2.2.2.2.2.2.2.2.1 (ar_81 hE) ?_
    refine r_iload_n (x := l1) gX12_realOf_0.2.2.2.2.2.2.2.2.2.2.2.2.1 rfl ?_
    refine r_icmp_ne (t := 34) gX12_realOf_0.2.2.2.2.2.2.2.2.2.2.2.2.2.1 rfl (fun h2 => ?_) (fun h2 => ?_)
    · refine r_aload_n (x := 60) gX12_realOf_0.2.2.2.2.2.2.2.2.2.2.2.2.2.2.1 rfl ?_
      refine r_getA gX12_realOf_0.2.2.2.2.2.2.2.2.2.2.2.2.2.2.2.1 (fa_12_27_60 hE) ?_
      refine r_iload_n (x := l3) gX12_realOf_26.1 rfl ?_
      refine r_iaload gX12_realOf_26.2.1 (ar_66 hE) ?_
      refine r_if_ne (t := 34) gX12_realOf_26.2.2.1 rfl (fun h1 => ?_) (fun h1 => ?_)
      · refine r_iinc (x := l2) (v := (l2 + (1 : Int32))) (L2 := [(0, .ref 60), (1, .int l1), (2, .int (l2 + (1 : Int32))), (3, .int l3)]) gX12_realOf_26.2.2.2.1 rfl rfl rfl rfl ?_
        exact r_sub (L' := [(0, .ref 60), (1, .int l1), (2, .int (l2 + (1 : Int32))), (3, .int l3)]) (sub_c rfl (sub_c rfl (sub_c rfl (sub_c rfl sub_n)))) (rb_X12_realOf_34 hE hrec_4 l1 (l2 + (1 : Int32)) l3)
      · exact r_sub (L' := [(0, .ref 60), (1, .int l1), (2, .int l2), (3, .int l3)]) (sub_c rfl (sub_c rfl (sub_c rfl (sub_c rfl sub_n)))) (rb_X12_realOf_34 hE hrec_4 l1 l2 l3)
    · exact r_sub (L' := [(0, .ref 60), (1, .int l1), (2, .int l2), (3, .int l3)]) (sub_c rfl (sub_c rfl (sub_c rfl (sub_c rfl sub_n)))) (rb_X12_realOf_34 hE hrec_4 l1 l2 l3)
def f_X12_realOf (q : SS) (a1 : Int32) : Option Int32 :=
  b_X12_realOf_4 q a1 (0 : Int32) (0 : Int32)
theorem e_X12_realOf {E : EE} (hE : GE E) (q : SS) (a1 : Int32) : R E (κi E q) 0 228 0 [(0, .ref 60), (1, .int a1)] [] q (f_X12_realOf q a1) := by
  unfold f_X12_realOf
  refine r_iconst (v := (0 : Int32)) gX12_realOf_0.1 rfl ?_
  refine r_istore_n (L2 := [(0, .ref 60), (1, .int a1), (2, .int (0 : Int32))]) gX12_realOf_0.2.1 rfl rfl ?_
  refine r_iconst (v := (0 : Int32)) gX12_realOf_0.2.2.1 rfl ?_
  refine r_istore_n (L2 := [(0, .ref 60), (1, .int a1), (2, .int (0 : Int32)), (3, .int (0 : Int32))]) gX12_realOf_0.2.2.2.1 rfl rfl ?_
  exact r_sub (L' := [(0, .ref 60), (1, .int a1), (2, .int (0 : Int32)), (3, .int (0 : Int32))]) (sub_c rfl (sub_c rfl (sub_c rfl (sub_c rfl sub_n)))) (rb_X12_realOf_4 hE q a1 (0 : Int32) (0 : Int32))
def b_X12_half_95 (rec_14 : SS → Int32 → Int32 → Int32 → Option (Int32 × SS)) (q : SS) (l1 : Int32) (l2 : Int32) (l3 : Int32) : Option (Int32 × SS) :=
  rec_14 q l1 l2 (l3 + (1 : Int32))
theorem rb_X12_half_95 {E : EE} (hE : GE E) {rec_14 : SS → Int32 → Int32 → Int32 → Option (Int32 × SS)} (hrec_14 : ∀ (yq : SS) (yl1 : Int32) (yl2 : Int32) (yl3 : Int32), R E (κI E) 1 257 14 [(0, .ref 60), (1, .int yl1), (2, .int yl2), (3, .int yl3)] [] yq (rec_14 yq yl1 yl2 yl3)) (q : SS) (l1 : Int32) (l2 : Int32) (l3 : Int32) : R E (κI E) 1 257 95 [(0, .ref 60), (1, .int l1), (2, .int l2), (3, .int l3)] [] q (b_X12_half_95 rec_14 q l1 l2 l3) := by
  unfold b_X12_half_95
  refine r_iinc (x := l3) (v := (l3 + (1 : Int32))) (L2 := [(0, .ref 60), (1, .int l1), (2, .int l2), (3, .int (l3 + (1 : Int32)))]) gX12_half_83.2.2.2.2.2.2.1 rfl rfl rfl rfl ?_
  refine r_goto (t := 14) gX12_half_83.2.2.2.2.2.2.2.1 rfl ?_
  exact r_sub (L' := [(0, .ref 60), (1, .int l1), (2, .int l2), (3, .int (l3 + (1 : Int32)))]) (sub_c rfl (sub_c rfl (sub_c rfl (sub_c rfl sub_n)))) (hrec_14 q l1 l2 (l3 + (1 : Int32)))
def b_X12_half_93 (rec_14 : SS → Int32 → Int32 → Int32 → Option (Int32 × SS)) (q : SS) (l1 : Int32) (l3 : Int32) : Option (Int32 × SS) :=
  b_X12_half_95 rec_14 q l1 l3 l3
theorem rb_X12_half_93 {E : EE} (hE : GE E) {rec_14 : SS → Int32 → Int32 → Int32 → Option (Int32 × SS)} (hrec_14 : ∀ (yq : SS) (yl1 : Int32) (yl2 : Int32) (yl3 : Int32), R E (κI E) 1 257 14 [(0, .ref 60), (1, .int yl1), (2, .int yl2), (3, .int yl3)] [] yq (rec_14 yq yl1 yl2 yl3)) (q : SS) (l1 : Int32) (l3 : Int32) : R E (κI E) 1 257 93 [(0, .ref 60), (1, .int l1), (3, .int l3)] [] q (b_X12_half_93 rec_14 q l1 l3) := by
  unfold b_X12_half_93
  refine r_iload_n (x := l3) gX12_half_83.2.2.2.2.1 rfl ?_
  refine r_istore_n (L2 := [(0, .ref 60), (1, .int l1), (2, .int l3), (3, .int l3)]) gX12_half_83.2.2.2.2.2.1 rfl rfl ?_
  exact r_sub (L' := [(0, .ref 60), (1, .int l1), (2, .int l3), (3, .int l3)]) (sub_c rfl (sub_c rfl (sub_c rfl (sub_c rfl sub_n)))) (rb_X12_half_95 hE hrec_14 q l1 l3 l3)
def b_X12_half_64 (rec_14 : SS → Int32 → Int32 → Int32 → Option (Int32 × SS)) (rec_34 : SS → Int32 → Int32 → Int32 → Int32 → Int32 → Option (Int32 × SS)) (q : SS) (l1 : Int32) (l2 : Int32) (l3 : Int32) (l4 : Int32) (l5 : Int32) : Option (Int32 × SS) :=
  rec_34 q l1 l2 l3 l4 (l5 + (1 : Int32))
theorem rb_X12_half_64 {E : EE} (hE : GE E) {rec_14 : SS → Int32 → Int32 → Int32 → Option (Int32 × SS)} (hrec_14 : ∀ (yq : SS) (yl1 : Int32) (yl2 : Int32) (yl3 : Int32), R E (κI E) 1 257 14 [(0, .ref 60), (1, .int yl1), (2, .int yl2), (3, .int yl3)] [] yq (rec_14 yq yl1 yl2 yl3)) {rec_34 : SS → Int32 → Int32 → Int32 → Int32 → Int32 → Option (Int32 × SS)} (hrec_34 : ∀ (yq : SS) (yl1 : Int32) (yl2 : Int32) (yl3 : Int32) (yl4 : Int32) (yl5 : Int32), R E (κI E) 1 257 34 [(0, .ref 60), (1, .int yl1), (2, .int yl2), (3, .int yl3), (4, .int yl4), (5, .int yl5)] [] yq (rec_34 yq yl1 yl2 yl3 yl4 yl5)) (q : SS) (l1 : Int32) (l2 : Int32) (l3 : Int32) (l4 : Int32) (l5 : Int32) : R E (κI E) 1 257 64 [(0, .ref 60), (1, .int l1), (2, .int l2), (3, .int l3), (4, .int l4), (5, .int l5)] [] q (b_X12_half_64 rec_14 rec_34 q l1 l2 l3 l4 l5) := by
  unfold b_X12_half_64
  refine r_iinc (x := l5) (v := (l5 + (1 : Int32))) (L2 := [(0, .ref 60), (1, .int l1), (2, .int l2), (3, .int l3), (4, .int l4), (5, .int (l5 + (1 : Int32)))]) gX12_half_53.2.2.2.2.2.2.1 rfl rfl rfl rfl ?_
  refine r_goto (t := 34) gX12_half_53.2.2.2.2.2.2.2.1 rfl ?_
  exact r_sub (L' := [(0, .ref 60), (1, .int l1), (2, .int l2), (3, .int l3), (4, .int l4), (5, .int (l5 + (1 : Int32)))]) (sub_c rfl (sub_c rfl (sub_c rfl (sub_c rfl (sub_c rfl (sub_c rfl sub_n)))))) (hrec_34 q l1 l2 l3 l4 (l5 + (1 : Int32)))
def b_X12_half_34 (rec_14 : SS → Int32 → Int32 → Int32 → Option (Int32 × SS)) : SS → Int32 → Int32 → Int32 → Int32 → Int32 → Option (Int32 × SS) :=
  fx6 (fun (rec_34 : SS → Int32 → Int32 → Int32 → Int32 → Int32 → Option (Int32 × SS)) (q : SS) (l1 : Int32) (l2 : Int32) (l3 : Int32) (l4 : Int32) (l5 : Int32) =>
  if (q.1 60 1) ≤ l5 then
  (if ((2 : Int32) * l4) < l1 then
  (b_X12_half_95 rec_14 q l1 l2 l3)
  else
  (if l2 < 0 then
  (b_X12_half_93 rec_14 q l1 l3)
  else
  ((f_X12_bitsOf q l3).bind fun r3 =>
  (f_X12_bitsOf q l2).bind fun r4 =>
  if r4 ≤ r3 then
  (b_X12_half_95 rec_14 q l1 l2 l3)
  else
  (b_X12_half_93 rec_14 q l1 l3))))
  else
  (if ((jshr l3 l5) &&& (1 : Int32)) = (1 : Int32) then
  ((f_X12_realOf q l5).bind fun r8 =>
  nm (l4 + r8) fun v9 =>
  b_X12_half_64 rec_14 rec_34 q l1 l2 l3 v9 l5)
  else
  (b_X12_half_64 rec_14 rec_34 q l1 l2 l3 l4 l5))) FU
theorem rb_X12_half_34 {E : EE} (hE : GE E) {rec_14 : SS → Int32 → Int32 → Int32 → Option (Int32 × SS)} (hrec_14 : ∀ (yq : SS) (yl1 : Int32) (yl2 : Int32) (yl3 : Int32), R E (κI E) 1 257 14 [(0, .ref 60), (1, .int yl1), (2, .int yl2), (3, .int yl3)] [] yq (rec_14 yq yl1 yl2 yl3)) (q : SS) (l1 : Int32) (l2 : Int32) (l3 : Int32) (l4 : Int32) (l5 : Int32) : R E (κI E) 1 257 34 [(0, .ref 60), (1, .int l1), (2, .int l2), (3, .int l3), (4, .int l4), (5, .int l5)] [] q (b_X12_half_34 rec_14 q l1 l2 l3 l4 l5) := by
  unfold b_X12_half_34
  refine fx6_ok (P := fun q l1 l2 l3 l4 l5 o => R E (κI E) 1 257 34 [(0, .ref 60), (1, .int l1), (2, .int l2), (3, .int l3), (4, .int l4), (5, .int l5)] [] q o) (fun _ _ _ _ _ _ => r_no) (fun rec_34 hrec_34 q l1 l2 l3 l4 l5 => ?_) _ _ _ _ _ _ _
  refine r_iload (x := l5) gX12_half_25.2.2.2.2.2.1 rfl ?_
  refine r_aload_n (x := 60) gX12_half_25.2.2.2.2.2.2.1 rfl ?_
  refine r_getI gX12_half_25.2.2.2.2.2.2.2.1 (ff_12_115_60 hE) (by decide) ?_
  refine r_icmp_ge (t := 70) gX12_half_25.2.2.2.2.2.2.2.2.1 rfl (fun h11 => ?_) (fun h11 => ?_)
  · refine r_iconst (v := (2 : Int32)) gX12_half_53.2.2.2.2.2.2.2.2.1 rfl ?_
    refine r_iload (x := l4) gX12_half_53.2.2.2.2.2.2.2.2.2.1 rfl ?_
    refine r_imul gX12_half_53.2.2.2.2.2.2.2.2.2.2.1 ?_
    refine r_iload_n (x := l1) gX12_half_53.2.2.2.2.2.2.2.2.2.2.2.1 rfl ?_
    refine r_icmp_lt (t := 95) gX12_half_53.2.2.2.2.2.2.2.2.2.2.2.2.1 rfl (fun h7 => ?_) (fun h7 => ?_)
    · exact r_sub (L' := [(0, .ref 60), (1, .int l1), (2, .int l2), (3, .int l3)]) (sub_c rfl (sub_c rfl (sub_c rfl (sub_c rfl sub_n)))) (rb_X12_half_95 hE hrec_14 q l1 l2 l3)
    · refine r_iload_n (x := l2) gX12_half_53.2.2.2.2.2.2.2.2.2.2.2.2.2.1 rfl ?_
      refine r_if_lt (t := 93) gX12_half_53.2.2.2.2.2.2.2.2.2.2.2.2.2.2.1 rfl (fun h6 => ?_) (fun h6 => ?_)
      · exact r_sub (L' := [(0, .ref 60), (1, .int l1), (3, .int l3)]) (sub_c rfl (sub_c rfl (sub_c rfl sub_n))) (rb_X12_half_93 hE hrec_14 q l1 l3)
      · refine r_iload_n (x := l3) gX12_half_53.2.2.2.2.2.2.2.2.2.2.2.2.2.2.2.1 rfl ?_
        refine r_calli (k := 2) (idx := 310) (y := 190) (as := [.int l3]) (rest := []) (L0 := [(0, .int l3)]) gX12_half_83.1 rfl rfl rfl rfl rfl vok_s rfl (r_dep (by decide) (e_X12_bitsOf hE q l3)) (fun r3 => ?_)
        refine r_iload_n (x := l2) gX12_half_83.2.1 rfl ?_
        refine r_calli (k := 2) (idx := 310) (y := 190) (as := [.int l2]) (rest := [.int r3]) (L0 := [(0, .int l2)]) gX12_half_83.2.2.1 rfl rfl rfl rfl rfl vok_s rfl (r_dep (by decide) (e_X12_bitsOf hE q l2)) (fun r4 => ?_)
        refine r_icmp_ge (t := 95) gX12_half_83.2.2.2.1 rfl (fun h5 => ?_) (fun h5 => ?_)
        · exact r_sub (L' := [(0, .ref 60), (1, .int l1), (2, .int l2), (3, .int l3)]) (sub_c rfl (sub_c rfl (sub_c rfl (sub_c rfl sub_n)))) (rb_X12_half_95 hE hrec_14 q l1 l2 l3)
        · exact r_sub (L' := [(0, .ref 60), (1, .int l1), (3, .int l3)]) (sub_c rfl (sub_c rfl (sub_c rfl sub_n))) (rb_X12_half_93 hE hrec_14 q l1 l3)
  · refine r_iload_n (x := l3) gX12_half_25.2.2.2.2.2.2.2.2.2.1 rfl ?_
    refine r_iload (x := l5) gX12_half_25.2.2.2.2.2.2.2.2.2.2.1 rfl ?_
    refine r_ishr gX12_half_25.2.2.2.2.2.2.2.2.2.2.2.1 ?_
    refine r_iconst (v := (1 : Int32)) gX12_half_25.2.2.2.2.2.2.2.2.2.2.2.2.1 rfl ?_
    refine r_iand gX12_half_25.2.2.2.2.2.2.2.2.2.2.2.2.2.1 ?_
    refine r_iconst (v := (1 : Int32)) gX12_half_25.2.2.2.2.2.2.2.2.2.2.2.2.2.2.1 rfl ?_
    refine r_icmp_ne (t := 64) gX12_half_25.2.2.2.2.2.2.2.2.2.2.2.2.2.2.2.1 rfl (fun h10 => ?_) (fun h10 => ?_)
    · refine r_iload (x := l4) gX12_half_53.1 rfl ?_
      refine r_aload_n (x := 60) gX12_half_53.2.1 rfl ?_
      refine r_iload (x := l5) gX12_half_53.2.2.1 rfl ?_
      refine r_calli (k := 0) (idx := 175) (y := 228) (as := [.ref 60, .int l5]) (rest := [.int l4]) (L0 := [(0, .ref 60), (1, .int l5)]) gX12_half_53.2.2.2.1 rfl rfl rfl rfl rfl (vok_v (ob_60 hE) rfl) rfl (r_dep (by decide) (e_X12_realOf hE q l5)) (fun r8 => ?_)
      refine r_iadd gX12_half_53.2.2.2.2.1 ?_
      refine r_nmI fun v9 _ => ?_
      refine r_istore (L2 := [(0, .ref 60), (1, .int l1), (2, .int l2), (3, .int l3), (4, .int v9), (5, .int l5)]) gX12_half_53.2.2.2.2.2.1 rfl rfl ?_
      exact r_sub (L' := [(0, .ref 60), (1, .int l1), (2, .int l2), (3, .int l3), (4, .int v9), (5, .int l5)]) (sub_c rfl (sub_c rfl (sub_c rfl (sub_c rfl (sub_c rfl (sub_c rfl sub_n)))))) (rb_X12_half_64 hE hrec_14 hrec_34 q l1 l2 l3 v9 l5)
    · exact r_sub (L' := [(0, .ref 60), (1, .int l1), (2, .int l2), (3, .int l3), (4, .int l4), (5, .int l5)]) (sub_c rfl (sub_c rfl (sub_c rfl (sub_c rfl (sub_c rfl (sub_c rfl sub_n)))))) (rb_X12_half_64 hE hrec_14 hrec_34 q l1 l2 l3 l4 l5)
def b_X12_half_14 : SS → Int32 → Int32 → Int32 → Option (Int32 × SS) :=
  fx4 (fun (rec_14 : SS → Int32 → Int32 → Int32 → Option (Int32 × SS)) (q : SS) (l1 : Int32) (l2 : Int32) (l3 : Int32) =>
  if (jshl (1 : Int32) (q.1 60 1)) ≤ l3 then
  (some (l2, q))
  else
  (if l1 ≤ 0 then
  (some (l2, q))
  else
  (b_X12_half_34 rec_14 q l1 l2 l3 (0 : Int32) (0 : Int32)))) FU
theorem rb_X12_half_14 {E : EE} (hE : GE E) (q : SS) (l1 : Int32) (l2 : Int32) (l3 : Int32) : R E (κI E) 1 257 14 [(0, .ref 60), (1, .int l1), (2, .int l2), (3, .int l3)] [] q (b_X12_half_14 q l1 l2 l3) := by
  unfold b_X12_half_14
  refine fx4_ok (P := fun q l1 l2 l3 o => R E (κI E) 1 257 14 [(0, .ref 60), (1, .int l1), (2, .int l2), (3, .int l3)] [] q o) (fun _ _ _ _ => r_no) (fun rec_14 hrec_14 q l1 l2 l3 => ?_) _ _ _ _ _
  refine r_iload_n (x := l3) gX12_half_0.2.2.2.2.2.2.2.2.2.1 rfl ?_
  refine r_iconst (v := (1 : Int32)) gX12_half_0.2.2.2.2.2.2.2.2.2.2.1 rfl ?_
  refine r_aload_n (x := 60) gX12_half_0.2.2.2.2.2.2.2.2.2.2.2.1 rfl ?_
  refine r_getI gX12_half_0.2.2.2.2.2.2.2.2.2.2.2.2.1 (ff_12_115_60 hE) (by decide) ?_
  refine r_ishl gX12_half_0.2.2.2.2.2.2.2.2.2.2.2.2.2.1 ?_
  refine r_icmp_ge (t := 101) gX12_half_0.2.2.2.2.2.2.2.2.2.2.2.2.2.2.1 rfl (fun h13 => ?_) (fun h13 => ?_)
  · refine r_iload_n (x := l2) gX12_half_83.2.2.2.2.2.2.2.2.1 rfl ?_
    exact r_ireturn gX12_half_83.2.2.2.2.2.2.2.2.2.1 rfl rfl
  · refine r_iload_n (x := l1) gX12_half_0.2.2.2.2.2.2.2.2.2.2.2.2.2.2.2.1 rfl ?_
    refine r_if_le (t := 101) gX12_half_25.1 rfl (fun h12 => ?_) (fun h12 => ?_)
    · refine r_iload_n (x := l2) gX12_half_83.2.2.2.2.2.2.2.2.1 rfl ?_
      exact r_ireturn gX12_half_83.2.2.2.2.2.2.2.2.2.1 rfl rfl
    · refine r_iconst (v := (0 : Int32)) gX12_half_25.2.1 rfl ?_
      refine r_istore (L2 := [(0, .ref 60), (1, .int l1), (2, .int l2), (3, .int l3), (4, .int (0 : Int32))]) gX12_half_25.2.2.1 rfl rfl ?_
      refine r_iconst (v := (0 : Int32)) gX12_half_25.2.2.2.1 rfl ?_
      refine r_istore (L2 := [(0, .ref 60), (1, .int l1), (2, .int l2), (3, .int l3), (4, .int (0 : Int32)), (5, .int (0 : Int32))]) gX12_half_25.2.2.2.2.1 rfl rfl ?_
      exact r_sub (L' := [(0, .ref 60), (1, .int l1), (2, .int l2), (3, .int l3), (4, .int (0 : Int32)), (5, .int (0 : Int32))]) (sub_c rfl (sub_c rfl (sub_c rfl (sub_c rfl (sub_c rfl (sub_c rfl sub_n)))))) (rb_X12_half_34 hE hrec_14 q l1 l2 l3 (0 : Int32) (0 : Int32))
def f_X12_half (q : SS)  : Option (Int32 × SS) :=
  (f_X12_layNow q).bind fun r1 =>
  (f_X12_allReal r1).bind fun r2 =>
  b_X12_half_14 r1 r2 (-2 : Int32) (0 : Int32)
theorem e_X12_half {E : EE} (hE : GE E) (q : SS)  : R E (κI E) 1 257 0 [(0, .ref 60)] [] q (f_X12_half q) := by
  unfold f_X12_half
  refine r_aload_n (x := 60) gX12_half_0.1 rfl ?_
  refine r_callV (k := 0) (idx := 168) (y := 226) (as := [.ref 60]) (rest := []) (L0 := [(0, .ref 60)]) gX12_half_0.2.1 rfl rfl rfl rfl rfl (vok_v (ob_60 hE) rfl) rfl (r_dep (by decide) (e_X12_layNow hE q)) (fun r1 => ?_)
  refine r_aload_n (x := 60) gX12_half_0.2.2.1 rfl ?_
  refine r_calli (k := 0) (idx := 292) (y := 229) (as := [.ref 60]) (rest := []) (L0 := [(0, .ref 60)]) gX12_half_0.2.2.2.1 rfl rfl rfl rfl rfl (vok_v (ob_60 hE) rfl) rfl (r_dep (by decide) (e_X12_allReal hE r1)) (fun r2 => ?_)
  refine r_istore_n (L2 := [(0, .ref 60), (1, .int r2)]) gX12_half_0.2.2.2.2.1 rfl rfl ?_
  refine r_bipush (v := (-2 : Int32)) gX12_half_0.2.2.2.2.2.1 rfl ?_
  refine r_istore_n (L2 := [(0, .ref 60), (1, .int r2), (2, .int (-2 : Int32))]) gX12_half_0.2.2.2.2.2.2.1 rfl rfl ?_
  refine r_iconst (v := (0 : Int32)) gX12_half_0.2.2.2.2.2.2.2.1 rfl ?_
  refine r_istore_n (L2 := [(0, .ref 60), (1, .int r2), (2, .int (-2 : Int32)), (3, .int (0 : Int32))]) gX12_half_0.2.2.2.2.2.2.2.2.1 rfl rfl ?_
  exact r_sub (L' := [(0, .ref 60), (1, .int r2), (2, .int (-2 : Int32)), (3, .int (0 : Int32))]) (sub_c rfl (sub_c rfl (sub_c rfl (sub_c rfl sub_n)))) (rb_X12_half_14 hE r1 r2 (-2 : Int32) (0 : Int32))
def f_X11_share (q : SS) (a1 : Int32) (a2 : Int32) : Option (Int32 × SS) :=
  (f_X10_isPerson q a1).bind fun r1 =>
  if r1 = 0 then
  (some ((-1 : Int32), q))
  else
  (if a2 < 0 then
  (some ((-1 : Int32), q))
  else
  (if a2 ≤ (9999 : Int32) then
  ((f_X11_now q).bind fun r2 =>
  (f_X8_reals r2).bind fun r3 =>
  if r3 = 0 then
  (some ((0 : Int32), r2))
  else
  ((f_X8_realsOf r2 a1).bind fun r4 =>
  if r3 = 0 then none else
  some (((a2 * r4) / r3), r2)))
  else
  (some ((-1 : Int32), q))))
theorem e_X11_share {E : EE} (hE : GE E) (q : SS) (a1 : Int32) (a2 : Int32) : R E (κI E) 4 164 0 [(0, .ref 0), (1, .int a1), (2, .int a2)] [] q (f_X11_share q a1 a2) := by
  unfold f_X11_share
  refine r_aload_n (x := 0) gX11_share_0.1 rfl ?_
  refine r_getA gX11_share_0.2.1 (fa_11_10_0 hE) ?_
  refine r_iload_n (x := a1) gX11_share_0.2.2.1 rfl ?_
  refine r_calli (k := 0) (idx := 140) (y := 128) (as := [.ref 1, .int a1]) (rest := []) (L0 := [(0, .ref 1), (1, .int a1)]) gX11_share_0.2.2.2.1 rfl rfl rfl rfl rfl (vok_v (ob_1 hE) rfl) rfl (r_dep (by decide) (e_X10_isPerson hE q a1)) (fun r1 => ?_)
  refine r_if_eq (t := 22) gX11_share_0.2.2.2.2.1 rfl (fun h8 => ?_) (fun h8 => ?_)
  · refine r_iconst (v := (-1 : Int32)) gX11_share_0.2.2.2.2.2.2.2.2.2.2.1 rfl ?_
    exact r_ireturn gX11_share_0.2.2.2.2.2.2.2.2.2.2.2.1 rfl rfl
  · refine r_iload_n (x := a2) gX11_share_0.2.2.2.2.2.1 rfl ?_
    refine r_if_lt (t := 22) gX11_share_0.2.2.2.2.2.2.1 rfl (fun h7 => ?_) (fun h7 => ?_)
    · refine r_iconst (v := (-1 : Int32)) gX11_share_0.2.2.2.2.2.2.2.2.2.2.1 rfl ?_
      exact r_ireturn gX11_share_0.2.2.2.2.2.2.2.2.2.2.2.1 rfl rfl
    · refine r_iload_n (x := a2) gX11_share_0.2.2.2.2.2.2.2.1 rfl ?_
      refine r_sipush (v := (9999 : Int32)) gX11_share_0.2.2.2.2.2.2.2.2.1 rfl ?_
      refine r_icmp_le (t := 24) gX11_share_0.2.2.2.2.2.2.2.2.2.1 rfl (fun h6 => ?_) (fun h6 => ?_)
      · refine r_aload_n (x := 0) gX11_share_0.2.2.2.2.2.2.2.2.2.2.2.2.1 rfl ?_
        refine r_callA (k := 0) (idx := 143) (y := 148) (as := [.ref 0]) (rest := []) (L0 := [(0, .ref 0)]) gX11_share_0.2.2.2.2.2.2.2.2.2.2.2.2.2.1 rfl rfl rfl rfl rfl (vok_v (ob_0 hE) rfl) rfl (r_dep (by decide) (e_X11_now hE q)) (fun r2 => ?_)
        refine r_astore_n (L2 := [(0, .ref 0), (1, .int a1), (2, .int a2), (3, .ref 24)]) gX11_share_0.2.2.2.2.2.2.2.2.2.2.2.2.2.2.1 rfl rfl ?_
        refine r_aload_n (x := 24) gX11_share_0.2.2.2.2.2.2.2.2.2.2.2.2.2.2.2.1 rfl ?_
        refine r_calli (k := 0) (idx := 223) (y := 102) (as := [.ref 24]) (rest := []) (L0 := [(0, .ref 24)]) gX11_share_30.1 rfl rfl rfl rfl rfl (vok_v (ob_24 hE) rfl) rfl (r_dep (by decide) (e_X8_reals hE r2)) (fun r3 => ?_)
        refine r_istore (L2 := [(0, .ref 0), (1, .int a1), (2, .int a2), (3, .ref 24), (4, .int r3)]) gX11_share_30.2.1 rfl rfl ?_
        refine r_iload (x := r3) gX11_share_30.2.2.1 rfl ?_
        refine r_if_ne (t := 44) gX11_share_30.2.2.2.1 rfl (fun h5 => ?_) (fun h5 => ?_)
        · refine r_iconst (v := (0 : Int32)) gX11_share_30.2.2.2.2.1 rfl ?_
          refine r_goto (t := 54) gX11_share_30.2.2.2.2.2.1 rfl ?_
          exact r_ireturn gX11_share_30.2.2.2.2.2.2.2.2.2.2.2.2.2.1 rfl rfl
        · refine r_iload_n (x := a2) gX11_share_30.2.2.2.2.2.2.1 rfl ?_
          refine r_aload_n (x := 24) gX11_share_30.2.2.2.2.2.2.2.1 rfl ?_
          refine r_iload_n (x := a1) gX11_share_30.2.2.2.2.2.2.2.2.1 rfl ?_
          refine r_calli (k := 0) (idx := 150) (y := 101) (as := [.ref 24, .int a1]) (rest := [.int a2]) (L0 := [(0, .ref 24), (1, .int a1)]) gX11_share_30.2.2.2.2.2.2.2.2.2.1 rfl rfl rfl rfl rfl (vok_v (ob_24 hE) rfl) rfl (r_dep (by decide) (e_X8_realsOf hE r2 a1)) (fun r4 => ?_)
          refine r_imul gX11_share_30.2.2.2.2.2.2.2.2.2.2.1 ?_
          refine r_iload (x := r3) gX11_share_30.2.2.2.2.2.2.2.2.2.2.2.1 rfl ?_
          refine r_idiv gX11_share_30.2.2.2.2.2.2.2.2.2.2.2.2.1 ?_
          exact r_ireturn gX11_share_30.2.2.2.2.2.2.2.2.2.2.2.2.2.1 rfl rfl
      · refine r_iconst (v := (-1 : Int32)) gX11_share_0.2.2.2.2.2.2.2.2.2.2.1 rfl ?_
        exact r_ireturn gX11_share_0.2.2.2.2.2.2.2.2.2.2.2.1 rfl rfl
def f_X12_share (q : SS) (a1 : Int32) (a2 : Int32) : Option (Int32 × SS) :=
  (f_X12_isOne q a1).bind fun r1 =>
  if r1 = 0 then
  (some ((-1 : Int32), q))
  else
  ((f_X12_in q a2 (0 : Int32) (9999 : Int32)).bind fun r2 =>
  if r2 = 0 then
  (some ((-1 : Int32), q))
  else
  ((f_X12_layNow q).bind fun r3 =>
  (f_X12_allReal r3).bind fun r4 =>
  if r4 = 0 then
  (some ((0 : Int32), r3))
  else
  ((f_X12_realOf r3 a1).bind fun r5 =>
  (f_X12_allReal r3).bind fun r6 =>
  if r6 = 0 then none else
  some (((a2 * r5) / r6), r3))))
theorem e_X12_share {E : EE} (hE : GE E) (q : SS) (a1 : Int32) (a2 : Int32) : R E (κI E) 2 256 0 [(0, .ref 60), (1, .int a1), (2, .int a2)] [] q (f_X12_share q a1 a2) := by
  unfold f_X12_share
  refine r_aload_n (x := 60) gX12_share_0.1 rfl ?_
  refine r_iload_n (x := a1) gX12_share_0.2.1 rfl ?_
  refine r_calli (k := 0) (idx := 125) (y := 191) (as := [.ref 60, .int a1]) (rest := []) (L0 := [(0, .ref 60), (1, .int a1)]) gX12_share_0.2.2.1 rfl rfl rfl rfl rfl (vok_v (ob_60 hE) rfl) rfl (r_dep (by decide) (e_X12_isOne hE q a1)) (fun r1 => ?_)
  refine r_if_eq (t := 19) gX12_share_0.2.2.2.1 rfl (fun h9 => ?_) (fun h9 => ?_)
  · refine r_iconst (v := (-1 : Int32)) gX12_share_0.2.2.2.2.2.2.2.2.2.1 rfl ?_
    exact r_ireturn gX12_share_0.2.2.2.2.2.2.2.2.2.2.1 rfl rfl
  · refine r_iload_n (x := a2) gX12_share_0.2.2.2.2.1 rfl ?_
    refine r_iconst (v := (0 : Int32)) gX12_share_0.2.2.2.2.2.1 rfl ?_
    refine r_sipush (v := (9999 : Int32)) gX12_share_0.2.2.2.2.2.2.1 rfl ?_
    refine r_calli (k := 2) (idx := 118) (y := 189) (as := [.int a2, .int (0 : Int32), .int (9999 : Int32)]) (rest := []) (L0 := [(0, .int a2), (1, .int (0 : Int32)), (2, .int (9999 : Int32))]) gX12_share_0.2.2.2.2.2.2.2.1 rfl rfl rfl rfl rfl vok_s rfl (r_dep (by decide) (e_X12_in hE q a2 (0 : Int32) (9999 : Int32))) (fun r2 => ?_)
    refine r_if_ne (t := 21) gX12_share_0.2.2.2.2.2.2.2.2.1 rfl (fun h8 => ?_) (fun h8 => ?_)
    · refine r_iconst (v := (-1 : Int32)) gX12_share_0.2.2.2.2.2.2.2.2.2.1 rfl ?_
      exact r_ireturn gX12_share_0.2.2.2.2.2.2.2.2.2.2.1 rfl rfl
    · refine r_aload_n (x := 60) gX12_share_0.2.2.2.2.2.2.2.2.2.2.2.1 rfl ?_
      refine r_callV (k := 0) (idx := 168) (y := 226) (as := [.ref 60]) (rest := []) (L0 := [(0, .ref 60)]) gX12_share_0.2.2.2.2.2.2.2.2.2.2.2.2.1 rfl rfl rfl rfl rfl (vok_v (ob_60 hE) rfl) rfl (r_dep (by decide) (e_X12_layNow hE q)) (fun r3 => ?_)
      refine r_aload_n (x := 60) gX12_share_0.2.2.2.2.2.2.2.2.2.2.2.2.2.1 rfl ?_
      refine r_calli (k := 0) (idx := 292) (y := 229) (as := [.ref 60]) (rest := []) (L0 := [(0, .ref 60)]) gX12_share_0.2.2.2.2.2.2.2.2.2.2.2.2.2.2.1 rfl rfl rfl rfl rfl (vok_v (ob_60 hE) rfl) rfl (r_dep (by decide) (e_X12_allReal hE r3)) (fun r4 => ?_)
      refine r_if_ne (t := 36) gX12_share_0.2.2.2.2.2.2.2.2.2.2.2.2.2.2.2.1 rfl (fun h7 => ?_) (fun h7 => ?_)
      · refine r_iconst (v := (0 : Int32)) gX12_share_32.1 rfl ?_
        refine r_goto (t := 48) gX12_share_32.2.1 rfl ?_
        exact r_ireturn gX12_share_32.2.2.2.2.2.2.2.2.2.2.1 rfl rfl
      · refine r_iload_n (x := a2) gX12_share_32.2.2.1 rfl ?_
        refine r_aload_n (x := 60) gX12_share_32.2.2.2.1 rfl ?_
        refine r_iload_n (x := a1) gX12_share_32.2.2.2.2.1 rfl ?_
        refine r_calli (k := 0) (idx := 175) (y := 228) (as := [.ref 60, .int a1]) (rest := [.int a2]) (L0 := [(0, .ref 60), (1, .int a1)]) gX12_share_32.2.2.2.2.2.1 rfl rfl rfl rfl rfl (vok_v (ob_60 hE) rfl) rfl (r_dep (by decide) (e_X12_realOf hE r3 a1)) (fun r5 => ?_)
        refine r_imul gX12_share_32.2.2.2.2.2.2.1 ?_
        refine r_aload_n (x := 60) gX12_share_32.2.2.2.2.2.2.2.1 rfl ?_
        refine r_calli (k := 0) (idx := 292) (y := 229) (as := [.ref 60]) (rest := [.int (a2 * r5)]) (L0 := [(0, .ref 60)]) gX12_share_32.2.2.2.2.2.2.2.2.1 rfl rfl rfl rfl rfl (vok_v (ob_60 hE) rfl) rfl (r_dep (by decide) (e_X12_allReal hE r3)) (fun r6 => ?_)
        refine r_idiv gX12_share_32.2.2.2.2.2.2.2.2.2.1 ?_
        exact r_ireturn gX12_share_32.2.2.2.2.2.2.2.2.2.2.1 rfl rfl
def b_X8_looseReals_40 (rec_4 : Int32 → Int32 → Option Int32) (q : SS) (l2 : Int32) (s0 : Int32) (s1 : Int32) : Option Int32 :=
  nm (s1 + s0) fun v3 =>
  rec_4 v3 (l2 + (1 : Int32))
theorem rb_X8_looseReals_40 {E : EE} (hE : GE E) {q : SS} {rec_4 : Int32 → Int32 → Option Int32} (hrec_4 : ∀ (yl1 : Int32) (yl2 : Int32), R E (κi E q) 3 105 4 [(0, .ref 24), (1, .int yl1), (2, .int yl2)] [] q (rec_4 yl1 yl2)) (l2 : Int32) (s0 : Int32) (s1 : Int32) : R E (κi E q) 3 105 40 [(0, .ref 24), (2, .int l2)] [.int s0, .int s1] q (b_X8_looseReals_40 rec_4 q l2 s0 s1) := by
  unfold b_X8_looseReals_40
  refine r_iadd gX8_looseReals_28.2.2.2.2.2.2.1 ?_
  refine r_nmI fun v3 _ => ?_
  refine r_istore_n (L2 := [(0, .ref 24), (1, .int v3), (2, .int l2)]) gX8_looseReals_28.2.2.2.2.2.2.2.1 rfl rfl ?_
  refine r_iinc (x := l2) (v := (l2 + (1 : Int32))) (L2 := [(0, .ref 24), (1, .int v3), (2, .int (l2 + (1 : Int32)))]) gX8_looseReals_28.2.2.2.2.2.2.2.2.1 rfl rfl rfl rfl ?_
  refine r_goto (t := 4) gX8_looseReals_28.2.2.2.2.2.2.2.2.2.1 rfl ?_
  exact r_sub (L' := [(0, .ref 24), (1, .int v3), (2, .int (l2 + (1 : Int32)))]) (sub_c rfl (sub_c rfl (sub_c rfl sub_n))) (hrec_4 v3 (l2 + (1 : Int32)))
def b_X8_looseReals_39 (rec_4 : Int32 → Int32 → Option Int32) (q : SS) (l2 : Int32) (s0 : Int32) : Option Int32 :=
  b_X8_looseReals_40 rec_4 q l2 (0 : Int32) s0
theorem rb_X8_looseReals_39 {E : EE} (hE : GE E) {q : SS} {rec_4 : Int32 → Int32 → Option Int32} (hrec_4 : ∀ (yl1 : Int32) (yl2 : Int32), R E (κi E q) 3 105 4 [(0, .ref 24), (1, .int yl1), (2, .int yl2)] [] q (rec_4 yl1 yl2)) (l2 : Int32) (s0 : Int32) : R E (κi E q) 3 105 39 [(0, .ref 24), (2, .int l2)] [.int s0] q (b_X8_looseReals_39 rec_4 q l2 s0) := by
  unfold b_X8_looseReals_39
  refine r_iconst (v := (0 : Int32)) gX8_looseReals_28.2.2.2.2.2.1 rfl ?_
  exact r_sub (L' := [(0, .ref 24), (2, .int l2)]) (sub_c rfl (sub_c rfl sub_n)) (rb_X8_looseReals_40 hE hrec_4 l2 (0 : Int32) s0)
def b_X8_looseReals_4 (q : SS) : Int32 → Int32 → Option Int32 :=
  fx2 (fun (rec_4 : Int32 → Int32 → Option Int32) (l1 : Int32) (l2 : Int32) =>
  (f_X10_tickets q).bind fun r1 =>
  if r1 ≤ l2 then
  (some l1)
  else
  ((f_X8_isLoose q l2).bind fun r2 =>
  if r2 = 0 then
  (b_X8_looseReals_39 rec_4 q l2 l1)
  else
  ((f_X10_isReal q l2).bind fun r4 =>
  if r4 = 0 then
  (b_X8_looseReals_39 rec_4 q l2 l1)
  else
  (b_X8_looseReals_40 rec_4 q l2 (1 : Int32) l1)))) FU
theorem rb_X8_looseReals_4 {E : EE} (hE : GE E) (q : SS) (l1 : Int32) (l2 : Int32) : R E (κi E q) 3 105 4 [(0, .ref 24), (1, .int l1), (2, .int l2)] [] q (b_X8_looseReals_4 q l1 l2) := by
  unfold b_X8_looseReals_4
  refine fx2_ok (P := fun l1 l2 o => R E (κi E q) 3 105 4 [(0, .ref 24), (1, .int l1), (2, .int l2)] [] q o) (fun _ _ => r_no) (fun rec_4 hrec_4 l1 l2 => ?_) _ _ _
  refine r_iload_n (x := l2) gX8_looseReals_0.2.2.2.2.1 rfl ?_
  refine r_aload_n (x := 24) gX8_looseReals_0.2.2.2.2.2.1 rfl ?_
  refine r_getA gX8_looseReals_0.2.2.2.2.2.2.1 (fa_8_9_24 hE) ?_
  refine r_calli (k := 0) (idx := 33) (y := 126) (as := [.ref 1]) (rest := [.int l2]) (L0 := [(0, .ref 1)]) gX8_looseReals_0.2.2.2.2.2.2.2.1 rfl rfl rfl rfl rfl (vok_v (ob_1 hE) rfl) rfl (r_dep (by decide) (e_X10_tickets hE q)) (fun r1 => ?_)
  refine r_icmp_ge (t := 48) gX8_looseReals_0.2.2.2.2.2.2.2.2.1 rfl (fun h7 => ?_) (fun h7 => ?_)
  · refine r_iload_n (x := l1) gX8_looseReals_28.2.2.2.2.2.2.2.2.2.2.1 rfl ?_
    exact r_ireturn gX8_looseReals_28.2.2.2.2.2.2.2.2.2.2.2.1 rfl rfl
  · refine r_iload_n (x := l1) gX8_looseReals_0.2.2.2.2.2.2.2.2.2.1 rfl ?_
    refine r_aload_n (x := 24) gX8_looseReals_0.2.2.2.2.2.2.2.2.2.2.1 rfl ?_
    refine r_iload_n (x := l2) gX8_looseReals_0.2.2.2.2.2.2.2.2.2.2.2.1 rfl ?_
    refine r_calli (k := 0) (idx := 44) (y := 106) (as := [.ref 24, .int l2]) (rest := [.int l1]) (L0 := [(0, .ref 24), (1, .int l2)]) gX8_looseReals_0.2.2.2.2.2.2.2.2.2.2.2.2.1 rfl rfl rfl rfl rfl (vok_v (ob_24 hE) rfl) rfl (r_dep (by decide) (e_X8_isLoose hE q l2)) (fun r2 => ?_)
    refine r_if_eq (t := 39) gX8_looseReals_0.2.2.2.2.2.2.2.2.2.2.2.2.2.1 rfl (fun h6 => ?_) (fun h6 => ?_)
    · exact r_sub (L' := [(0, .ref 24), (2, .int l2)]) (sub_c rfl (sub_c rfl sub_n)) (rb_X8_looseReals_39 hE hrec_4 l2 l1)
    · refine r_aload_n (x := 24) gX8_looseReals_0.2.2.2.2.2.2.2.2.2.2.2.2.2.2.1 rfl ?_
      refine r_getA gX8_looseReals_0.2.2.2.2.2.2.2.2.2.2.2.2.2.2.2.1 (fa_8_9_24 hE) ?_
      refine r_iload_n (x := l2) gX8_looseReals_28.1 rfl ?_
      refine r_calli (k := 0) (idx := 41) (y := 131) (as := [.ref 1, .int l2]) (rest := [.int l1]) (L0 := [(0, .ref 1), (1, .int l2)]) gX8_looseReals_28.2.1 rfl rfl rfl rfl rfl (vok_v (ob_1 hE) rfl) rfl (r_dep (by decide) (e_X10_isReal hE q l2)) (fun r4 => ?_)
      refine r_if_eq (t := 39) gX8_looseReals_28.2.2.1 rfl (fun h5 => ?_) (fun h5 => ?_)
      · exact r_sub (L' := [(0, .ref 24), (2, .int l2)]) (sub_c rfl (sub_c rfl sub_n)) (rb_X8_looseReals_39 hE hrec_4 l2 l1)
      · refine r_iconst (v := (1 : Int32)) gX8_looseReals_28.2.2.2.1 rfl ?_
        refine r_goto (t := 40) gX8_looseReals_28.2.2.2.2.1 rfl ?_
        exact r_sub (L' := [(0, .ref 24), (2, .int l2)]) (sub_c rfl (sub_c rfl sub_n)) (rb_X8_looseReals_40 hE hrec_4 l2 (1 : Int32) l1)
def f_X8_looseReals (q : SS)  : Option Int32 :=
  b_X8_looseReals_4 q (0 : Int32) (0 : Int32)
theorem e_X8_looseReals {E : EE} (hE : GE E) (q : SS)  : R E (κi E q) 3 105 0 [(0, .ref 24)] [] q (f_X8_looseReals q) := by
  unfold f_X8_looseReals
  refine r_iconst (v := (0 : Int32)) gX8_looseReals_0.1 rfl ?_
  refine r_istore_n (L2 := [(0, .ref 24), (1, .int (0 : Int32))]) gX8_looseReals_0.2.1 rfl rfl ?_
  refine r_iconst (v := (0 : Int32)) gX8_looseReals_0.2.2.1 rfl ?_
  refine r_istore_n (L2 := [(0, .ref 24), (1, .int (0 : Int32)), (2, .int (0 : Int32))]) gX8_looseReals_0.2.2.2.1 rfl rfl ?_
  exact r_sub (L' := [(0, .ref 24), (1, .int (0 : Int32)), (2, .int (0 : Int32))]) (sub_c rfl (sub_c rfl (sub_c rfl sub_n))) (rb_X8_looseReals_4 hE q (0 : Int32) (0 : Int32))
def b_X8_looseRealsOf_49 (rec_4 : Int32 → Int32 → Int32 → Option Int32) (q : SS) (l1 : Int32) (l3 : Int32) (s0 : Int32) (s1 : Int32) : Option Int32 :=
  nm (s1 + s0) fun v4 =>
  rec_4 l1 v4 (l3 + (1 : Int32))
theorem rb_X8_looseRealsOf_49 {E : EE} (hE : GE E) {q : SS} {rec_4 : Int32 → Int32 → Int32 → Option Int32} (hrec_4 : ∀ (yl1 : Int32) (yl2 : Int32) (yl3 : Int32), R E (κi E q) 3 104 4 [(0, .ref 24), (1, .int yl1), (2, .int yl2), (3, .int yl3)] [] q (rec_4 yl1 yl2 yl3)) (l1 : Int32) (l3 : Int32) (s0 : Int32) (s1 : Int32) : R E (κi E q) 3 104 49 [(0, .ref 24), (1, .int l1), (3, .int l3)] [.int s0, .int s1] q (b_X8_looseRealsOf_49 rec_4 q l1 l3 s0 s1) := by
  unfold b_X8_looseRealsOf_49
  refine r_iadd gX8_looseRealsOf_26.2.2.2.2.2.2.2.2.2.2.2.1 ?_
  refine r_nmI fun v4 _ => ?_
  refine r_istore_n (L2 := [(0, .ref 24), (1, .int l1), (2, .int v4), (3, .int l3)]) gX8_looseRealsOf_26.2.2.2.2.2.2.2.2.2.2.2.2.1 rfl rfl ?_
  refine r_iinc (x := l3) (v := (l3 + (1 : Int32))) (L2 := [(0, .ref 24), (1, .int l1), (2, .int v4), (3, .int (l3 + (1 : Int32)))]) gX8_looseRealsOf_26.2.2.2.2.2.2.2.2.2.2.2.2.2.1 rfl rfl rfl rfl ?_
  refine r_goto (t := 4) gX8_looseRealsOf_26.2.2.2.2.2.2.2.2.2.2.2.2.2.2.1 rfl ?_
  exact r_sub (L' := [(0, .ref 24), (1, .int l1), (2, .int v4), (3, .int (l3 + (1 : Int32)))]) (sub_c rfl (sub_c rfl (sub_c rfl (sub_c rfl sub_n)))) (hrec_4 l1 v4 (l3 + (1 : Int32)))
def b_X8_looseRealsOf_48 (rec_4 : Int32 → Int32 → Int32 → Option Int32) (q : SS) (l1 : Int32) (l3 : Int32) (s0 : Int32) : Option Int32 :=
  b_X8_looseRealsOf_49 rec_4 q l1 l3 (0 : Int32) s0
theorem rb_X8_looseRealsOf_48 {E : EE} (hE : GE E) {q : SS} {rec_4 : Int32 → Int32 → Int32 → Option Int32} (hrec_4 : ∀ (yl1 : Int32) (yl2 : Int32) (yl3 : Int32), R E (κi E q) 3 104 4 [(0, .ref 24), (1, .int yl1), (2, .int yl2), (3, .int yl3)] [] q (rec_4 yl1 yl2 yl3)) (l1 : Int32) (l3 : Int32) (s0 : Int32) : R E (κi E q) 3 104 48 [(0, .ref 24), (1, .int l1), (3, .int l3)] [.int s0] q (b_X8_looseRealsOf_48 rec_4 q l1 l3 s0) := by
  unfold b_X8_looseRealsOf_48
  refine r_iconst (v := (0 : Int32)) gX8_looseRealsOf_26.2.2.2.2.2.2.2.2.2.2.1 rfl ?_
  exact r_sub (L' := [(0, .ref 24), (1, .int l1), (3, .int l3)]) (sub_c rfl (sub_c rfl (sub_c rfl sub_n))) (rb_X8_looseRealsOf_49 hE hrec_4 l1 l3 (0 : Int32) s0)
def b_X8_looseRealsOf_4 (q : SS) : Int32 → Int32 → Int32 → Option Int32 :=
  fx3 (fun (rec_4 : Int32 → Int32 → Int32 → Option Int32) (l1 : Int32) (l2 : Int32) (l3 : Int32) =>
  (f_X10_tickets q).bind fun r1 =>
  if r1 ≤ l3 then
  (some l2)
  else
  ((f_X8_holderOf q l3).bind fun r2 =>
  if r2 = l1 then
  ((f_X8_isLoose q l3).bind fun r3 =>
  if r3 = 0 then
  (b_X8_looseRealsOf_48 rec_4 q l1 l3 l2)
  else
  ((f_X10_isReal q l3).bind fun r5 =>
  if r5 = 0 then
  (b_X8_looseRealsOf_48 rec_4 q l1 l3 l2)
  else
  (b_X8_looseRealsOf_49 rec_4 q l1 l3 (1 : Int32) l2)))
  else
  (b_X8_looseRealsOf_48 rec_4 q l1 l3 l2))) FU
theorem rb_X8_looseRealsOf_4 {E : EE} (hE : GE E) (q : SS) (l1 : Int32) (l2 : Int32) (l3 : Int32) : R E (κi E q) 3 104 4 [(0, .ref 24), (1, .int l1), (2, .int l2), (3, .int l3)] [] q (b_X8_looseRealsOf_4 q l1 l2 l3) := by
  unfold b_X8_looseRealsOf_4
  refine fx3_ok (P := fun l1 l2 l3 o => R E (κi E q) 3 104 4 [(0, .ref 24), (1, .int l1), (2, .int l2), (3, .int l3)] [] q o) (fun _ _ _ => r_no) (fun rec_4 hrec_4 l1 l2 l3 => ?_) _ _ _ _
  refine r_iload_n (x := l3) gX8_looseRealsOf_0.2.2.2.2.1 rfl ?_
  refine r_aload_n (x := 24) gX8_looseRealsOf_0.2.2.2.2.2.1 rfl ?_
  refine r_getA gX8_looseRealsOf_0.2.2.2.2.2.2.1 (fa_8_9_24 hE) ?_
  refine r_calli (k := 0) (idx := 33) (y := 126) (as := [.ref 1]) (rest := [.int l3]) (L0 := [(0, .ref 1)]) gX8_looseRealsOf_0.2.2.2.2.2.2.2.1 rfl rfl rfl rfl rfl (vok_v (ob_1 hE) rfl) rfl (r_dep (by decide) (e_X10_tickets hE q)) (fun r1 => ?_)
  refine r_icmp_ge (t := 57) gX8_looseRealsOf_0.2.2.2.2.2.2.2.2.1 rfl (fun h9 => ?_) (fun h9 => ?_)
  · refine r_iload_n (x := l2) gX8_looseRealsOf_26.2.2.2.2.2.2.2.2.2.2.2.2.2.2.2.1 rfl ?_
    exact r_ireturn gX8_looseRealsOf_58.1 rfl rfl
  · refine r_iload_n (x := l2) gX8_looseRealsOf_0.2.2.2.2.2.2.2.2.2.1 rfl ?_
    refine r_aload_n (x := 24) gX8_looseRealsOf_0.2.2.2.2.2.2.2.2.2.2.1 rfl ?_
    refine r_iload_n (x := l3) gX8_looseRealsOf_0.2.2.2.2.2.2.2.2.2.2.2.1 rfl ?_
    refine r_calli (k := 0) (idx := 37) (y := 98) (as := [.ref 24, .int l3]) (rest := [.int l2]) (L0 := [(0, .ref 24), (1, .int l3)]) gX8_looseRealsOf_0.2.2.2.2.2.2.2.2.2.2.2.2.1 rfl rfl rfl rfl rfl (vok_v (ob_24 hE) rfl) rfl (r_dep (by decide) (e_X8_holderOf hE q l3)) (fun r2 => ?_)
    refine r_iload_n (x := l1) gX8_looseRealsOf_0.2.2.2.2.2.2.2.2.2.2.2.2.2.1 rfl ?_
    refine r_icmp_ne (t := 48) gX8_looseRealsOf_0.2.2.2.2.2.2.2.2.2.2.2.2.2.2.1 rfl (fun h8 => ?_) (fun h8 => ?_)
    · refine r_aload_n (x := 24) gX8_looseRealsOf_0.2.2.2.2.2.2.2.2.2.2.2.2.2.2.2.1 rfl ?_
      refine r_iload_n (x := l3) gX8_looseRealsOf_26.1 rfl ?_
      refine r_calli (k := 0) (idx := 44) (y := 106) (as := [.ref 24, .int l3]) (rest := [.int l2]) (L0 := [(0, .ref 24), (1, .int l3)]) gX8_looseRealsOf_26.2.1 rfl rfl rfl rfl rfl (vok_v (ob_24 hE) rfl) rfl (r_dep (by decide) (e_X8_isLoose hE q l3)) (fun r3 => ?_)
      refine r_if_eq (t := 48) gX8_looseRealsOf_26.2.2.1 rfl (fun h7 => ?_) (fun h7 => ?_)
      · exact r_sub (L' := [(0, .ref 24), (1, .int l1), (3, .int l3)]) (sub_c rfl (sub_c rfl (sub_c rfl sub_n))) (rb_X8_looseRealsOf_48 hE hrec_4 l1 l3 l2)
      · refine r_aload_n (x := 24) gX8_looseRealsOf_26.2.2.2.1 rfl ?_
        refine r_getA gX8_looseRealsOf_26.2.2.2.2.1 (fa_8_9_24 hE) ?_
        refine r_iload_n (x := l3) gX8_looseRealsOf_26.2.2.2.2.2.1 rfl ?_
        refine r_calli (k := 0) (idx := 41) (y := 131) (as := [.ref 1, .int l3]) (rest := [.int l2]) (L0 := [(0, .ref 1), (1, .int l3)]) gX8_looseRealsOf_26.2.2.2.2.2.2.1 rfl rfl rfl rfl rfl (vok_v (ob_1 hE) rfl) rfl (r_dep (by decide) (e_X10_isReal hE q l3)) (fun r5 => ?_)
        refine r_if_eq (t := 48) gX8_looseRealsOf_26.2.2.2.2.2.2.2.1 rfl (fun h6 => ?_) (fun h6 => ?_)
        · exact r_sub (L' := [(0, .ref 24), (1, .int l1), (3, .int l3)]) (sub_c rfl (sub_c rfl (sub_c rfl sub_n))) (rb_X8_looseRealsOf_48 hE hrec_4 l1 l3 l2)
        · refine r_iconst (v := (1 : Int32)) gX8_looseRealsOf_26.2.2.2.2.2.2.2.2.1 rfl ?_
          refine r_goto (t := 49) gX8_looseRealsOf_26.2.2.2.2.2.2.2.2.2.1 rfl ?_
          exact r_sub (L' := [(0, .ref 24), (1, .int l1), (3, .int l3)]) (sub_c rfl (sub_c rfl (sub_c rfl sub_n))) (rb_X8_looseRealsOf_49 hE hrec_4 l1 l3 (1 : Int32) l2)
    · exact r_sub (L' := [(0, .ref 24), (1, .int l1), (3, .int l3)]) (sub_c rfl (sub_c rfl (sub_c rfl sub_n))) (rb_X8_looseRealsOf_48 hE hrec_4 l1 l3 l2)
def f_X8_looseRealsOf (q : SS) (a1 : Int32) : Option Int32 :=
  b_X8_looseRealsOf_4 q a1 (0 : Int32) (0 : Int32)
theorem e_X8_looseRealsOf {E : EE} (hE : GE E) (q : SS) (a1 : Int32) : R E (κi E q) 3 104 0 [(0, .ref 24), (1, .int a1)] [] q (f_X8_looseRealsOf q a1) := by
  unfold f_X8_looseRealsOf
  refine r_iconst (v := (0 : Int32)) gX8_looseRealsOf_0.1 rfl ?_
  refine r_istore_n (L2 := [(0, .ref 24), (1, .int a1), (2, .int (0 : Int32))]) gX8_looseRealsOf_0.2.1 rfl rfl ?_
  refine r_iconst (v := (0 : Int32)) gX8_looseRealsOf_0.2.2.1 rfl ?_
  refine r_istore_n (L2 := [(0, .ref 24), (1, .int a1), (2, .int (0 : Int32)), (3, .int (0 : Int32))]) gX8_looseRealsOf_0.2.2.2.1 rfl rfl ?_
  exact r_sub (L' := [(0, .ref 24), (1, .int a1), (2, .int (0 : Int32)), (3, .int (0 : Int32))]) (sub_c rfl (sub_c rfl (sub_c rfl (sub_c rfl sub_n)))) (rb_X8_looseRealsOf_4 hE q a1 (0 : Int32) (0 : Int32))
def b_X11_friend_89 : SS → Int32 → Int32 → Int32 → Int32 → Int32 → Option (Int32 × SS) :=
  fx6 (fun (rec_89 : SS → Int32 → Int32 → Int32 → Int32 → Int32 → Option (Int32 × SS)) (q : SS) (l2 : Int32) (l4 : Int32) (l5 : Int32) (l6 : Int32) (l7 : Int32) =>
  if l6 < l7 then
  (some ((-2 : Int32), q))
  else
  (if ((12 : Int32) * (l5 + l7)) < (l2 * l4) then
  (rec_89 q l2 l4 l5 l6 (l7 + (1 : Int32)))
  else
  (some (l7, q)))) FU
theorem rb_X11_friend_89 {E : EE} (hE : GE E) (q : SS) (l2 : Int32) (l4 : Int32) (l5 : Int32) (l6 : Int32) (l7 : Int32) : R E (κI E) 4 163 89 [(2, .int l2), (4, .int l4), (5, .int l5), (6, .int l6), (7, .int l7)] [] q (b_X11_friend_89 q l2 l4 l5 l6 l7) := by
  unfold b_X11_friend_89
  refine fx6_ok (P := fun q l2 l4 l5 l6 l7 o => R E (κI E) 4 163 89 [(2, .int l2), (4, .int l4), (5, .int l5), (6, .int l6), (7, .int l7)] [] q o) (fun _ _ _ _ _ _ => r_no) (fun rec_89 hrec_89 q l2 l4 l5 l6 l7 => ?_) _ _ _ _ _ _ _
  refine r_iload (x := l7) gX11_friend_89.1 rfl ?_
  refine r_iload (x := l6) gX11_friend_89.2.1 rfl ?_
  refine r_icmp_gt (t := 120) gX11_friend_89.2.2.1 rfl (fun h8 => ?_) (fun h8 => ?_)
  · refine r_bipush (v := (-2 : Int32)) gX11_friend_120.1 rfl ?_
    exact r_ireturn gX11_friend_120.2.1 rfl rfl
  · refine r_bipush (v := (12 : Int32)) gX11_friend_89.2.2.2.1 rfl ?_
    refine r_iload (x := l5) gX11_friend_89.2.2.2.2.1 rfl ?_
    refine r_iload (x := l7) gX11_friend_89.2.2.2.2.2.1 rfl ?_
    refine r_iadd gX11_friend_89.2.2.2.2.2.2.1 ?_
    refine r_imul gX11_friend_89.2.2.2.2.2.2.2.1 ?_
    refine r_iload_n (x := l2) gX11_friend_89.2.2.2.2.2.2.2.2.1 rfl ?_
    refine r_iload (x := l4) gX11_friend_89.2.2.2.2.2.2.2.2.2.1 rfl ?_
    refine r_imul gX11_friend_89.2.2.2.2.2.2.2.2.2.2.1 ?_
    refine r_icmp_lt (t := 114) gX11_friend_89.2.2.2.2.2.2.2.2.2.2.2.1 rfl (fun h7 => ?_) (fun h7 => ?_)
    · refine r_iinc (x := l7) (v := (l7 + (1 : Int32))) (L2 := [(2, .int l2), (4, .int l4), (5, .int l5), (6, .int l6), (7, .int (l7 + (1 : Int32)))]) gX11_friend_89.2.2.2.2.2.2.2.2.2.2.2.2.2.2.1 rfl rfl rfl rfl ?_
      refine r_goto (t := 89) gX11_friend_89.2.2.2.2.2.2.2.2.2.2.2.2.2.2.2.1 rfl ?_
      exact r_sub (L' := [(2, .int l2), (4, .int l4), (5, .int l5), (6, .int l6), (7, .int (l7 + (1 : Int32)))]) (sub_c rfl (sub_c rfl (sub_c rfl (sub_c rfl (sub_c rfl sub_n))))) (hrec_89 q l2 l4 l5 l6 (l7 + (1 : Int32)))
    · refine r_iload (x := l7) gX11_friend_89.2.2.2.2.2.2.2.2.2.2.2.2.1 rfl ?_
      exact r_ireturn gX11_friend_89.2.2.2.2.2.2.2.2.2.2.2.2.2.1 rfl rfl
def b_X11_friend_84 (q : SS) (l2 : Int32) (l4 : Int32) (l5 : Int32) (s0 : Int32) : Option (Int32 × SS) :=
  b_X11_friend_89 q l2 l4 l5 s0 (0 : Int32)
theorem rb_X11_friend_84 {E : EE} (hE : GE E) (q : SS) (l2 : Int32) (l4 : Int32) (l5 : Int32) (s0 : Int32) : R E (κI E) 4 163 84 [(2, .int l2), (4, .int l4), (5, .int l5)] [.int s0] q (b_X11_friend_84 q l2 l4 l5 s0) := by
  unfold b_X11_friend_84
  refine r_istore (L2 := [(2, .int l2), (4, .int l4), (5, .int l5), (6, .int s0)]) gX11_friend_61.2.2.2.2.2.2.2.2.2.2.2.2.2.1 rfl rfl ?_
  refine r_iconst (v := (0 : Int32)) gX11_friend_61.2.2.2.2.2.2.2.2.2.2.2.2.2.2.1 rfl ?_
  refine r_istore (L2 := [(2, .int l2), (4, .int l4), (5, .int l5), (6, .int s0), (7, .int (0 : Int32))]) gX11_friend_61.2.2.2.2.2.2.2.2.2.2.2.2.2.2.2.1 rfl rfl ?_
  exact r_sub (L' := [(2, .int l2), (4, .int l4), (5, .int l5), (6, .int s0), (7, .int (0 : Int32))]) (sub_c rfl (sub_c rfl (sub_c rfl (sub_c rfl (sub_c rfl sub_n))))) (rb_X11_friend_89 hE q l2 l4 l5 s0 (0 : Int32))
def f_X11_friend (q : SS) (a1 : Int32) (a2 : Int32) : Option (Int32 × SS) :=
  (f_X10_isPerson q a1).bind fun r1 =>
  if r1 = 0 then
  (some ((-1 : Int32), q))
  else
  (if a2 < 0 then
  (some ((-1 : Int32), q))
  else
  (if a2 ≤ (12 : Int32) then
  ((f_X11_now q).bind fun r2 =>
  (f_X8_reals r2).bind fun r3 =>
  if r3 = 0 then
  (if a2 = 0 then
  (some ((0 : Int32), r2))
  else
  (some ((-2 : Int32), r2)))
  else
  ((f_X8_realsOf r2 a1).bind fun r5 =>
  (f_X10_get r2 (1 : Int32) a1).bind fun r6 =>
  if r6 = (1 : Int32) then
  (b_X11_friend_84 r2 a2 r3 r5 (0 : Int32))
  else
  ((f_X8_looseReals r2).bind fun r9 =>
  (f_X8_looseRealsOf r2 a1).bind fun r10 =>
  b_X11_friend_84 r2 a2 r3 r5 (r9 - r10))))
  else
  (some ((-1 : Int32), q))))
theorem e_X11_friend {E : EE} (hE : GE E) (q : SS) (a1 : Int32) (a2 : Int32) : R E (κI E) 4 163 0 [(0, .ref 0), (1, .int a1), (2, .int a2)] [] q (f_X11_friend q a1 a2) := by
  unfold f_X11_friend
  refine r_aload_n (x := 0) gX11_friend_0.1 rfl ?_
  refine r_getA gX11_friend_0.2.1 (fa_11_10_0 hE) ?_
  refine r_iload_n (x := a1) gX11_friend_0.2.2.1 rfl ?_
  refine r_calli (k := 0) (idx := 140) (y := 128) (as := [.ref 1, .int a1]) (rest := []) (L0 := [(0, .ref 1), (1, .int a1)]) gX11_friend_0.2.2.2.1 rfl rfl rfl rfl rfl (vok_v (ob_1 hE) rfl) rfl (r_dep (by decide) (e_X10_isPerson hE q a1)) (fun r1 => ?_)
  refine r_if_eq (t := 21) gX11_friend_0.2.2.2.2.1 rfl (fun h15 => ?_) (fun h15 => ?_)
  · refine r_iconst (v := (-1 : Int32)) gX11_friend_0.2.2.2.2.2.2.2.2.2.2.1 rfl ?_
    exact r_ireturn gX11_friend_0.2.2.2.2.2.2.2.2.2.2.2.1 rfl rfl
  · refine r_iload_n (x := a2) gX11_friend_0.2.2.2.2.2.1 rfl ?_
    refine r_if_lt (t := 21) gX11_friend_0.2.2.2.2.2.2.1 rfl (fun h14 => ?_) (fun h14 => ?_)
    · refine r_iconst (v := (-1 : Int32)) gX11_friend_0.2.2.2.2.2.2.2.2.2.2.1 rfl ?_
      exact r_ireturn gX11_friend_0.2.2.2.2.2.2.2.2.2.2.2.1 rfl rfl
    · refine r_iload_n (x := a2) gX11_friend_0.2.2.2.2.2.2.2.1 rfl ?_
      refine r_bipush (v := (12 : Int32)) gX11_friend_0.2.2.2.2.2.2.2.2.1 rfl ?_
      refine r_icmp_le (t := 23) gX11_friend_0.2.2.2.2.2.2.2.2.2.1 rfl (fun h13 => ?_) (fun h13 => ?_)
      · refine r_aload_n (x := 0) gX11_friend_0.2.2.2.2.2.2.2.2.2.2.2.2.1 rfl ?_
        refine r_callA (k := 0) (idx := 143) (y := 148) (as := [.ref 0]) (rest := []) (L0 := [(0, .ref 0)]) gX11_friend_0.2.2.2.2.2.2.2.2.2.2.2.2.2.1 rfl rfl rfl rfl rfl (vok_v (ob_0 hE) rfl) rfl (r_dep (by decide) (e_X11_now hE q)) (fun r2 => ?_)
        refine r_astore_n (L2 := [(0, .ref 0), (1, .int a1), (2, .int a2), (3, .ref 24)]) gX11_friend_0.2.2.2.2.2.2.2.2.2.2.2.2.2.2.1 rfl rfl ?_
        refine r_aload_n (x := 24) gX11_friend_0.2.2.2.2.2.2.2.2.2.2.2.2.2.2.2.1 rfl ?_
        refine r_calli (k := 0) (idx := 223) (y := 102) (as := [.ref 24]) (rest := []) (L0 := [(0, .ref 24)]) gX11_friend_29.1 rfl rfl rfl rfl rfl (vok_v (ob_24 hE) rfl) rfl (r_dep (by decide) (e_X8_reals hE r2)) (fun r3 => ?_)
        refine r_istore (L2 := [(0, .ref 0), (1, .int a1), (2, .int a2), (3, .ref 24), (4, .int r3)]) gX11_friend_29.2.1 rfl rfl ?_
        refine r_iload (x := r3) gX11_friend_29.2.2.1 rfl ?_
        refine r_if_ne (t := 50) gX11_friend_29.2.2.2.1 rfl (fun h12 => ?_) (fun h12 => ?_)
        · refine r_iload_n (x := a2) gX11_friend_29.2.2.2.2.1 rfl ?_
          refine r_if_ne (t := 47) gX11_friend_29.2.2.2.2.2.1 rfl (fun h4 => ?_) (fun h4 => ?_)
          · refine r_iconst (v := (0 : Int32)) gX11_friend_29.2.2.2.2.2.2.1 rfl ?_
            refine r_goto (t := 49) gX11_friend_29.2.2.2.2.2.2.2.1 rfl ?_
            exact r_ireturn gX11_friend_29.2.2.2.2.2.2.2.2.2.1 rfl rfl
          · refine r_bipush (v := (-2 : Int32)) gX11_friend_29.2.2.2.2.2.2.2.2.1 rfl ?_
            exact r_ireturn gX11_friend_29.2.2.2.2.2.2.2.2.2.1 rfl rfl
        · refine r_aload_n (x := 24) gX11_friend_29.2.2.2.2.2.2.2.2.2.2.1 rfl ?_
          refine r_iload_n (x := a1) gX11_friend_29.2.2.2.2.2.2.2.2.2.2.2.1 rfl ?_
          refine r_calli (k := 0) (idx := 150) (y := 101) (as := [.ref 24, .int a1]) (rest := []) (L0 := [(0, .ref 24), (1, .int a1)]) gX11_friend_29.2.2.2.2.2.2.2.2.2.2.2.2.1 rfl rfl rfl rfl rfl (vok_v (ob_24 hE) rfl) rfl (r_dep (by decide) (e_X8_realsOf hE r2 a1)) (fun r5 => ?_)
          refine r_istore (L2 := [(0, .ref 0), (1, .int a1), (2, .int a2), (3, .ref 24), (4, .int r3), (5, .int r5)]) gX11_friend_29.2.2.2.2.2.2.2.2.2.2.2.2.2.1 rfl rfl ?_
          refine r_aload_n (x := 0) gX11_friend_29.2.2.2.2.2.2.2.2.2.2.2.2.2.2.1 rfl ?_
          refine r_getA gX11_friend_29.2.2.2.2.2.2.2.2.2.2.2.2.2.2.2.1 (fa_11_10_0 hE) ?_
          refine r_iconst (v := (1 : Int32)) gX11_friend_61.1 rfl ?_
          refine r_iload_n (x := a1) gX11_friend_61.2.1 rfl ?_
          refine r_calli (k := 0) (idx := 129) (y := 134) (as := [.ref 1, .int (1 : Int32), .int a1]) (rest := []) (L0 := [(0, .ref 1), (1, .int (1 : Int32)), (2, .int a1)]) gX11_friend_61.2.2.1 rfl rfl rfl rfl rfl (vok_v (ob_1 hE) rfl) rfl (r_dep (by decide) (e_X10_get hE r2 (1 : Int32) a1)) (fun r6 => ?_)
          refine r_iconst (v := (1 : Int32)) gX11_friend_61.2.2.2.1 rfl ?_
          refine r_icmp_ne (t := 74) gX11_friend_61.2.2.2.2.1 rfl (fun h11 => ?_) (fun h11 => ?_)
          · refine r_iconst (v := (0 : Int32)) gX11_friend_61.2.2.2.2.2.1 rfl ?_
            refine r_goto (t := 84) gX11_friend_61.2.2.2.2.2.2.1 rfl ?_
            exact r_sub (L' := [(2, .int a2), (4, .int r3), (5, .int r5)]) (sub_c rfl (sub_c rfl (sub_c rfl sub_n))) (rb_X11_friend_84 hE r2 a2 r3 r5 (0 : Int32))
          · refine r_aload_n (x := 24) gX11_friend_61.2.2.2.2.2.2.2.1 rfl ?_
            refine r_calli (k := 0) (idx := 258) (y := 105) (as := [.ref 24]) (rest := []) (L0 := [(0, .ref 24)]) gX11_friend_61.2.2.2.2.2.2.2.2.1 rfl rfl rfl rfl rfl (vok_v (ob_24 hE) rfl) rfl (r_dep (by decide) (e_X8_looseReals hE r2)) (fun r9 => ?_)
            refine r_aload_n (x := 24) gX11_friend_61.2.2.2.2.2.2.2.2.2.1 rfl ?_
            refine r_iload_n (x := a1) gX11_friend_61.2.2.2.2.2.2.2.2.2.2.1 rfl ?_
            refine r_calli (k := 0) (idx := 261) (y := 104) (as := [.ref 24, .int a1]) (rest := [.int r9]) (L0 := [(0, .ref 24), (1, .int a1)]) gX11_friend_61.2.2.2.2.2.2.2.2.2.2.2.1 rfl rfl rfl rfl rfl (vok_v (ob_24 hE) rfl) rfl (r_dep (by decide) (e_X8_looseRealsOf hE r2 a1)) (fun r10 => ?_)
            refine r_isub gX11_friend_61.2.2.2.2.2.2.2.2.2.2.2.2.1 ?_
            exact r_sub (L' := [(2, .int a2), (4, .int r3), (5, .int r5)]) (sub_c rfl (sub_c rfl (sub_c rfl sub_n))) (rb_X11_friend_84 hE r2 a2 r3 r5 (r9 - r10))
      · refine r_iconst (v := (-1 : Int32)) gX11_friend_0.2.2.2.2.2.2.2.2.2.2.1 rfl ?_
        exact r_ireturn gX11_friend_0.2.2.2.2.2.2.2.2.2.2.2.1 rfl rfl

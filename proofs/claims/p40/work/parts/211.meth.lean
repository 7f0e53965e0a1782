def b_X12_line_66 (q : SS) (l1 : Int32) : Option SS :=
  if vin l1 122 then
  nm (sI q 78 l1.toNatClampNeg (((q.1 60 22).toInt16.toInt32).toInt16.toInt32)) fun q4 =>
  if vin (1 : Int32) 2 then
  if vin (1 : Int32) 2 then
  nm (sI q4 76 (1 : Int32).toNatClampNeg ((q4.1 76 (1 : Int32).toNatClampNeg) + (1 : Int32))) fun q5 =>
  some q5
  else none
  else none
  else none
theorem rb_X12_line_66 {E : EE} (hE : GE E) (q : SS) (l1 : Int32) : R E (κV E) 903 220 66 [(0, .ref 60), (1, .int l1)] [] q (b_X12_line_66 q l1) := by
  unfold b_X12_line_66
  refine r_aload_n (x := 60) gX12_line_56.2.2.2.2.2.2.1 rfl ?_
  refine r_getA gX12_line_56.2.2.2.2.2.2.2.1 (fa_12_65_60 hE) ?_
  refine r_iload_n (x := l1) gX12_line_56.2.2.2.2.2.2.2.2.1 rfl ?_
  refine r_aload_n (x := 60) gX12_line_56.2.2.2.2.2.2.2.2.2.1 rfl ?_
  refine r_getI gX12_line_56.2.2.2.2.2.2.2.2.2.2.1 (ff_12_187_60 hE) (by decide) ?_
  refine r_i2s gX12_line_56.2.2.2.2.2.2.2.2.2.2.2.1 ?_
  refine r_sastore gX12_line_56.2.2.2.2.2.2.2.2.2.2.2.2.1 (ar_78 hE) ?_
  refine r_nmS fun q4 _ => ?_
  refine r_aload_n (x := 60) gX12_line_56.2.2.2.2.2.2.2.2.2.2.2.2.2.1 rfl ?_
  refine r_getA gX12_line_56.2.2.2.2.2.2.2.2.2.2.2.2.2.2.1 (fa_12_58_60 hE) ?_
  refine r_iconst (v := (1 : Int32)) gX12_line_56.2.2.2.2.2.2.2.2.2.2.2.2.2.2.2.1 rfl ?_
  refine r_dup2 gX12_line_82.1 ⟨rfl, rfl⟩ ?_
  refine r_iaload gX12_line_82.2.1 (ar_76 hE) ?_
  refine r_iconst (v := (1 : Int32)) gX12_line_82.2.2.1 rfl ?_
  refine r_iadd gX12_line_82.2.2.2.1 ?_
  refine r_iastore gX12_line_82.2.2.2.2.1 (ar_76 hE) ?_
  refine r_nmS fun q5 _ => ?_
  exact r_return gX12_line_82.2.2.2.2.2.1 rfl rfl
def f_X12_line (q : SS)  : Option SS :=
  if vin (1 : Int32) 2 then
  nm ((61 : Int32) + (q.1 76 (1 : Int32).toNatClampNeg)) fun v1 =>
  if vin v1 122 then
  nm (sI q 77 v1.toNatClampNeg (((q.1 60 22).toInt16.toInt32).toInt16.toInt32)) fun q2 =>
  (f_X12_either q2).bind fun r3 =>
  if 0 ≤ (r3.1 60 20) then
  (b_X12_line_66 r3 v1)
  else
  ((f_X12_look r3).bind fun r6 =>
  if r6 = (63 : Int32) then
  (nm (sI r3 60 19 ((r3.1 60 19) + (1 : Int32))) fun q7 =>
  if vin v1 122 then
  nm (sI q7 77 v1.toNatClampNeg (((q7.1 60 22).toInt16.toInt32).toInt16.toInt32)) fun q8 =>
  (f_X12_either q8).bind fun r9 =>
  b_X12_line_66 r9 v1
  else none)
  else
  (b_X12_line_66 r3 v1))
  else none
  else none
theorem e_X12_line {E : EE} (hE : GE E) (q : SS)  : R E (κV E) 903 220 0 [(0, .ref 60)] [] q (f_X12_line q) := by
  unfold f_X12_line
  refine r_bipush (v := (61 : Int32)) gX12_line_0.1 rfl ?_
  refine r_aload_n (x := 60) gX12_line_0.2.1 rfl ?_
  refine r_getA gX12_line_0.2.2.1 (fa_12_58_60 hE) ?_
  refine r_iconst (v := (1 : Int32)) gX12_line_0.2.2.2.1 rfl ?_
  refine r_iaload gX12_line_0.2.2.2.2.1 (ar_76 hE) ?_
  refine r_iadd gX12_line_0.2.2.2.2.2.1 ?_
  refine r_nmI fun v1 _ => ?_
  refine r_istore_n (L2 := [(0, .ref 60), (1, .int v1)]) gX12_line_0.2.2.2.2.2.2.1 rfl rfl ?_
  refine r_aload_n (x := 60) gX12_line_0.2.2.2.2.2.2.2.1 rfl ?_
  refine r_getA gX12_line_0.2.2.2.2.2.2.2.2.1 (fa_12_61_60 hE) ?_
  refine r_iload_n (x := v1) gX12_line_0.2.2.2.2.2.2.2.2.2.1 rfl ?_
  refine r_aload_n (x := 60) gX12_line_0.2.2.2.2.2.2.2.2.2.2.1 rfl ?_
  refine r_getI gX12_line_0.2.2.2.2.2.2.2.2.2.2.2.1 (ff_12_187_60 hE) (by decide) ?_
  refine r_i2s gX12_line_0.2.2.2.2.2.2.2.2.2.2.2.2.1 ?_
  refine r_sastore gX12_line_0.2.2.2.2.2.2.2.2.2.2.2.2.2.1 (ar_77 hE) ?_
  refine r_nmS fun q2 _ => ?_
  refine r_aload_n (x := 60) gX12_line_0.2.2.2.2.2.2.2.2.2.2.2.2.2.2.1 rfl ?_
  refine r_callV (k := 0) (idx := 214) (y := 219) (as := [.ref 60]) (rest := []) (L0 := [(0, .ref 60)]) gX12_line_0.2.2.2.2.2.2.2.2.2.2.2.2.2.2.2.1 rfl rfl rfl rfl rfl (vok_v (ob_60 hE) rfl) rfl (r_dep (by decide) (e_X12_either hE q2)) (fun r3 => ?_)
  refine r_aload_n (x := 60) gX12_line_25.1 rfl ?_
  refine r_getI gX12_line_25.2.1 (ff_12_184_60 hE) (by decide) ?_
  refine r_if_ge (t := 66) gX12_line_25.2.2.1 rfl (fun h11 => ?_) (fun h11 => ?_)
  · exact r_sub (L' := [(0, .ref 60), (1, .int v1)]) (sub_c rfl (sub_c rfl sub_n)) (rb_X12_line_66 hE r3 v1)
  · refine r_aload_n (x := 60) gX12_line_25.2.2.2.1 rfl ?_
    refine r_calli (k := 0) (idx := 196) (y := 208) (as := [.ref 60]) (rest := []) (L0 := [(0, .ref 60)]) gX12_line_25.2.2.2.2.1 rfl rfl rfl rfl rfl (vok_v (ob_60 hE) rfl) rfl (r_dep (by decide) (e_X12_look hE r3)) (fun r6 => ?_)
    refine r_bipush (v := (63 : Int32)) gX12_line_25.2.2.2.2.2.1 rfl ?_
    refine r_icmp_ne (t := 66) gX12_line_25.2.2.2.2.2.2.1 rfl (fun h10 => ?_) (fun h10 => ?_)
    · refine r_aload_n (x := 60) gX12_line_25.2.2.2.2.2.2.2.1 rfl ?_
      refine r_dup gX12_line_25.2.2.2.2.2.2.2.2.1 rfl ?_
      refine r_getI gX12_line_25.2.2.2.2.2.2.2.2.2.1 (ff_12_181_60 hE) (by decide) ?_
      refine r_iconst (v := (1 : Int32)) gX12_line_25.2.2.2.2.2.2.2.2.2.2.1 rfl ?_
      refine r_iadd gX12_line_25.2.2.2.2.2.2.2.2.2.2.2.1 ?_
      refine r_putI gX12_line_25.2.2.2.2.2.2.2.2.2.2.2.2.1 (ff_12_181_60 hE) ?_
      refine r_nmS fun q7 _ => ?_
      refine r_aload_n (x := 60) gX12_line_25.2.2.2.2.2.2.2.2.2.2.2.2.2.1 rfl ?_
      refine r_getA gX12_line_25.2.2.2.2.2.2.2.2.2.2.2.2.2.2.1 (fa_12_61_60 hE) ?_
      refine r_iload_n (x := v1) gX12_line_25.2.2.2.2.2.2.2.2.2.2.2.2.2.2.2.1 rfl ?_
      refine r_aload_n (x := 60) gX12_line_56.1 rfl ?_
      refine r_getI gX12_line_56.2.1 (ff_12_187_60 hE) (by decide) ?_
      refine r_i2s gX12_line_56.2.2.1 ?_
      refine r_sastore gX12_line_56.2.2.2.1 (ar_77 hE) ?_
      refine r_nmS fun q8 _ => ?_
      refine r_aload_n (x := 60) gX12_line_56.2.2.2.2.1 rfl ?_
      refine r_callV (k := 0) (idx := 214) (y := 219) (as := [.ref 60]) (rest := []) (L0 := [(0, .ref 60)]) gX12_line_56.2.2.2.2.2.1 rfl rfl rfl rfl rfl (vok_v (ob_60 hE) rfl) rfl (r_dep (by decide) (e_X12_either hE q8)) (fun r9 => ?_)
      exact r_sub (L' := [(0, .ref 60), (1, .int v1)]) (sub_c rfl (sub_c rfl sub_n)) (rb_X12_line_66 hE r9 v1)
    · exact r_sub (L' := [(0, .ref 60), (1, .int v1)]) (sub_c rfl (sub_c rfl sub_n)) (rb_X12_line_66 hE r3 v1)
def b_X12_readText_177 : SS → Int32 → Int32 → Option (Int32 × SS) :=
  fx3 (fun (rec_177 : SS → Int32 → Int32 → Option (Int32 × SS)) (q : SS) (l1 : Int32) (l2 : Int32) =>
  if vin l1 2 then
  if (q.1 76 l1.toNatClampNeg) ≤ l2 then
  (some ((-1 : Int32), q))
  else
  (if vin ((61 : Int32) + l2) 122 then
  if vin (((61 : Int32) * l1) + l2) 122 then
  nm (sI q 77 (((61 : Int32) * l1) + l2).toNatClampNeg ((q.1 77 ((61 : Int32) + l2).toNatClampNeg).toInt16.toInt32)) fun q9 =>
  if vin ((61 : Int32) + l2) 122 then
  if vin (((61 : Int32) * l1) + l2) 122 then
  nm (sI q9 78 (((61 : Int32) * l1) + l2).toNatClampNeg ((q9.1 78 ((61 : Int32) + l2).toNatClampNeg).toInt16.toInt32)) fun q10 =>
  rec_177 q10 l1 (l2 + (1 : Int32))
  else none
  else none
  else none
  else none)
  else none) FU
theorem rb_X12_readText_177 {E : EE} (hE : GE E) (q : SS) (l1 : Int32) (l2 : Int32) : R E (κI E) 904 221 177 [(0, .ref 60), (1, .int l1), (2, .int l2)] [] q (b_X12_readText_177 q l1 l2) := by
  unfold b_X12_readText_177
  refine fx3_ok (P := fun q l1 l2 o => R E (κI E) 904 221 177 [(0, .ref 60), (1, .int l1), (2, .int l2)] [] q o) (fun _ _ _ => r_no) (fun rec_177 hrec_177 q l1 l2 => ?_) _ _ _ _
  refine r_iload_n (x := l2) gX12_readText_173.2.2.2.2.1 rfl ?_
  refine r_aload_n (x := 60) gX12_readText_173.2.2.2.2.2.1 rfl ?_
  refine r_getA gX12_readText_173.2.2.2.2.2.2.1 (fa_12_58_60 hE) ?_
  refine r_iload_n (x := l1) gX12_readText_173.2.2.2.2.2.2.2.1 rfl ?_
  refine r_iaload gX12_readText_173.2.2.2.2.2.2.2.2.1 (ar_76 hE) ?_
  refine r_icmp_ge (t := 233) gX12_readText_173.2.2.2.2.2.2.2.2.2.1 rfl (fun h11 => ?_) (fun h11 => ?_)
  · refine r_iconst (v := (-1 : Int32)) gX12_readText_218.2.2.2.2.2.2.2.2.1 rfl ?_
    exact r_ireturn gX12_readText_218.2.2.2.2.2.2.2.2.2.1 rfl rfl
  · refine r_aload_n (x := 60) gX12_readText_173.2.2.2.2.2.2.2.2.2.2.1 rfl ?_
    refine r_getA gX12_readText_173.2.2.2.2.2.2.2.2.2.2.2.1 (fa_12_61_60 hE) ?_
    refine r_bipush (v := (61 : Int32)) gX12_readText_173.2.2.2.2.2.2.2.2.2.2.2.2.1 rfl ?_
    refine r_iload_n (x := l1) gX12_readText_173.2.2.2.2.2.2.2.2.2.2.2.2.2.1 rfl ?_
    refine r_imul gX12_readText_173.2.2.2.2.2.2.2.2.2.2.2.2.2.2.1 ?_
    refine r_iload_n (x := l2) gX12_readText_173.2.2.2.2.2.2.2.2.2.2.2.2.2.2.2.1 rfl ?_
    refine r_iadd gX12_readText_196.1 ?_
    refine r_aload_n (x := 60) gX12_readText_196.2.1 rfl ?_
    refine r_getA gX12_readText_196.2.2.1 (fa_12_61_60 hE) ?_
    refine r_bipush (v := (61 : Int32)) gX12_readText_196.2.2.2.1 rfl ?_
    refine r_iload_n (x := l2) gX12_readText_196.2.2.2.2.1 rfl ?_
    refine r_iadd gX12_readText_196.2.2.2.2.2.1 ?_
    refine r_saload gX12_readText_196.2.2.2.2.2.2.1 (ar_77 hE) ?_
    refine r_sastore gX12_readText_196.2.2.2.2.2.2.2.1 (ar_77 hE) ?_
    refine r_nmS fun q9 _ => ?_
    refine r_aload_n (x := 60) gX12_readText_196.2.2.2.2.2.2.2.2.1 rfl ?_
    refine r_getA gX12_readText_196.2.2.2.2.2.2.2.2.2.1 (fa_12_65_60 hE) ?_
    refine r_bipush (v := (61 : Int32)) gX12_readText_196.2.2.2.2.2.2.2.2.2.2.1 rfl ?_
    refine r_iload_n (x := l1) gX12_readText_196.2.2.2.2.2.2.2.2.2.2.2.1 rfl ?_
    refine r_imul gX12_readText_196.2.2.2.2.2.2.2.2.2.2.2.2.1 ?_
    refine r_iload_n (x := l2) gX12_readText_196.2.2.2.2.2.2.2.2.2.2.2.2.2.1 rfl ?_
    refine r_iadd gX12_readText_196.2.2.2.2.2.2.2.2.2.2.2.2.2.2.1 ?_
    refine r_aload_n (x := 60) gX12_readText_196.2.2.2.2.2.2.2.2.2.2.2.2.2.2.2.1 rfl ?_
    refine r_getA gX12_readText_218.1 (fa_12_65_60 hE) ?_
    refine r_bipush (v := (61 : Int32)) gX12_readText_218.2.1 rfl ?_
    refine r_iload_n (x := l2) gX12_readText_218.2.2.1 rfl ?_
    refine r_iadd gX12_readText_218.2.2.2.1 ?_
    refine r_saload gX12_readText_218.2.2.2.2.1 (ar_78 hE) ?_
    refine r_sastore gX12_readText_218.2.2.2.2.2.1 (ar_78 hE) ?_
    refine r_nmS fun q10 _ => ?_
    refine r_iinc (x := l2) (v := (l2 + (1 : Int32))) (L2 := [(0, .ref 60), (1, .int l1), (2, .int (l2 + (1 : Int32)))]) gX12_readText_218.2.2.2.2.2.2.1 rfl rfl rfl rfl ?_
    refine r_goto (t := 177) gX12_readText_218.2.2.2.2.2.2.2.1 rfl ?_
    exact r_sub (L' := [(0, .ref 60), (1, .int l1), (2, .int (l2 + (1 : Int32)))]) (sub_c rfl (sub_c rfl (sub_c rfl sub_n))) (hrec_177 q10 l1 (l2 + (1 : Int32)))
def b_X12_readText_105 : SS → Int32 → Int32 → Option (Int32 × SS) :=
  fx3 (fun (rec_105 : SS → Int32 → Int32 → Option (Int32 × SS)) (q : SS) (l1 : Int32) (l2 : Int32) =>
  if (q.1 60 22) ≤ l2 then
  (if vin (1 : Int32) 2 then
  if vin l1 2 then
  nm (sI q 76 l1.toNatClampNeg (q.1 76 (1 : Int32).toNatClampNeg)) fun q8 =>
  b_X12_readText_177 q8 l1 (0 : Int32)
  else none
  else none)
  else
  (if vin ((130 : Int32) + l2) 260 then
  if vin (((130 : Int32) * l1) + l2) 260 then
  nm (sI q 74 (((130 : Int32) * l1) + l2).toNatClampNeg ((q.1 74 ((130 : Int32) + l2).toNatClampNeg).toInt8.toInt32)) fun q12 =>
  if vin ((130 : Int32) + l2) 260 then
  if vin (((130 : Int32) * l1) + l2) 260 then
  nm (sI q12 75 (((130 : Int32) * l1) + l2).toNatClampNeg (q12.1 75 ((130 : Int32) + l2).toNatClampNeg)) fun q13 =>
  rec_105 q13 l1 (l2 + (1 : Int32))
  else none
  else none
  else none
  else none)) FU
theorem rb_X12_readText_105 {E : EE} (hE : GE E) (q : SS) (l1 : Int32) (l2 : Int32) : R E (κI E) 904 221 105 [(0, .ref 60), (1, .int l1), (2, .int l2)] [] q (b_X12_readText_105 q l1 l2) := by
  unfold b_X12_readText_105
  refine fx3_ok (P := fun q l1 l2 o => R E (κI E) 904 221 105 [(0, .ref 60), (1, .int l1), (2, .int l2)] [] q o) (fun _ _ _ => r_no) (fun rec_105 hrec_105 q l1 l2 => ?_) _ _ _ _
  refine r_iload_n (x := l2) gX12_readText_91.2.2.2.2.2.2.2.2.1 rfl ?_
  refine r_aload_n (x := 60) gX12_readText_91.2.2.2.2.2.2.2.2.2.1 rfl ?_
  refine r_getI gX12_readText_91.2.2.2.2.2.2.2.2.2.2.1 (ff_12_187_60 hE) (by decide) ?_
  refine r_icmp_ge (t := 163) gX12_readText_91.2.2.2.2.2.2.2.2.2.2.2.1 rfl (fun h14 => ?_) (fun h14 => ?_)
  · refine r_aload_n (x := 60) gX12_readText_145.2.2.2.2.2.2.2.2.2.2.1 rfl ?_
    refine r_getA gX12_readText_145.2.2.2.2.2.2.2.2.2.2.2.1 (fa_12_58_60 hE) ?_
    refine r_iload_n (x := l1) gX12_readText_145.2.2.2.2.2.2.2.2.2.2.2.2.1 rfl ?_
    refine r_aload_n (x := 60) gX12_readText_145.2.2.2.2.2.2.2.2.2.2.2.2.2.1 rfl ?_
    refine r_getA gX12_readText_145.2.2.2.2.2.2.2.2.2.2.2.2.2.2.1 (fa_12_58_60 hE) ?_
    refine r_iconst (v := (1 : Int32)) gX12_readText_145.2.2.2.2.2.2.2.2.2.2.2.2.2.2.2.1 rfl ?_
    refine r_iaload gX12_readText_173.1 (ar_76 hE) ?_
    refine r_iastore gX12_readText_173.2.1 (ar_76 hE) ?_
    refine r_nmS fun q8 _ => ?_
    refine r_iconst (v := (0 : Int32)) gX12_readText_173.2.2.1 rfl ?_
    refine r_istore_n (L2 := [(0, .ref 60), (1, .int l1), (2, .int (0 : Int32))]) gX12_readText_173.2.2.2.1 rfl rfl ?_
    exact r_sub (L' := [(0, .ref 60), (1, .int l1), (2, .int (0 : Int32))]) (sub_c rfl (sub_c rfl (sub_c rfl sub_n))) (rb_X12_readText_177 hE q8 l1 (0 : Int32))
  · refine r_aload_n (x := 60) gX12_readText_91.2.2.2.2.2.2.2.2.2.2.2.2.1 rfl ?_
    refine r_getA gX12_readText_91.2.2.2.2.2.2.2.2.2.2.2.2.2.1 (fa_12_52_60 hE) ?_
    refine r_sipush (v := (130 : Int32)) gX12_readText_91.2.2.2.2.2.2.2.2.2.2.2.2.2.2.1 rfl ?_
    refine r_iload_n (x := l1) gX12_readText_91.2.2.2.2.2.2.2.2.2.2.2.2.2.2.2.1 rfl ?_
    refine r_imul gX12_readText_121.1 ?_
    refine r_iload_n (x := l2) gX12_readText_121.2.1 rfl ?_
    refine r_iadd gX12_readText_121.2.2.1 ?_
    refine r_aload_n (x := 60) gX12_readText_121.2.2.2.1 rfl ?_
    refine r_getA gX12_readText_121.2.2.2.2.1 (fa_12_52_60 hE) ?_
    refine r_sipush (v := (130 : Int32)) gX12_readText_121.2.2.2.2.2.1 rfl ?_
    refine r_iload_n (x := l2) gX12_readText_121.2.2.2.2.2.2.1 rfl ?_
    refine r_iadd gX12_readText_121.2.2.2.2.2.2.2.1 ?_
    refine r_baload gX12_readText_121.2.2.2.2.2.2.2.2.1 (ar_74 hE) ?_
    refine r_bastore gX12_readText_121.2.2.2.2.2.2.2.2.2.1 (ar_74 hE) ?_
    refine r_nmS fun q12 _ => ?_
    refine r_aload_n (x := 60) gX12_readText_121.2.2.2.2.2.2.2.2.2.2.1 rfl ?_
    refine r_getA gX12_readText_121.2.2.2.2.2.2.2.2.2.2.2.1 (fa_12_55_60 hE) ?_
    refine r_sipush (v := (130 : Int32)) gX12_readText_121.2.2.2.2.2.2.2.2.2.2.2.2.1 rfl ?_
    refine r_iload_n (x := l1) gX12_readText_121.2.2.2.2.2.2.2.2.2.2.2.2.2.1 rfl ?_
    refine r_imul gX12_readText_121.2.2.2.2.2.2.2.2.2.2.2.2.2.2.1 ?_
    refine r_iload_n (x := l2) gX12_readText_121.2.2.2.2.2.2.2.2.2.2.2.2.2.2.2.1 rfl ?_
    refine r_iadd gX12_readText_145.1 ?_
    refine r_aload_n (x := 60) gX12_readText_145.2.1 rfl ?_
    refine r_getA gX12_readText_145.2.2.1 (fa_12_55_60 hE) ?_
    refine r_sipush (v := (130 : Int32)) gX12_readText_145.2.2.2.1 rfl ?_
    refine r_iload_n (x := l2) gX12_readText_145.2.2.2.2.1 rfl ?_
    refine r_iadd gX12_readText_145.2.2.2.2.2.1 ?_
    refine r_iaload gX12_readText_145.2.2.2.2.2.2.1 (ar_75 hE) ?_
    refine r_iastore gX12_readText_145.2.2.2.2.2.2.2.1 (ar_75 hE) ?_
    refine r_nmS fun q13 _ => ?_
    refine r_iinc (x := l2) (v := (l2 + (1 : Int32))) (L2 := [(0, .ref 60), (1, .int l1), (2, .int (l2 + (1 : Int32)))]) gX12_readText_145.2.2.2.2.2.2.2.2.1 rfl rfl rfl rfl ?_
    refine r_goto (t := 105) gX12_readText_145.2.2.2.2.2.2.2.2.2.1 rfl ?_
    exact r_sub (L' := [(0, .ref 60), (1, .int l1), (2, .int (l2 + (1 : Int32)))]) (sub_c rfl (sub_c rfl (sub_c rfl sub_n))) (hrec_105 q13 l1 (l2 + (1 : Int32)))
def b_X12_readText_86 (q : SS) (l1 : Int32) : Option (Int32 × SS) :=
  nm (sI q 60 18 (0 : Int32)) fun q7 =>
  if (q7.1 60 20) < 0 then
  (b_X12_readText_105 q7 l1 (0 : Int32))
  else
  (some ((q7.1 60 20), q7))
theorem rb_X12_readText_86 {E : EE} (hE : GE E) (q : SS) (l1 : Int32) : R E (κI E) 904 221 86 [(0, .ref 60), (1, .int l1)] [] q (b_X12_readText_86 q l1) := by
  unfold b_X12_readText_86
  refine r_aload_n (x := 60) gX12_readText_57.2.2.2.2.2.2.2.2.2.2.2.2.2.1 rfl ?_
  refine r_iconst (v := (0 : Int32)) gX12_readText_57.2.2.2.2.2.2.2.2.2.2.2.2.2.2.1 rfl ?_
  refine r_putI gX12_readText_57.2.2.2.2.2.2.2.2.2.2.2.2.2.2.2.1 (ff_12_178_60 hE) ?_
  refine r_nmS fun q7 _ => ?_
  refine r_aload_n (x := 60) gX12_readText_91.1 rfl ?_
  refine r_getI gX12_readText_91.2.1 (ff_12_184_60 hE) (by decide) ?_
  refine r_if_lt (t := 103) gX12_readText_91.2.2.1 rfl (fun h15 => ?_) (fun h15 => ?_)
  · refine r_iconst (v := (0 : Int32)) gX12_readText_91.2.2.2.2.2.2.1 rfl ?_
    refine r_istore_n (L2 := [(0, .ref 60), (1, .int l1), (2, .int (0 : Int32))]) gX12_readText_91.2.2.2.2.2.2.2.1 rfl rfl ?_
    exact r_sub (L' := [(0, .ref 60), (1, .int l1), (2, .int (0 : Int32))]) (sub_c rfl (sub_c rfl (sub_c rfl sub_n))) (rb_X12_readText_105 hE q7 l1 (0 : Int32))
  · refine r_aload_n (x := 60) gX12_readText_91.2.2.2.1 rfl ?_
    refine r_getI gX12_readText_91.2.2.2.2.1 (ff_12_184_60 hE) (by decide) ?_
    exact r_ireturn gX12_readText_91.2.2.2.2.2.1 rfl rfl
def b_X12_readText_64 (q : SS) (l1 : Int32) : Option (Int32 × SS) :=
  if 0 ≤ (q.1 60 20) then
  (b_X12_readText_86 q l1)
  else
  (if (q.1 60 18) ≤ (q.1 60 19) then
  (b_X12_readText_86 q l1)
  else
  ((f_X12_wrong q).bind fun r16 =>
  b_X12_readText_86 r16 l1))
theorem rb_X12_readText_64 {E : EE} (hE : GE E) (q : SS) (l1 : Int32) : R E (κI E) 904 221 64 [(0, .ref 60), (1, .int l1)] [] q (b_X12_readText_64 q l1) := by
  unfold b_X12_readText_64
  refine r_aload_n (x := 60) gX12_readText_57.2.2.2.1 rfl ?_
  refine r_getI gX12_readText_57.2.2.2.2.1 (ff_12_184_60 hE) (by decide) ?_
  refine r_if_ge (t := 86) gX12_readText_57.2.2.2.2.2.1 rfl (fun h18 => ?_) (fun h18 => ?_)
  · exact r_sub (L' := [(0, .ref 60), (1, .int l1)]) (sub_c rfl (sub_c rfl sub_n)) (rb_X12_readText_86 hE q l1)
  · refine r_aload_n (x := 60) gX12_readText_57.2.2.2.2.2.2.1 rfl ?_
    refine r_getI gX12_readText_57.2.2.2.2.2.2.2.1 (ff_12_181_60 hE) (by decide) ?_
    refine r_aload_n (x := 60) gX12_readText_57.2.2.2.2.2.2.2.2.1 rfl ?_
    refine r_getI gX12_readText_57.2.2.2.2.2.2.2.2.2.1 (ff_12_178_60 hE) (by decide) ?_
    refine r_icmp_ge (t := 86) gX12_readText_57.2.2.2.2.2.2.2.2.2.2.1 rfl (fun h17 => ?_) (fun h17 => ?_)
    · exact r_sub (L' := [(0, .ref 60), (1, .int l1)]) (sub_c rfl (sub_c rfl sub_n)) (rb_X12_readText_86 hE q l1)
    · refine r_aload_n (x := 60) gX12_readText_57.2.2.2.2.2.2.2.2.2.2.2.1 rfl ?_
      refine r_callV (k := 0) (idx := 193) (y := 209) (as := [.ref 60]) (rest := []) (L0 := [(0, .ref 60)]) gX12_readText_57.2.2.2.2.2.2.2.2.2.2.2.2.1 rfl rfl rfl rfl rfl (vok_v (ob_60 hE) rfl) rfl (r_dep (by decide) (e_X12_wrong hE q)) (fun r16 => ?_)
      exact r_sub (L' := [(0, .ref 60), (1, .int l1)]) (sub_c rfl (sub_c rfl sub_n)) (rb_X12_readText_86 hE r16 l1)
def b_X12_readText_31 : SS → Int32 → Option (Int32 × SS) :=
  fx2 (fun (rec_31 : SS → Int32 → Option (Int32 × SS)) (q : SS) (l1 : Int32) =>
  if 0 ≤ (q.1 60 20) then
  (b_X12_readText_64 q l1)
  else
  ((f_X12_look q).bind fun r19 =>
  if r19 = (59 : Int32) then
  (nm (sI q 60 19 ((q.1 60 19) + (1 : Int32))) fun q20 =>
  (f_X12_line q20).bind fun r21 =>
  rec_31 r21 l1)
  else
  (b_X12_readText_64 q l1))) FU
theorem rb_X12_readText_31 {E : EE} (hE : GE E) (q : SS) (l1 : Int32) : R E (κI E) 904 221 31 [(0, .ref 60), (1, .int l1)] [] q (b_X12_readText_31 q l1) := by
  unfold b_X12_readText_31
  refine fx2_ok (P := fun q l1 o => R E (κI E) 904 221 31 [(0, .ref 60), (1, .int l1)] [] q o) (fun _ _ => r_no) (fun rec_31 hrec_31 q l1 => ?_) _ _ _
  refine r_aload_n (x := 60) gX12_readText_26.2.2.2.1 rfl ?_
  refine r_getI gX12_readText_26.2.2.2.2.1 (ff_12_184_60 hE) (by decide) ?_
  refine r_if_ge (t := 64) gX12_readText_26.2.2.2.2.2.1 rfl (fun h23 => ?_) (fun h23 => ?_)
  · exact r_sub (L' := [(0, .ref 60), (1, .int l1)]) (sub_c rfl (sub_c rfl sub_n)) (rb_X12_readText_64 hE q l1)
  · refine r_aload_n (x := 60) gX12_readText_26.2.2.2.2.2.2.1 rfl ?_
    refine r_calli (k := 0) (idx := 196) (y := 208) (as := [.ref 60]) (rest := []) (L0 := [(0, .ref 60)]) gX12_readText_26.2.2.2.2.2.2.2.1 rfl rfl rfl rfl rfl (vok_v (ob_60 hE) rfl) rfl (r_dep (by decide) (e_X12_look hE q)) (fun r19 => ?_)
    refine r_bipush (v := (59 : Int32)) gX12_readText_26.2.2.2.2.2.2.2.2.1 rfl ?_
    refine r_icmp_ne (t := 64) gX12_readText_26.2.2.2.2.2.2.2.2.2.1 rfl (fun h22 => ?_) (fun h22 => ?_)
    · refine r_aload_n (x := 60) gX12_readText_26.2.2.2.2.2.2.2.2.2.2.1 rfl ?_
      refine r_dup gX12_readText_26.2.2.2.2.2.2.2.2.2.2.2.1 rfl ?_
      refine r_getI gX12_readText_26.2.2.2.2.2.2.2.2.2.2.2.2.1 (ff_12_181_60 hE) (by decide) ?_
      refine r_iconst (v := (1 : Int32)) gX12_readText_26.2.2.2.2.2.2.2.2.2.2.2.2.2.1 rfl ?_
      refine r_iadd gX12_readText_26.2.2.2.2.2.2.2.2.2.2.2.2.2.2.1 ?_
      refine r_putI gX12_readText_26.2.2.2.2.2.2.2.2.2.2.2.2.2.2.2.1 (ff_12_181_60 hE) ?_
      refine r_nmS fun q20 _ => ?_
      refine r_aload_n (x := 60) gX12_readText_57.1 rfl ?_
      refine r_callV (k := 0) (idx := 232) (y := 220) (as := [.ref 60]) (rest := []) (L0 := [(0, .ref 60)]) gX12_readText_57.2.1 rfl rfl rfl rfl rfl (vok_v (ob_60 hE) rfl) rfl (r_dep (by decide) (e_X12_line hE q20)) (fun r21 => ?_)
      refine r_goto (t := 31) gX12_readText_57.2.2.1 rfl ?_
      exact r_sub (L' := [(0, .ref 60), (1, .int l1)]) (sub_c rfl (sub_c rfl sub_n)) (hrec_31 r21 l1)
    · exact r_sub (L' := [(0, .ref 60), (1, .int l1)]) (sub_c rfl (sub_c rfl sub_n)) (rb_X12_readText_64 hE q l1)
def f_X12_readText (q : SS) (a1 : Int32) : Option (Int32 × SS) :=
  nm (sI q 60 19 (0 : Int32)) fun q1 =>
  nm (sI q1 60 20 (-1 : Int32)) fun q2 =>
  nm (sI q2 60 21 (0 : Int32)) fun q3 =>
  nm (sI q3 60 22 (0 : Int32)) fun q4 =>
  if vin (1 : Int32) 2 then
  nm (sI q4 76 (1 : Int32).toNatClampNeg (0 : Int32)) fun q5 =>
  (f_X12_line q5).bind fun r6 =>
  b_X12_readText_31 r6 a1
  else none
theorem e_X12_readText {E : EE} (hE : GE E) (q : SS) (a1 : Int32) : R E (κI E) 904 221 0 [(0, .ref 60), (1, .int a1)] [] q (f_X12_readText q a1) := by
  unfold f_X12_readText
  refine r_aload_n (x := 60) gX12_readText_0.1 rfl ?_
  refine r_iconst (v := (0 : Int32)) gX12_readText_0.2.1 rfl ?_
  refine r_putI gX12_readText_0.2.2.1 (ff_12_181_60 hE) ?_
  refine r_nmS fun q1 _ => ?_
  refine r_aload_n (x := 60) gX12_readText_0.2.2.2.1 rfl ?_
  refine r_iconst (v := (-1 : Int32)) gX12_readText_0.2.2.2.2.1 rfl ?_
  refine r_putI gX12_readText_0.2.2.2.2.2.1 (ff_12_184_60 hE) ?_
  refine r_nmS fun q2 _ => ?_
  refine r_aload_n (x := 60) gX12_readText_0.2.2.2.2.2.2.1 rfl ?_
  refine r_iconst (v := (0 : Int32)) gX12_readText_0.2.2.2.2.2.2.2.1 rfl ?_
  refine r_putI gX12_readText_0.2.2.2.2.2.2.2.2.1 (ff_12_190_60 hE) ?_
  refine r_nmS fun q3 _ => ?_
  refine r_aload_n (x := 60) gX12_readText_0.2.2.2.2.2.2.2.2.2.1 rfl ?_
  refine r_iconst (v := (0 : Int32)) gX12_readText_0.2.2.2.2.2.2.2.2.2.2.1 rfl ?_
  refine r_putI gX12_readText_0.2.2.2.2.2.2.2.2.2.2.2.1 (ff_12_187_60 hE) ?_
  refine r_nmS fun q4 _ => ?_
  refine r_aload_n (x := 60) gX12_readText_0.2.2.2.2.2.2.2.2.2.2.2.2.1 rfl ?_
  refine r_getA gX12_readText_0.2.2.2.2.2.2.2.2.2.2.2.2.2.1 (fa_12_58_60 hE) ?_
  refine r_iconst (v := (1 : Int32)) gX12_readText_0.2.2.2.2.2.2.2.2.2.2.2.2.2.2.1 rfl ?_
  refine r_iconst (v := (0 : Int32)) gX12_readText_0.2.2.2.2.2.2.2.2.2.2.2.2.2.2.2.1 rfl ?_
  refine r_iastore gX12_readText_26.1 (ar_76 hE) ?_
  refine r_nmS fun q5 _ => ?_
  refine r_aload_n (x := 60) gX12_readText_26.2.1 rfl ?_
  refine r_callV (k := 0) (idx := 232) (y := 220) (as := [.ref 60]) (rest := []) (L0 := [(0, .ref 60)]) gX12_readText_26.2.2.1 rfl rfl rfl rfl rfl (vok_v (ob_60 hE) rfl) rfl (r_dep (by decide) (e_X12_line hE q5)) (fun r6 => ?_)
  exact r_sub (L' := [(0, .ref 60), (1, .int a1)]) (sub_c rfl (sub_c rfl sub_n)) (rb_X12_readText_31 hE r6 a1)
def f_X12_law (q : SS)  : Option (Int32 × SS) :=
  (f_X12_readText q (0 : Int32)).bind fun r1 =>
  if r1.1 < 0 then
  (nm (sI r1.2 60 30 (1 : Int32)) fun q2 =>
  some ((1 : Int32), q2))
  else
  (some (((-100 : Int32) - r1.1), r1.2))
theorem e_X12_law {E : EE} (hE : GE E) (q : SS)  : R E (κI E) 905 225 0 [(0, .ref 60)] [] q (f_X12_law q) := by
  unfold f_X12_law
  refine r_aload_n (x := 60) gX12_law_0.1 rfl ?_
  refine r_iconst (v := (0 : Int32)) gX12_law_0.2.1 rfl ?_
  refine r_callI (k := 0) (idx := 241) (y := 221) (as := [.ref 60, .int (0 : Int32)]) (rest := []) (L0 := [(0, .ref 60), (1, .int (0 : Int32))]) gX12_law_0.2.2.1 rfl rfl rfl rfl rfl (vok_v (ob_60 hE) rfl) rfl (r_dep (by decide) (e_X12_readText hE q (0 : Int32))) (fun r1 => ?_)
  refine r_istore_n (L2 := [(0, .ref 60), (1, .int r1.1)]) gX12_law_0.2.2.2.1 rfl rfl ?_
  refine r_iload_n (x := r1.1) gX12_law_0.2.2.2.2.1 rfl ?_
  refine r_if_lt (t := 15) gX12_law_0.2.2.2.2.2.1 rfl (fun h3 => ?_) (fun h3 => ?_)
  · refine r_aload_n (x := 60) gX12_law_0.2.2.2.2.2.2.2.2.2.2.1 rfl ?_
    refine r_iconst (v := (1 : Int32)) gX12_law_0.2.2.2.2.2.2.2.2.2.2.2.1 rfl ?_
    refine r_putZC gX12_law_0.2.2.2.2.2.2.2.2.2.2.2.2.1 (ff_12_244_60 hE) (by decide) ?_
    refine r_nmS fun q2 _ => ?_
    refine r_iconst (v := (1 : Int32)) gX12_law_0.2.2.2.2.2.2.2.2.2.2.2.2.2.1 rfl ?_
    exact r_ireturn gX12_law_0.2.2.2.2.2.2.2.2.2.2.2.2.2.2.1 rfl rfl
  · refine r_bipush (v := (-100 : Int32)) gX12_law_0.2.2.2.2.2.2.1 rfl ?_
    refine r_iload_n (x := r1.1) gX12_law_0.2.2.2.2.2.2.2.1 rfl ?_
    refine r_isub gX12_law_0.2.2.2.2.2.2.2.2.1 ?_
    exact r_ireturn gX12_law_0.2.2.2.2.2.2.2.2.2.1 rfl rfl
def f_X5_addByte (q : SS) (a1 : Int32) : Option (Int32 × SS) :=
  if (q.1 17 2) < (120 : Int32) then
  (if vin (q.1 17 2) 120 then
  nm (sI q 18 (q.1 17 2).toNatClampNeg a1) fun q1 =>
  nm (sI q1 17 2 ((q1.1 17 2) + (1 : Int32))) fun q2 =>
  some ((q2.1 17 2), q2)
  else none)
  else
  (some ((-3 : Int32), q))
theorem e_X5_addByte {E : EE} (hE : GE E) (q : SS) (a1 : Int32) : R E (κI E) 0 51 0 [(0, .ref 17), (1, .int a1)] [] q (f_X5_addByte q a1) := by
  unfold f_X5_addByte
  refine r_aload_n (x := 17) gX5_addByte_0.1 rfl ?_
  refine r_getI gX5_addByte_0.2.1 (ff_5_22_17 hE) (by decide) ?_
  refine r_bipush (v := (120 : Int32)) gX5_addByte_0.2.2.1 rfl ?_
  refine r_icmp_lt (t := 12) gX5_addByte_0.2.2.2.1 rfl (fun h3 => ?_) (fun h3 => ?_)
  · refine r_aload_n (x := 17) gX5_addByte_0.2.2.2.2.2.2.1 rfl ?_
    refine r_getA gX5_addByte_0.2.2.2.2.2.2.2.1 (fa_5_11_17 hE) ?_
    refine r_aload_n (x := 17) gX5_addByte_0.2.2.2.2.2.2.2.2.1 rfl ?_
    refine r_getI gX5_addByte_0.2.2.2.2.2.2.2.2.2.1 (ff_5_22_17 hE) (by decide) ?_
    refine r_iload_n (x := a1) gX5_addByte_0.2.2.2.2.2.2.2.2.2.2.1 rfl ?_
    refine r_iastore gX5_addByte_0.2.2.2.2.2.2.2.2.2.2.2.1 (ar_18 hE) ?_
    refine r_nmS fun q1 _ => ?_
    refine r_aload_n (x := 17) gX5_addByte_0.2.2.2.2.2.2.2.2.2.2.2.2.1 rfl ?_
    refine r_dup gX5_addByte_0.2.2.2.2.2.2.2.2.2.2.2.2.2.1 rfl ?_
    refine r_getI gX5_addByte_0.2.2.2.2.2.2.2.2.2.2.2.2.2.2.1 (ff_5_22_17 hE) (by decide) ?_
    refine r_iconst (v := (1 : Int32)) gX5_addByte_0.2.2.2.2.2.2.2.2.2.2.2.2.2.2.2.1 rfl ?_
    refine r_iadd gX5_addByte_28.1 ?_
    refine r_putI gX5_addByte_28.2.1 (ff_5_22_17 hE) ?_
    refine r_nmS fun q2 _ => ?_
    refine r_aload_n (x := 17) gX5_addByte_28.2.2.1 rfl ?_
    refine r_getI gX5_addByte_28.2.2.2.1 (ff_5_22_17 hE) (by decide) ?_
    exact r_ireturn gX5_addByte_28.2.2.2.2.1 rfl rfl
  · refine r_bipush (v := (-3 : Int32)) gX5_addByte_0.2.2.2.2.1 rfl ?_
    exact r_ireturn gX5_addByte_0.2.2.2.2.2.1 rfl rfl
def f_X11_feed (q : SS) (a1 : Int32) : Option (Int32 × SS) :=
  if a1 < 0 then
  (some ((-1 : Int32), q))
  else
  (if a1 ≤ (255 : Int32) then
  ((f_X5_addByte q a1).bind fun r1 =>
  some (r1.1, r1.2))
  else
  (some ((-1 : Int32), q)))
theorem e_X11_feed {E : EE} (hE : GE E) (q : SS) (a1 : Int32) : R E (κI E) 1 145 0 [(0, .ref 0), (1, .int a1)] [] q (f_X11_feed q a1) := by
  unfold f_X11_feed
  refine r_iload_n (x := a1) gX11_feed_0.1 rfl ?_
  refine r_if_lt (t := 11) gX11_feed_0.2.1 rfl (fun h3 => ?_) (fun h3 => ?_)
  · refine r_iconst (v := (-1 : Int32)) gX11_feed_0.2.2.2.2.2.1 rfl ?_
    exact r_ireturn gX11_feed_0.2.2.2.2.2.2.1 rfl rfl
  · refine r_iload_n (x := a1) gX11_feed_0.2.2.1 rfl ?_
    refine r_sipush (v := (255 : Int32)) gX11_feed_0.2.2.2.1 rfl ?_
    refine r_icmp_le (t := 13) gX11_feed_0.2.2.2.2.1 rfl (fun h2 => ?_) (fun h2 => ?_)
    · refine r_aload_n (x := 0) gX11_feed_0.2.2.2.2.2.2.2.1 rfl ?_
      refine r_getA gX11_feed_0.2.2.2.2.2.2.2.2.1 (fa_11_26_0 hE) ?_
      refine r_iload_n (x := a1) gX11_feed_0.2.2.2.2.2.2.2.2.2.1 rfl ?_
      refine r_callI (k := 0) (idx := 153) (y := 51) (as := [.ref 17, .int a1]) (rest := []) (L0 := [(0, .ref 17), (1, .int a1)]) gX11_feed_0.2.2.2.2.2.2.2.2.2.2.1 rfl rfl rfl rfl rfl (vok_v (ob_17 hE) rfl) rfl (r_dep (by decide) (e_X5_addByte hE q a1)) (fun r1 => ?_)
      exact r_ireturn gX11_feed_0.2.2.2.2.2.2.2.2.2.2.2.1 rfl rfl
    · refine r_iconst (v := (-1 : Int32)) gX11_feed_0.2.2.2.2.2.1 rfl ?_
      exact r_ireturn gX11_feed_0.2.2.2.2.2.2.1 rfl rfl
def f_X12_feed (q : SS) (a1 : Int32) : Option (Int32 × SS) :=
  (f_X12_in q a1 (0 : Int32) (255 : Int32)).bind fun r1 =>
  if r1 = 0 then
  (some ((-1 : Int32), q))
  else
  (if (q.1 60 18) = (120 : Int32) then
  (some ((-3 : Int32), q))
  else
  (if vin (q.1 60 18) 120 then
  nm (sI q 73 (q.1 60 18).toNatClampNeg ((a1.toInt8.toInt32).toInt8.toInt32)) fun q2 =>
  nm (sI q2 60 18 ((q2.1 60 18) + (1 : Int32))) fun q3 =>
  some ((q3.1 60 18), q3)
  else none))
theorem e_X12_feed {E : EE} (hE : GE E) (q : SS) (a1 : Int32) : R E (κI E) 1 207 0 [(0, .ref 60), (1, .int a1)] [] q (f_X12_feed q a1) := by
  unfold f_X12_feed
  refine r_iload_n (x := a1) gX12_feed_0.1 rfl ?_
  refine r_iconst (v := (0 : Int32)) gX12_feed_0.2.1 rfl ?_
  refine r_sipush (v := (255 : Int32)) gX12_feed_0.2.2.1 rfl ?_
  refine r_calli (k := 2) (idx := 118) (y := 189) (as := [.int a1, .int (0 : Int32), .int (255 : Int32)]) (rest := []) (L0 := [(0, .int a1), (1, .int (0 : Int32)), (2, .int (255 : Int32))]) gX12_feed_0.2.2.2.1 rfl rfl rfl rfl rfl vok_s rfl (r_dep (by decide) (e_X12_in hE q a1 (0 : Int32) (255 : Int32))) (fun r1 => ?_)
  refine r_if_ne (t := 13) gX12_feed_0.2.2.2.2.1 rfl (fun h5 => ?_) (fun h5 => ?_)
  · refine r_iconst (v := (-1 : Int32)) gX12_feed_0.2.2.2.2.2.1 rfl ?_
    exact r_ireturn gX12_feed_0.2.2.2.2.2.2.1 rfl rfl
  · refine r_aload_n (x := 60) gX12_feed_0.2.2.2.2.2.2.2.1 rfl ?_
    refine r_getI gX12_feed_0.2.2.2.2.2.2.2.2.1 (ff_12_178_60 hE) (by decide) ?_
    refine r_bipush (v := (120 : Int32)) gX12_feed_0.2.2.2.2.2.2.2.2.2.1 rfl ?_
    refine r_icmp_ne (t := 25) gX12_feed_0.2.2.2.2.2.2.2.2.2.2.1 rfl (fun h4 => ?_) (fun h4 => ?_)
    · refine r_bipush (v := (-3 : Int32)) gX12_feed_0.2.2.2.2.2.2.2.2.2.2.2.1 rfl ?_
      exact r_ireturn gX12_feed_0.2.2.2.2.2.2.2.2.2.2.2.2.1 rfl rfl
    · refine r_aload_n (x := 60) gX12_feed_0.2.2.2.2.2.2.2.2.2.2.2.2.2.1 rfl ?_
      refine r_getA gX12_feed_0.2.2.2.2.2.2.2.2.2.2.2.2.2.2.1 (fa_12_48_60 hE) ?_
      refine r_aload_n (x := 60) gX12_feed_0.2.2.2.2.2.2.2.2.2.2.2.2.2.2.2.1 rfl ?_
      refine r_getI gX12_feed_30.1 (ff_12_178_60 hE) (by decide) ?_
      refine r_iload_n (x := a1) gX12_feed_30.2.1 rfl ?_
      refine r_i2b gX12_feed_30.2.2.1 ?_
      refine r_bastore gX12_feed_30.2.2.2.1 (ar_73 hE) ?_
      refine r_nmS fun q2 _ => ?_
      refine r_aload_n (x := 60) gX12_feed_30.2.2.2.2.1 rfl ?_
      refine r_dup gX12_feed_30.2.2.2.2.2.1 rfl ?_
      refine r_getI gX12_feed_30.2.2.2.2.2.2.1 (ff_12_178_60 hE) (by decide) ?_
      refine r_iconst (v := (1 : Int32)) gX12_feed_30.2.2.2.2.2.2.2.1 rfl ?_
      refine r_iadd gX12_feed_30.2.2.2.2.2.2.2.2.1 ?_
      refine r_putI gX12_feed_30.2.2.2.2.2.2.2.2.2.1 (ff_12_178_60 hE) ?_
      refine r_nmS fun q3 _ => ?_
      refine r_aload_n (x := 60) gX12_feed_30.2.2.2.2.2.2.2.2.2.2.1 rfl ?_
      refine r_getI gX12_feed_30.2.2.2.2.2.2.2.2.2.2.2.1 (ff_12_178_60 hE) (by decide) ?_
      exact r_ireturn gX12_feed_30.2.2.2.2.2.2.2.2.2.2.2.2.1 rfl rfl
def b_X11_of_12 (q : SS) (l1 : Int32) (l2 : Int32) : Option (Int32 × SS) :=
  (f_X10_isPerson q l1).bind fun r1 =>
  if r1 = 0 then
  (some ((-1 : Int32), q))
  else
  (if l2 = (9 : Int32) then
  ((f_X11_now q).bind fun r2 =>
  (f_X8_heldBy r2 l1).bind fun r3 =>
  some (r3, r2))
  else
  ((f_X11_now q).bind fun r4 =>
  (f_X8_realsOf r4 l1).bind fun r5 =>
  some (r5, r4)))
theorem rb_X11_of_12 {E : EE} (hE : GE E) (q : SS) (l1 : Int32) (l2 : Int32) : R E (κI E) 4 144 12 [(0, .ref 0), (1, .int l1), (2, .int l2)] [] q (b_X11_of_12 q l1 l2) := by
  unfold b_X11_of_12
  refine r_aload_n (x := 0) gX11_of_0.2.2.2.2.2.2.1 rfl ?_
  refine r_getA gX11_of_0.2.2.2.2.2.2.2.1 (fa_11_10_0 hE) ?_
  refine r_iload_n (x := l1) gX11_of_0.2.2.2.2.2.2.2.2.1 rfl ?_
  refine r_calli (k := 0) (idx := 140) (y := 128) (as := [.ref 1, .int l1]) (rest := []) (L0 := [(0, .ref 1), (1, .int l1)]) gX11_of_0.2.2.2.2.2.2.2.2.2.1 rfl rfl rfl rfl rfl (vok_v (ob_1 hE) rfl) rfl (r_dep (by decide) (e_X10_isPerson hE q l1)) (fun r1 => ?_)
  refine r_if_ne (t := 25) gX11_of_0.2.2.2.2.2.2.2.2.2.2.1 rfl (fun h7 => ?_) (fun h7 => ?_)
  · refine r_iconst (v := (-1 : Int32)) gX11_of_0.2.2.2.2.2.2.2.2.2.2.2.1 rfl ?_
    exact r_ireturn gX11_of_0.2.2.2.2.2.2.2.2.2.2.2.2.1 rfl rfl
  · refine r_iload_n (x := l2) gX11_of_0.2.2.2.2.2.2.2.2.2.2.2.2.2.1 rfl ?_
    refine r_bipush (v := (9 : Int32)) gX11_of_0.2.2.2.2.2.2.2.2.2.2.2.2.2.2.1 rfl ?_
    refine r_icmp_ne (t := 42) gX11_of_0.2.2.2.2.2.2.2.2.2.2.2.2.2.2.2.1 rfl (fun h6 => ?_) (fun h6 => ?_)
    · refine r_aload_n (x := 0) gX11_of_31.1 rfl ?_
      refine r_callA (k := 0) (idx := 143) (y := 148) (as := [.ref 0]) (rest := []) (L0 := [(0, .ref 0)]) gX11_of_31.2.1 rfl rfl rfl rfl rfl (vok_v (ob_0 hE) rfl) rfl (r_dep (by decide) (e_X11_now hE q)) (fun r2 => ?_)
      refine r_iload_n (x := l1) gX11_of_31.2.2.1 rfl ?_
      refine r_calli (k := 0) (idx := 147) (y := 100) (as := [.ref 24, .int l1]) (rest := []) (L0 := [(0, .ref 24), (1, .int l1)]) gX11_of_31.2.2.2.1 rfl rfl rfl rfl rfl (vok_v (ob_24 hE) rfl) rfl (r_dep (by decide) (e_X8_heldBy hE r2 l1)) (fun r3 => ?_)
      refine r_goto (t := 50) gX11_of_31.2.2.2.2.1 rfl ?_
      exact r_ireturn gX11_of_31.2.2.2.2.2.2.2.2.2.1 rfl rfl
    · refine r_aload_n (x := 0) gX11_of_31.2.2.2.2.2.1 rfl ?_
      refine r_callA (k := 0) (idx := 143) (y := 148) (as := [.ref 0]) (rest := []) (L0 := [(0, .ref 0)]) gX11_of_31.2.2.2.2.2.2.1 rfl rfl rfl rfl rfl (vok_v (ob_0 hE) rfl) rfl (r_dep (by decide) (e_X11_now hE q)) (fun r4 => ?_)
      refine r_iload_n (x := l1) gX11_of_31.2.2.2.2.2.2.2.1 rfl ?_
      refine r_calli (k := 0) (idx := 150) (y := 101) (as := [.ref 24, .int l1]) (rest := []) (L0 := [(0, .ref 24), (1, .int l1)]) gX11_of_31.2.2.2.2.2.2.2.2.1 rfl rfl rfl rfl rfl (vok_v (ob_24 hE) rfl) rfl (r_dep (by decide) (e_X8_realsOf hE r4 l1)) (fun r5 => ?_)
      exact r_ireturn gX11_of_31.2.2.2.2.2.2.2.2.2.1 rfl rfl
def f_X11_of (q : SS) (a1 : Int32) (a2 : Int32) : Option (Int32 × SS) :=
  if a2 = (9 : Int32) then
  (b_X11_of_12 q a1 a2)
  else
  (if a2 = (10 : Int32) then
  (b_X11_of_12 q a1 a2)
  else
  ((f_X10_hasNumber q a2 a1).bind fun r8 =>
  if r8 = 0 then
  (some ((-1 : Int32), q))
  else
  ((f_X10_get q a2 a1).bind fun r9 =>
  some (r9, q))))
theorem e_X11_of {E : EE} (hE : GE E) (q : SS) (a1 : Int32) (a2 : Int32) : R E (κI E) 4 144 0 [(0, .ref 0), (1, .int a1), (2, .int a2)] [] q (f_X11_of q a1 a2) := by
  unfold f_X11_of
  refine r_iload_n (x := a2) gX11_of_0.1 rfl ?_
  refine r_bipush (v := (9 : Int32)) gX11_of_0.2.1 rfl ?_
  refine r_icmp_eq (t := 12) gX11_of_0.2.2.1 rfl (fun h12 => ?_) (fun h12 => ?_)
  · exact r_sub (L' := [(0, .ref 0), (1, .int a1), (2, .int a2)]) (sub_c rfl (sub_c rfl (sub_c rfl sub_n))) (rb_X11_of_12 hE q a1 a2)
  · refine r_iload_n (x := a2) gX11_of_0.2.2.2.1 rfl ?_
    refine r_bipush (v := (10 : Int32)) gX11_of_0.2.2.2.2.1 rfl ?_
    refine r_icmp_ne (t := 51) gX11_of_0.2.2.2.2.2.1 rfl (fun h11 => ?_) (fun h11 => ?_)
    · exact r_sub (L' := [(0, .ref 0), (1, .int a1), (2, .int a2)]) (sub_c rfl (sub_c rfl (sub_c rfl sub_n))) (rb_X11_of_12 hE q a1 a2)
    · refine r_aload_n (x := 0) gX11_of_31.2.2.2.2.2.2.2.2.2.2.1 rfl ?_
      refine r_getA gX11_of_31.2.2.2.2.2.2.2.2.2.2.2.1 (fa_11_10_0 hE) ?_
      refine r_iload_n (x := a2) gX11_of_31.2.2.2.2.2.2.2.2.2.2.2.2.1 rfl ?_
      refine r_iload_n (x := a1) gX11_of_31.2.2.2.2.2.2.2.2.2.2.2.2.2.1 rfl ?_
      refine r_calli (k := 0) (idx := 126) (y := 132) (as := [.ref 1, .int a2, .int a1]) (rest := []) (L0 := [(0, .ref 1), (1, .int a2), (2, .int a1)]) gX11_of_31.2.2.2.2.2.2.2.2.2.2.2.2.2.2.1 rfl rfl rfl rfl rfl (vok_v (ob_1 hE) rfl) rfl (r_dep (by decide) (e_X10_hasNumber hE q a2 a1)) (fun r8 => ?_)
      refine r_if_eq (t := 75) gX11_of_31.2.2.2.2.2.2.2.2.2.2.2.2.2.2.2.1 rfl (fun h10 => ?_) (fun h10 => ?_)
      · refine r_iconst (v := (-1 : Int32)) gX11_of_63.2.2.2.2.2.2.1 rfl ?_
        exact r_ireturn gX11_of_63.2.2.2.2.2.2.2.1 rfl rfl
      · refine r_aload_n (x := 0) gX11_of_63.1 rfl ?_
        refine r_getA gX11_of_63.2.1 (fa_11_10_0 hE) ?_
        refine r_iload_n (x := a2) gX11_of_63.2.2.1 rfl ?_
        refine r_iload_n (x := a1) gX11_of_63.2.2.2.1 rfl ?_
        refine r_calli (k := 0) (idx := 129) (y := 134) (as := [.ref 1, .int a2, .int a1]) (rest := []) (L0 := [(0, .ref 1), (1, .int a2), (2, .int a1)]) gX11_of_63.2.2.2.2.1 rfl rfl rfl rfl rfl (vok_v (ob_1 hE) rfl) rfl (r_dep (by decide) (e_X10_get hE q a2 a1)) (fun r9 => ?_)
        refine r_goto (t := 76) gX11_of_63.2.2.2.2.2.1 rfl ?_
        exact r_ireturn gX11_of_63.2.2.2.2.2.2.2.1 rfl rfl
def f_X12_isPlace (q : SS) (a1 : Int32) (a2 : Int32) : Option Int32 :=
  (f_X12_in q a2 (0 : Int32) (3 : Int32)).bind fun r1 =>
  if r1 = 0 then
  ((f_X12_in q a2 (4 : Int32) (6 : Int32)).bind fun r2 =>
  if r2 = 0 then
  ((f_X12_in q a2 (7 : Int32) (8 : Int32)).bind fun r3 =>
  if r3 = 0 then
  (some (0 : Int32))
  else
  (if a1 = 0 then
  (some (1 : Int32))
  else
  (some (0 : Int32))))
  else
  ((f_X12_isTicket q a1).bind fun r6 =>
  if r6 = 0 ∨ r6 = 1 then some r6 else none))
  else
  ((f_X12_isOne q a1).bind fun r8 =>
  if r8 = 0 ∨ r8 = 1 then some r8 else none)
theorem e_X12_isPlace {E : EE} (hE : GE E) (q : SS) (a1 : Int32) (a2 : Int32) : R E (κi E q) 2 203 0 [(0, .ref 60), (1, .int a1), (2, .int a2)] [] q (f_X12_isPlace q a1 a2) := by
  unfold f_X12_isPlace
  refine r_iload_n (x := a2) gX12_isPlace_0.1 rfl ?_
  refine r_iconst (v := (0 : Int32)) gX12_isPlace_0.2.1 rfl ?_
  refine r_iconst (v := (3 : Int32)) gX12_isPlace_0.2.2.1 rfl ?_
  refine r_calli (k := 2) (idx := 118) (y := 189) (as := [.int a2, .int (0 : Int32), .int (3 : Int32)]) (rest := []) (L0 := [(0, .int a2), (1, .int (0 : Int32)), (2, .int (3 : Int32))]) gX12_isPlace_0.2.2.2.1 rfl rfl rfl rfl rfl vok_s rfl (r_dep (by decide) (e_X12_in hE q a2 (0 : Int32) (3 : Int32))) (fun r1 => ?_)
  refine r_if_eq (t := 17) gX12_isPlace_0.2.2.2.2.1 rfl (fun h9 => ?_) (fun h9 => ?_)
  · refine r_iload_n (x := a2) gX12_isPlace_0.2.2.2.2.2.2.2.2.2.1 rfl ?_
    refine r_iconst (v := (4 : Int32)) gX12_isPlace_0.2.2.2.2.2.2.2.2.2.2.1 rfl ?_
    refine r_bipush (v := (6 : Int32)) gX12_isPlace_0.2.2.2.2.2.2.2.2.2.2.2.1 rfl ?_
    refine r_calli (k := 2) (idx := 118) (y := 189) (as := [.int a2, .int (4 : Int32), .int (6 : Int32)]) (rest := []) (L0 := [(0, .int a2), (1, .int (4 : Int32)), (2, .int (6 : Int32))]) gX12_isPlace_0.2.2.2.2.2.2.2.2.2.2.2.2.1 rfl rfl rfl rfl rfl vok_s rfl (r_dep (by decide) (e_X12_in hE q a2 (4 : Int32) (6 : Int32))) (fun r2 => ?_)
    refine r_if_eq (t := 35) gX12_isPlace_0.2.2.2.2.2.2.2.2.2.2.2.2.2.1 rfl (fun h7 => ?_) (fun h7 => ?_)
    · refine r_iload_n (x := a2) gX12_isPlace_29.2.2.1 rfl ?_
      refine r_bipush (v := (7 : Int32)) gX12_isPlace_29.2.2.2.1 rfl ?_
      refine r_bipush (v := (8 : Int32)) gX12_isPlace_29.2.2.2.2.1 rfl ?_
      refine r_calli (k := 2) (idx := 118) (y := 189) (as := [.int a2, .int (7 : Int32), .int (8 : Int32)]) (rest := []) (L0 := [(0, .int a2), (1, .int (7 : Int32)), (2, .int (8 : Int32))]) gX12_isPlace_29.2.2.2.2.2.1 rfl rfl rfl rfl rfl vok_s rfl (r_dep (by decide) (e_X12_in hE q a2 (7 : Int32) (8 : Int32))) (fun r3 => ?_)
      refine r_if_eq (t := 54) gX12_isPlace_29.2.2.2.2.2.2.1 rfl (fun h5 => ?_) (fun h5 => ?_)
      · refine r_iconst (v := (0 : Int32)) gX12_isPlace_29.2.2.2.2.2.2.2.2.2.2.2.1 rfl ?_
        exact r_ireturn gX12_isPlace_29.2.2.2.2.2.2.2.2.2.2.2.2.1 rfl rfl
      · refine r_iload_n (x := a1) gX12_isPlace_29.2.2.2.2.2.2.2.1 rfl ?_
        refine r_if_ne (t := 54) gX12_isPlace_29.2.2.2.2.2.2.2.2.1 rfl (fun h4 => ?_) (fun h4 => ?_)
        · refine r_iconst (v := (1 : Int32)) gX12_isPlace_29.2.2.2.2.2.2.2.2.2.1 rfl ?_
          refine r_goto (t := 55) gX12_isPlace_29.2.2.2.2.2.2.2.2.2.2.1 rfl ?_
          exact r_ireturn gX12_isPlace_29.2.2.2.2.2.2.2.2.2.2.2.2.1 rfl rfl
        · refine r_iconst (v := (0 : Int32)) gX12_isPlace_29.2.2.2.2.2.2.2.2.2.2.2.1 rfl ?_
          exact r_ireturn gX12_isPlace_29.2.2.2.2.2.2.2.2.2.2.2.2.1 rfl rfl
    · refine r_aload_n (x := 60) gX12_isPlace_0.2.2.2.2.2.2.2.2.2.2.2.2.2.2.1 rfl ?_
      refine r_iload_n (x := a1) gX12_isPlace_0.2.2.2.2.2.2.2.2.2.2.2.2.2.2.2.1 rfl ?_
      refine r_calli (k := 0) (idx := 156) (y := 192) (as := [.ref 60, .int a1]) (rest := []) (L0 := [(0, .ref 60), (1, .int a1)]) gX12_isPlace_29.1 rfl rfl rfl rfl rfl (vok_v (ob_60 hE) rfl) rfl (r_dep (by decide) (e_X12_isTicket hE q a1)) (fun r6 => ?_)
      refine r_goto (t := 55) gX12_isPlace_29.2.1 rfl ?_
      exact r_zreturn gX12_isPlace_29.2.2.2.2.2.2.2.2.2.2.2.2.1 rfl rfl
  · refine r_aload_n (x := 60) gX12_isPlace_0.2.2.2.2.2.1 rfl ?_
    refine r_iload_n (x := a1) gX12_isPlace_0.2.2.2.2.2.2.1 rfl ?_
    refine r_calli (k := 0) (idx := 125) (y := 191) (as := [.ref 60, .int a1]) (rest := []) (L0 := [(0, .ref 60), (1, .int a1)]) gX12_isPlace_0.2.2.2.2.2.2.2.1 rfl rfl rfl rfl rfl (vok_v (ob_60 hE) rfl) rfl (r_dep (by decide) (e_X12_isOne hE q a1)) (fun r8 => ?_)
    refine r_goto (t := 55) gX12_isPlace_0.2.2.2.2.2.2.2.2.1 rfl ?_
    exact r_zreturn gX12_isPlace_29.2.2.2.2.2.2.2.2.2.2.2.2.1 rfl rfl
def f_X12_valueAt (q : SS) (a1 : Int32) (a2 : Int32) : Option Int32 :=
  sw a1 [(0, (if vin a2 6 then
  some (q.1 61 a2.toNatClampNeg)
  else none)), (1, (if vin a2 6 then
  some (q.1 62 a2.toNatClampNeg)
  else none)), (2, (if vin a2 6 then
  some (q.1 63 a2.toNatClampNeg)
  else none)), (3, (if vin a2 6 then
  some (q.1 64 a2.toNatClampNeg)
  else none)), (4, (if vin a2 12 then
  some (q.1 65 a2.toNatClampNeg)
  else none)), (5, (if vin a2 12 then
  some (q.1 66 a2.toNatClampNeg)
  else none)), (6, (if vin a2 12 then
  some (q.1 67 a2.toNatClampNeg)
  else none))]
  (if vin (a1 - (7 : Int32)) 2 then
  some (q.1 68 (a1 - (7 : Int32)).toNatClampNeg)
  else none)
theorem e_X12_valueAt {E : EE} (hE : GE E) (q : SS) (a1 : Int32) (a2 : Int32) : R E (κi E q) 0 198 0 [(0, .ref 60), (1, .int a1), (2, .int a2)] [] q (f_X12_valueAt q a1 a2) := by
  unfold f_X12_valueAt
  refine r_iload_n (x := a1) gX12_valueAt_0.1 rfl ?_
  refine r_sw1 (fun h1 => ?_) (fun h1 => ?_)
  · refine r_jmp (t := 44) dX12_valueAt_1 rfl (by rw [h1]; rfl) ?_
    refine r_aload_n (x := 60) gX12_valueAt_44.1 rfl ?_
    refine r_getA gX12_valueAt_44.2.1 (fa_12_9_60 hE) ?_
    refine r_iload_n (x := a2) gX12_valueAt_44.2.2.1 rfl ?_
    refine r_iaload gX12_valueAt_44.2.2.2.1 (ar_61 hE) ?_
    exact r_ireturn gX12_valueAt_44.2.2.2.2.1 rfl rfl
  refine r_sw1 (fun h2 => ?_) (fun h2 => ?_)
  · refine r_jmp (t := 51) dX12_valueAt_1 rfl (by rw [h2]; rfl) ?_
    refine r_aload_n (x := 60) gX12_valueAt_44.2.2.2.2.2.1 rfl ?_
    refine r_getA gX12_valueAt_44.2.2.2.2.2.2.1 (fa_12_15_60 hE) ?_
    refine r_iload_n (x := a2) gX12_valueAt_44.2.2.2.2.2.2.2.1 rfl ?_
    refine r_iaload gX12_valueAt_44.2.2.2.2.2.2.2.2.1 (ar_62 hE) ?_
    exact r_ireturn gX12_valueAt_44.2.2.2.2.2.2.2.2.2.1 rfl rfl
  refine r_sw1 (fun h3 => ?_) (fun h3 => ?_)
  · refine r_jmp (t := 58) dX12_valueAt_1 rfl (by rw [h3]; rfl) ?_
    refine r_aload_n (x := 60) gX12_valueAt_44.2.2.2.2.2.2.2.2.2.2.1 rfl ?_
    refine r_getA gX12_valueAt_44.2.2.2.2.2.2.2.2.2.2.2.1 (fa_12_18_60 hE) ?_
    refine r_iload_n (x := a2) gX12_valueAt_44.2.2.2.2.2.2.2.2.2.2.2.2.1 rfl ?_
    refine r_iaload gX12_valueAt_44.2.2.2.2.2.2.2.2.2.2.2.2.2.1 (ar_63 hE) ?_
    exact r_ireturn gX12_valueAt_44.2.2.2.2.2.2.2.2.2.2.2.2.2.2.1 rfl rfl
  refine r_sw1 (fun h4 => ?_) (fun h4 => ?_)
  · refine r_jmp (t := 65) dX12_valueAt_1 rfl (by rw [h4]; rfl) ?_
    refine r_aload_n (x := 60) gX12_valueAt_44.2.2.2.2.2.2.2.2.2.2.2.2.2.2.2.1 rfl ?_
    refine r_getA gX12_valueAt_66.1 (fa_12_21_60 hE) ?_
    refine r_iload_n (x := a2) gX12_valueAt_66.2.1 rfl ?_
    refine r_iaload gX12_valueAt_66.2.2.1 (ar_64 hE) ?_
    exact r_ireturn gX12_valueAt_66.2.2.2.1 rfl rfl
  refine r_sw1 (fun h5 => ?_) (fun h5 => ?_)
  · refine r_jmp (t := 72) dX12_valueAt_1 rfl (by rw [h5]; rfl) ?_
    refine r_aload_n (x := 60) gX12_valueAt_66.2.2.2.2.1 rfl ?_
    refine r_getA gX12_valueAt_66.2.2.2.2.2.1 (fa_12_24_60 hE) ?_
    refine r_iload_n (x := a2) gX12_valueAt_66.2.2.2.2.2.2.1 rfl ?_
    refine r_iaload gX12_valueAt_66.2.2.2.2.2.2.2.1 (ar_65 hE) ?_
    exact r_ireturn gX12_valueAt_66.2.2.2.2.2.2.2.2.1 rfl rfl
  refine r_sw1 (fun h6 => ?_) (fun h6 => ?_)
  · refine r_jmp (t := 79) dX12_valueAt_1 rfl (by rw [h6]; rfl) ?_
    refine r_aload_n (x := 60) gX12_valueAt_66.2.2.2.2.2.2.2.2.2.1 rfl ?_
    refine r_getA gX12_valueAt_66.2.2.2.2.2.2.2.2.2.2.1 (fa_12_27_60 hE) ?_
    refine r_iload_n (x := a2) gX12_valueAt_66.2.2.2.2.2.2.2.2.2.2.2.1 rfl ?_
    refine r_iaload gX12_valueAt_66.2.2.2.2.2.2.2.2.2.2.2.2.1 (ar_66 hE) ?_
    exact r_ireturn gX12_valueAt_66.2.2.2.2.2.2.2.2.2.2.2.2.2.1 rfl rfl
  refine r_sw1 (fun h7 => ?_) (fun h7 => ?_)
  · refine r_jmp (t := 86) dX12_valueAt_1 rfl (by rw [h7]; rfl) ?_
    refine r_aload_n (x := 60) gX12_valueAt_66.2.2.2.2.2.2.2.2.2.2.2.2.2.2.1 rfl ?_
    refine r_getA gX12_valueAt_66.2.2.2.2.2.2.2.2.2.2.2.2.2.2.2.1 (fa_12_30_60 hE) ?_
    refine r_iload_n (x := a2) gX12_valueAt_90.1 rfl ?_
    refine r_iaload gX12_valueAt_90.2.1 (ar_67 hE) ?_
    exact r_ireturn gX12_valueAt_90.2.2.1 rfl rfl
  refine r_jmp (t := 93) dX12_valueAt_1 rfl ?_ ?_
  · have h8 := sw_lo (v := a1.toInt) 0
    have h8 := sw_st h8 h1
    have h8 := sw_st h8 h2
    have h8 := sw_st h8 h3
    have h8 := sw_st h8 h4
    have h8 := sw_st h8 h5
    have h8 := sw_st h8 h6
    have h8 := sw_st h8 h7
    exact sw_df h8 (by decide) rfl
  refine r_aload_n (x := 60) gX12_valueAt_90.2.2.2.1 rfl ?_
  refine r_getA gX12_valueAt_90.2.2.2.2.1 (fa_12_33_60 hE) ?_
  refine r_iload_n (x := a1) gX12_valueAt_90.2.2.2.2.2.1 rfl ?_
  refine r_bipush (v := (7 : Int32)) gX12_valueAt_90.2.2.2.2.2.2.1 rfl ?_
  refine r_isub gX12_valueAt_90.2.2.2.2.2.2.2.1 ?_
  refine r_iaload gX12_valueAt_90.2.2.2.2.2.2.2.2.1 (ar_68 hE) ?_
  exact r_ireturn gX12_valueAt_90.2.2.2.2.2.2.2.2.2.1 rfl rfl
def f_X12_of (q : SS) (a1 : Int32) (a2 : Int32) : Option (Int32 × SS) :=
  (f_X12_in q a2 (9 : Int32) (10 : Int32)).bind fun r1 =>
  if r1 = 0 then
  ((f_X12_isPlace q a1 a2).bind fun r2 =>
  if r2 = 0 then
  (some ((-1 : Int32), q))
  else
  ((f_X12_valueAt q a2 a1).bind fun r3 =>
  some (r3, q)))
  else
  ((f_X12_isOne q a1).bind fun r5 =>
  if r5 = 0 then
  (some ((-1 : Int32), q))
  else
  ((f_X12_layNow q).bind fun r6 =>
  if a2 = (9 : Int32) then
  ((f_X12_manyOf r6 a1).bind fun r7 =>
  some (r7, r6))
  else
  ((f_X12_realOf r6 a1).bind fun r8 =>
  some (r8, r6))))
theorem e_X12_of {E : EE} (hE : GE E) (q : SS) (a1 : Int32) (a2 : Int32) : R E (κI E) 3 206 0 [(0, .ref 60), (1, .int a1), (2, .int a2)] [] q (f_X12_of q a1 a2) := by
  unfold f_X12_of
  refine r_iload_n (x := a2) gX12_of_0.1 rfl ?_
  refine r_bipush (v := (9 : Int32)) gX12_of_0.2.1 rfl ?_
  refine r_bipush (v := (10 : Int32)) gX12_of_0.2.2.1 rfl ?_
  refine r_calli (k := 2) (idx := 118) (y := 189) (as := [.int a2, .int (9 : Int32), .int (10 : Int32)]) (rest := []) (L0 := [(0, .int a2), (1, .int (9 : Int32)), (2, .int (10 : Int32))]) gX12_of_0.2.2.2.1 rfl rfl rfl rfl rfl vok_s rfl (r_dep (by decide) (e_X12_in hE q a2 (9 : Int32) (10 : Int32))) (fun r1 => ?_)
  refine r_if_eq (t := 45) gX12_of_0.2.2.2.2.1 rfl (fun h11 => ?_) (fun h11 => ?_)
  · refine r_aload_n (x := 60) gX12_of_31.2.2.2.2.2.2.2.2.1 rfl ?_
    refine r_iload_n (x := a1) gX12_of_31.2.2.2.2.2.2.2.2.2.1 rfl ?_
    refine r_iload_n (x := a2) gX12_of_31.2.2.2.2.2.2.2.2.2.2.1 rfl ?_
    refine r_calli (k := 0) (idx := 159) (y := 203) (as := [.ref 60, .int a1, .int a2]) (rest := []) (L0 := [(0, .ref 60), (1, .int a1), (2, .int a2)]) gX12_of_31.2.2.2.2.2.2.2.2.2.2.2.1 rfl rfl rfl rfl rfl (vok_v (ob_60 hE) rfl) rfl (r_dep (by decide) (e_X12_isPlace hE q a1 a2)) (fun r2 => ?_)
    refine r_if_eq (t := 63) gX12_of_31.2.2.2.2.2.2.2.2.2.2.2.2.1 rfl (fun h4 => ?_) (fun h4 => ?_)
    · refine r_iconst (v := (-1 : Int32)) gX12_of_57.2.2.1 rfl ?_
      exact r_ireturn gX12_of_57.2.2.2.1 rfl rfl
    · refine r_aload_n (x := 60) gX12_of_31.2.2.2.2.2.2.2.2.2.2.2.2.2.1 rfl ?_
      refine r_iload_n (x := a2) gX12_of_31.2.2.2.2.2.2.2.2.2.2.2.2.2.2.1 rfl ?_
      refine r_iload_n (x := a1) gX12_of_31.2.2.2.2.2.2.2.2.2.2.2.2.2.2.2.1 rfl ?_
      refine r_calli (k := 0) (idx := 142) (y := 198) (as := [.ref 60, .int a2, .int a1]) (rest := []) (L0 := [(0, .ref 60), (1, .int a2), (2, .int a1)]) gX12_of_57.1 rfl rfl rfl rfl rfl (vok_v (ob_60 hE) rfl) rfl (r_dep (by decide) (e_X12_valueAt hE q a2 a1)) (fun r3 => ?_)
      refine r_goto (t := 64) gX12_of_57.2.1 rfl ?_
      exact r_ireturn gX12_of_57.2.2.2.1 rfl rfl
  · refine r_aload_n (x := 60) gX12_of_0.2.2.2.2.2.1 rfl ?_
    refine r_iload_n (x := a1) gX12_of_0.2.2.2.2.2.2.1 rfl ?_
    refine r_calli (k := 0) (idx := 125) (y := 191) (as := [.ref 60, .int a1]) (rest := []) (L0 := [(0, .ref 60), (1, .int a1)]) gX12_of_0.2.2.2.2.2.2.2.1 rfl rfl rfl rfl rfl (vok_v (ob_60 hE) rfl) rfl (r_dep (by decide) (e_X12_isOne hE q a1)) (fun r5 => ?_)
    refine r_if_ne (t := 21) gX12_of_0.2.2.2.2.2.2.2.2.1 rfl (fun h10 => ?_) (fun h10 => ?_)
    · refine r_iconst (v := (-1 : Int32)) gX12_of_0.2.2.2.2.2.2.2.2.2.1 rfl ?_
      exact r_ireturn gX12_of_0.2.2.2.2.2.2.2.2.2.2.1 rfl rfl
    · refine r_aload_n (x := 60) gX12_of_0.2.2.2.2.2.2.2.2.2.2.2.1 rfl ?_
      refine r_callV (k := 0) (idx := 168) (y := 226) (as := [.ref 60]) (rest := []) (L0 := [(0, .ref 60)]) gX12_of_0.2.2.2.2.2.2.2.2.2.2.2.2.1 rfl rfl rfl rfl rfl (vok_v (ob_60 hE) rfl) rfl (r_dep (by decide) (e_X12_layNow hE q)) (fun r6 => ?_)
      refine r_iload_n (x := a2) gX12_of_0.2.2.2.2.2.2.2.2.2.2.2.2.2.1 rfl ?_
      refine r_bipush (v := (9 : Int32)) gX12_of_0.2.2.2.2.2.2.2.2.2.2.2.2.2.2.1 rfl ?_
      refine r_icmp_ne (t := 39) gX12_of_0.2.2.2.2.2.2.2.2.2.2.2.2.2.2.2.1 rfl (fun h9 => ?_) (fun h9 => ?_)
      · refine r_aload_n (x := 60) gX12_of_31.1 rfl ?_
        refine r_iload_n (x := a1) gX12_of_31.2.1 rfl ?_
        refine r_calli (k := 0) (idx := 171) (y := 227) (as := [.ref 60, .int a1]) (rest := []) (L0 := [(0, .ref 60), (1, .int a1)]) gX12_of_31.2.2.1 rfl rfl rfl rfl rfl (vok_v (ob_60 hE) rfl) rfl (r_dep (by decide) (e_X12_manyOf hE r6 a1)) (fun r7 => ?_)
        refine r_goto (t := 44) gX12_of_31.2.2.2.1 rfl ?_
        exact r_ireturn gX12_of_31.2.2.2.2.2.2.2.1 rfl rfl
      · refine r_aload_n (x := 60) gX12_of_31.2.2.2.2.1 rfl ?_
        refine r_iload_n (x := a1) gX12_of_31.2.2.2.2.2.1 rfl ?_
        refine r_calli (k := 0) (idx := 175) (y := 228) (as := [.ref 60, .int a1]) (rest := []) (L0 := [(0, .ref 60), (1, .int a1)]) gX12_of_31.2.2.2.2.2.2.1 rfl rfl rfl rfl rfl (vok_v (ob_60 hE) rfl) rfl (r_dep (by decide) (e_X12_realOf hE r6 a1)) (fun r8 => ?_)
        exact r_ireturn gX12_of_31.2.2.2.2.2.2.2.1 rfl rfl
def f_X10_mayBe (q : SS) (a1 : Int32) (a2 : Int32) : Option Int32 :=
  if a1 < 0 then
  (some (0 : Int32))
  else
  (if a1 ≤ (8 : Int32) then
  (if a1 = (4 : Int32) then
  ((f_X10_isPerson q a2).bind fun r1 =>
  if r1 = 0 ∨ r1 = 1 then some r1 else none)
  else
  (if a2 < 0 then
  (some (0 : Int32))
  else
  (if vin a1 9 then
  if (stV 3 a1.toNatClampNeg) < a2 then
  (some (0 : Int32))
  else
  (some (1 : Int32))
  else none)))
  else
  (some (0 : Int32)))
theorem e_X10_mayBe {E : EE} (hE : GE E) (q : SS) (a1 : Int32) (a2 : Int32) : R E (κi E q) 1 133 0 [(0, .ref 1), (1, .int a1), (2, .int a2)] [] q (f_X10_mayBe q a1 a2) := by
  unfold f_X10_mayBe
  refine r_iload_n (x := a1) gX10_mayBe_0.1 rfl ?_
  refine r_if_lt (t := 10) gX10_mayBe_0.2.1 rfl (fun h6 => ?_) (fun h6 => ?_)
  · refine r_iconst (v := (0 : Int32)) gX10_mayBe_0.2.2.2.2.2.1 rfl ?_
    exact r_ireturn gX10_mayBe_0.2.2.2.2.2.2.1 rfl rfl
  · refine r_iload_n (x := a1) gX10_mayBe_0.2.2.1 rfl ?_
    refine r_bipush (v := (8 : Int32)) gX10_mayBe_0.2.2.2.1 rfl ?_
    refine r_icmp_le (t := 12) gX10_mayBe_0.2.2.2.2.1 rfl (fun h5 => ?_) (fun h5 => ?_)
    · refine r_iload_n (x := a1) gX10_mayBe_0.2.2.2.2.2.2.2.1 rfl ?_
      refine r_iconst (v := (4 : Int32)) gX10_mayBe_0.2.2.2.2.2.2.2.2.1 rfl ?_
      refine r_icmp_ne (t := 25) gX10_mayBe_0.2.2.2.2.2.2.2.2.2.1 rfl (fun h4 => ?_) (fun h4 => ?_)
      · refine r_aload_n (x := 1) gX10_mayBe_0.2.2.2.2.2.2.2.2.2.2.1 rfl ?_
        refine r_iload_n (x := a2) gX10_mayBe_0.2.2.2.2.2.2.2.2.2.2.2.1 rfl ?_
        refine r_calli (k := 0) (idx := 31) (y := 128) (as := [.ref 1, .int a2]) (rest := []) (L0 := [(0, .ref 1), (1, .int a2)]) gX10_mayBe_0.2.2.2.2.2.2.2.2.2.2.2.2.1 rfl rfl rfl rfl rfl (vok_v (ob_1 hE) rfl) rfl (r_dep (by decide) (e_X10_isPerson hE q a2)) (fun r1 => ?_)
        refine r_goto (t := 43) gX10_mayBe_0.2.2.2.2.2.2.2.2.2.2.2.2.2.1 rfl ?_
        exact r_zreturn gX10_mayBe_29.2.2.2.2.2.2.2.2.1 rfl rfl
      · refine r_iload_n (x := a2) gX10_mayBe_0.2.2.2.2.2.2.2.2.2.2.2.2.2.2.1 rfl ?_
        refine r_if_lt (t := 42) gX10_mayBe_0.2.2.2.2.2.2.2.2.2.2.2.2.2.2.2.1 rfl (fun h3 => ?_) (fun h3 => ?_)
        · refine r_iconst (v := (0 : Int32)) gX10_mayBe_29.2.2.2.2.2.2.2.1 rfl ?_
          exact r_ireturn gX10_mayBe_29.2.2.2.2.2.2.2.2.1 rfl rfl
        · refine r_iload_n (x := a2) gX10_mayBe_29.1 rfl ?_
          refine r_gets (j := 3) gX10_mayBe_29.2.1 rfl ?_
          refine r_iload_n (x := a1) gX10_mayBe_29.2.2.1 rfl ?_
          refine r_stload (n := 9) gX10_mayBe_29.2.2.2.1 rfl rfl (by decide) ?_
          refine r_icmp_gt (t := 42) gX10_mayBe_29.2.2.2.2.1 rfl (fun h2 => ?_) (fun h2 => ?_)
          · refine r_iconst (v := (0 : Int32)) gX10_mayBe_29.2.2.2.2.2.2.2.1 rfl ?_
            exact r_ireturn gX10_mayBe_29.2.2.2.2.2.2.2.2.1 rfl rfl
          · refine r_iconst (v := (1 : Int32)) gX10_mayBe_29.2.2.2.2.2.1 rfl ?_
            refine r_goto (t := 43) gX10_mayBe_29.2.2.2.2.2.2.1 rfl ?_
            exact r_ireturn gX10_mayBe_29.2.2.2.2.2.2.2.2.1 rfl rfl
    · refine r_iconst (v := (0 : Int32)) gX10_mayBe_0.2.2.2.2.2.1 rfl ?_
      exact r_ireturn gX10_mayBe_0.2.2.2.2.2.2.1 rfl rfl
def f_X0_forgetOldest (q : SS)  : Option SS :=
  if cpok 40 40 (1 : Int32) (0 : Int32) (39 : Int32) then
  nm (sR q 53 (va_cpy (q.1 53) (q.1 53) (1 : Int32).toNatClampNeg (0 : Int32).toNatClampNeg (39 : Int32).toNatClampNeg)) fun q1 =>
  if cpok 40 40 (1 : Int32) (0 : Int32) (39 : Int32) then
  nm (sR q1 54 (va_cpy (q1.1 54) (q1.1 54) (1 : Int32).toNatClampNeg (0 : Int32).toNatClampNeg (39 : Int32).toNatClampNeg)) fun q2 =>
  if cpok 40 40 (1 : Int32) (0 : Int32) (39 : Int32) then
  nm (sR q2 55 (va_cpy (q2.1 55) (q2.1 55) (1 : Int32).toNatClampNeg (0 : Int32).toNatClampNeg (39 : Int32).toNatClampNeg)) fun q3 =>
  if cpok 40 40 (1 : Int32) (0 : Int32) (39 : Int32) then
  nm (sR q3 56 (va_cpy (q3.1 56) (q3.1 56) (1 : Int32).toNatClampNeg (0 : Int32).toNatClampNeg (39 : Int32).toNatClampNeg)) fun q4 =>
  nm (sI q4 52 5 (39 : Int32)) fun q5 =>
  some q5
  else none
  else none
  else none
  else none
theorem e_X0_forgetOldest {E : EE} (hE : GE E) (q : SS)  : R E (κV E) 1 4 0 [(0, .ref 52)] [] q (f_X0_forgetOldest q) := by
  unfold f_X0_forgetOldest
  refine r_aload_n (x := 52) gX0_forgetOldest_0.1 rfl ?_
  refine r_getA gX0_forgetOldest_0.2.1 (fa_0_13_52 hE) ?_
  refine r_iconst (v := (1 : Int32)) gX0_forgetOldest_0.2.2.1 rfl ?_
  refine r_aload_n (x := 52) gX0_forgetOldest_0.2.2.2.1 rfl ?_
  refine r_getA gX0_forgetOldest_0.2.2.2.2.1 (fa_0_13_52 hE) ?_
  refine r_iconst (v := (0 : Int32)) gX0_forgetOldest_0.2.2.2.2.2.1 rfl ?_
  refine r_bipush (v := (39 : Int32)) gX0_forgetOldest_0.2.2.2.2.2.2.1 rfl ?_
  refine r_cpyI gX0_forgetOldest_0.2.2.2.2.2.2.2.1 ⟨rfl, rfl, rfl⟩ (ar_53 hE) (ar_53 hE) rfl ?_
  refine r_nmS fun q1 _ => ?_
  refine r_aload_n (x := 52) gX0_forgetOldest_0.2.2.2.2.2.2.2.2.1 rfl ?_
  refine r_getA gX0_forgetOldest_0.2.2.2.2.2.2.2.2.2.1 (fa_0_17_52 hE) ?_
  refine r_iconst (v := (1 : Int32)) gX0_forgetOldest_0.2.2.2.2.2.2.2.2.2.2.1 rfl ?_
  refine r_aload_n (x := 52) gX0_forgetOldest_0.2.2.2.2.2.2.2.2.2.2.2.1 rfl ?_
  refine r_getA gX0_forgetOldest_0.2.2.2.2.2.2.2.2.2.2.2.2.1 (fa_0_17_52 hE) ?_
  refine r_iconst (v := (0 : Int32)) gX0_forgetOldest_0.2.2.2.2.2.2.2.2.2.2.2.2.2.1 rfl ?_
  refine r_bipush (v := (39 : Int32)) gX0_forgetOldest_0.2.2.2.2.2.2.2.2.2.2.2.2.2.2.1 rfl ?_
  refine r_cpyI gX0_forgetOldest_0.2.2.2.2.2.2.2.2.2.2.2.2.2.2.2.1 ⟨rfl, rfl, rfl⟩ (ar_54 hE) (ar_54 hE) rfl ?_
  refine r_nmS fun q2 _ => ?_
  refine r_aload_n (x := 52) gX0_forgetOldest_30.1 rfl ?_
  refine r_getA gX0_forgetOldest_30.2.1 (fa_0_20_52 hE) ?_
  refine r_iconst (v := (1 : Int32)) gX0_forgetOldest_30.2.2.1 rfl ?_
  refine r_aload_n (x := 52) gX0_forgetOldest_30.2.2.2.1 rfl ?_
  refine r_getA gX0_forgetOldest_30.2.2.2.2.1 (fa_0_20_52 hE) ?_
  refine r_iconst (v := (0 : Int32)) gX0_forgetOldest_30.2.2.2.2.2.1 rfl ?_
  refine r_bipush (v := (39 : Int32)) gX0_forgetOldest_30.2.2.2.2.2.2.1 rfl ?_
  refine r_cpyI gX0_forgetOldest_30.2.2.2.2.2.2.2.1 ⟨rfl, rfl, rfl⟩ (ar_55 hE) (ar_55 hE) rfl ?_
  refine r_nmS fun q3 _ => ?_
  refine r_aload_n (x := 52) gX0_forgetOldest_30.2.2.2.2.2.2.2.2.1 rfl ?_
  refine r_getA gX0_forgetOldest_30.2.2.2.2.2.2.2.2.2.1 (fa_0_23_52 hE) ?_
  refine r_iconst (v := (1 : Int32)) gX0_forgetOldest_30.2.2.2.2.2.2.2.2.2.2.1 rfl ?_
  refine r_aload_n (x := 52) gX0_forgetOldest_30.2.2.2.2.2.2.2.2.2.2.2.1 rfl ?_
  refine r_getA gX0_forgetOldest_30.2.2.2.2.2.2.2.2.2.2.2.2.1 (fa_0_23_52 hE) ?_
  refine r_iconst (v := (0 : Int32)) gX0_forgetOldest_30.2.2.2.2.2.2.2.2.2.2.2.2.2.1 rfl ?_
  refine r_bipush (v := (39 : Int32)) gX0_forgetOldest_30.2.2.2.2.2.2.2.2.2.2.2.2.2.2.1 rfl ?_
  refine r_cpyI gX0_forgetOldest_30.2.2.2.2.2.2.2.2.2.2.2.2.2.2.2.1 ⟨rfl, rfl, rfl⟩ (ar_56 hE) (ar_56 hE) rfl ?_
  refine r_nmS fun q4 _ => ?_
  refine r_aload_n (x := 52) gX0_forgetOldest_60.1 rfl ?_
  refine r_bipush (v := (39 : Int32)) gX0_forgetOldest_60.2.1 rfl ?_
  refine r_putI gX0_forgetOldest_60.2.2.1 (ff_0_26_52 hE) ?_
  refine r_nmS fun q5 _ => ?_
  exact r_return gX0_forgetOldest_60.2.2.2.1 rfl rfl
def b_X0_add_13 (q : SS) (l1 : Int32) (l2 : Int32) (l3 : Int32) (l4 : Int32) : Option SS :=
  if vin (q.1 52 5) 40 then
  nm (sI q 53 (q.1 52 5).toNatClampNeg l1) fun q1 =>
  if vin (q1.1 52 5) 40 then
  nm (sI q1 54 (q1.1 52 5).toNatClampNeg l2) fun q2 =>
  if vin (q2.1 52 5) 40 then
  nm (sI q2 55 (q2.1 52 5).toNatClampNeg l3) fun q3 =>
  if vin (q3.1 52 5) 40 then
  nm (sI q3 56 (q3.1 52 5).toNatClampNeg l4) fun q4 =>
  nm (sI q4 52 5 ((q4.1 52 5) + (1 : Int32))) fun q5 =>
  nm (sI q5 52 6 (0 : Int32)) fun q6 =>
  some q6
  else none
  else none
  else none
  else none
theorem rb_X0_add_13 {E : EE} (hE : GE E) (q : SS) (l1 : Int32) (l2 : Int32) (l3 : Int32) (l4 : Int32) : R E (κV E) 2 3 13 [(0, .ref 52), (1, .int l1), (2, .int l2), (3, .int l3), (4, .int l4)] [] q (b_X0_add_13 q l1 l2 l3 l4) := by
  unfold b_X0_add_13
  refine r_aload_n (x := 52) gX0_add_0.2.2.2.2.2.2.1 rfl ?_
  refine r_getA gX0_add_0.2.2.2.2.2.2.2.1 (fa_0_13_52 hE) ?_
  refine r_aload_n (x := 52) gX0_add_0.2.2.2.2.2.2.2.2.1 rfl ?_
  refine r_getI gX0_add_0.2.2.2.2.2.2.2.2.2.1 (ff_0_26_52 hE) (by decide) ?_
  refine r_iload_n (x := l1) gX0_add_0.2.2.2.2.2.2.2.2.2.2.1 rfl ?_
  refine r_iastore gX0_add_0.2.2.2.2.2.2.2.2.2.2.2.1 (ar_53 hE) ?_
  refine r_nmS fun q1 _ => ?_
  refine r_aload_n (x := 52) gX0_add_0.2.2.2.2.2.2.2.2.2.2.2.2.1 rfl ?_
  refine r_getA gX0_add_0.2.2.2.2.2.2.2.2.2.2.2.2.2.1 (fa_0_17_52 hE) ?_
  refine r_aload_n (x := 52) gX0_add_0.2.2.2.2.2.2.2.2.2.2.2.2.2.2.1 rfl ?_
  refine r_getI gX0_add_0.2.2.2.2.2.2.2.2.2.2.2.2.2.2.2.1 (ff_0_26_52 hE) (by decide) ?_
  refine r_iload_n (x := l2) gX0_add_31.1 rfl ?_
  refine r_iastore gX0_add_31.2.1 (ar_54 hE) ?_
  refine r_nmS fun q2 _ => ?_
  refine r_aload_n (x := 52) gX0_add_31.2.2.1 rfl ?_
  refine r_getA gX0_add_31.2.2.2.1 (fa_0_20_52 hE) ?_
  refine r_aload_n (x := 52) gX0_add_31.2.2.2.2.1 rfl ?_
  refine r_getI gX0_add_31.2.2.2.2.2.1 (ff_0_26_52 hE) (by decide) ?_
  refine r_iload_n (x := l3) gX0_add_31.2.2.2.2.2.2.1 rfl ?_
  refine r_iastore gX0_add_31.2.2.2.2.2.2.2.1 (ar_55 hE) ?_
  refine r_nmS fun q3 _ => ?_
  refine r_aload_n (x := 52) gX0_add_31.2.2.2.2.2.2.2.2.1 rfl ?_
  refine r_getA gX0_add_31.2.2.2.2.2.2.2.2.2.1 (fa_0_23_52 hE) ?_
  refine r_aload_n (x := 52) gX0_add_31.2.2.2.2.2.2.2.2.2.2.1 rfl ?_
  refine r_getI gX0_add_31.2.2.2.2.2.2.2.2.2.2.2.1 (ff_0_26_52 hE) (by decide) ?_
  refine r_iload (x := l4) gX0_add_31.2.2.2.2.2.2.2.2.2.2.2.2.1 rfl ?_
  refine r_iastore gX0_add_31.2.2.2.2.2.2.2.2.2.2.2.2.2.1 (ar_56 hE) ?_
  refine r_nmS fun q4 _ => ?_
  refine r_aload_n (x := 52) gX0_add_31.2.2.2.2.2.2.2.2.2.2.2.2.2.2.1 rfl ?_
  refine r_dup gX0_add_31.2.2.2.2.2.2.2.2.2.2.2.2.2.2.2.1 rfl ?_
  refine r_getI gX0_add_56.1 (ff_0_26_52 hE) (by decide) ?_
  refine r_iconst (v := (1 : Int32)) gX0_add_56.2.1 rfl ?_
  refine r_iadd gX0_add_56.2.2.1 ?_
  refine r_putI gX0_add_56.2.2.2.1 (ff_0_26_52 hE) ?_
  refine r_nmS fun q5 _ => ?_
  refine r_aload_n (x := 52) gX0_add_56.2.2.2.2.1 rfl ?_
  refine r_iconst (v := (0 : Int32)) gX0_add_56.2.2.2.2.2.1 rfl ?_
  refine r_putI gX0_add_56.2.2.2.2.2.2.1 (ff_0_30_52 hE) ?_
  refine r_nmS fun q6 _ => ?_
  exact r_return gX0_add_56.2.2.2.2.2.2.2.1 rfl rfl
def f_X0_add (q : SS) (a1 : Int32) (a2 : Int32) (a3 : Int32) (a4 : Int32) : Option SS :=
  if (q.1 52 5) < (40 : Int32) then
  (b_X0_add_13 q a1 a2 a3 a4)
  else
  ((f_X0_forgetOldest q).bind fun r7 =>
  b_X0_add_13 r7 a1 a2 a3 a4)
theorem e_X0_add {E : EE} (hE : GE E) (q : SS) (a1 : Int32) (a2 : Int32) (a3 : Int32) (a4 : Int32) : R E (κV E) 2 3 0 [(0, .ref 52), (1, .int a1), (2, .int a2), (3, .int a3), (4, .int a4)] [] q (f_X0_add q a1 a2 a3 a4) := by
  unfold f_X0_add
  refine r_aload_n (x := 52) gX0_add_0.1 rfl ?_
  refine r_getI gX0_add_0.2.1 (ff_0_26_52 hE) (by decide) ?_
  refine r_bipush (v := (40 : Int32)) gX0_add_0.2.2.1 rfl ?_
  refine r_icmp_lt (t := 13) gX0_add_0.2.2.2.1 rfl (fun h8 => ?_) (fun h8 => ?_)
  · exact r_sub (L' := [(0, .ref 52), (1, .int a1), (2, .int a2), (3, .int a3), (4, .int a4)]) (sub_c rfl (sub_c rfl (sub_c rfl (sub_c rfl (sub_c rfl sub_n))))) (rb_X0_add_13 hE q a1 a2 a3 a4)
  · refine r_aload_n (x := 52) gX0_add_0.2.2.2.2.1 rfl ?_
    refine r_callV (k := 0) (idx := 33) (y := 4) (as := [.ref 52]) (rest := []) (L0 := [(0, .ref 52)]) gX0_add_0.2.2.2.2.2.1 rfl rfl rfl rfl rfl (vok_v (ob_52 hE) rfl) rfl (r_dep (by decide) (e_X0_forgetOldest hE q)) (fun r7 => ?_)
    exact r_sub (L' := [(0, .ref 52), (1, .int a1), (2, .int a2), (3, .int a3), (4, .int a4)]) (sub_c rfl (sub_c rfl (sub_c rfl (sub_c rfl (sub_c rfl sub_n))))) (rb_X0_add_13 hE r7 a1 a2 a3 a4)
def f_X11_mend (q : SS) (a1 : Int32) (a2 : Int32) (a3 : Int32) : Option (Int32 × SS) :=
  (f_X10_hasNumber q a2 a1).bind fun r1 =>
  if r1 = 0 then
  (some ((-1 : Int32), q))
  else
  ((f_X10_mayBe q a2 a3).bind fun r2 =>
  if r2 = 0 then
  (some ((-1 : Int32), q))
  else
  ((f_X10_get q a2 a1).bind fun r3 =>
  if r3 = a3 then
  (some (r3, q))
  else
  ((f_X0_add q a2 a1 r3 a3).bind fun r4 =>
  (f_X10_set r4 a2 a1 a3).bind fun r5 =>
  some (r3, r5))))
theorem e_X11_mend {E : EE} (hE : GE E) (q : SS) (a1 : Int32) (a2 : Int32) (a3 : Int32) : R E (κI E) 3 143 0 [(0, .ref 0), (1, .int a1), (2, .int a2), (3, .int a3)] [] q (f_X11_mend q a1 a2 a3) := by
  unfold f_X11_mend
  refine r_aload_n (x := 0) gX11_mend_0.1 rfl ?_
  refine r_getA gX11_mend_0.2.1 (fa_11_10_0 hE) ?_
  refine r_iload_n (x := a2) gX11_mend_0.2.2.1 rfl ?_
  refine r_iload_n (x := a1) gX11_mend_0.2.2.2.1 rfl ?_
  refine r_calli (k := 0) (idx := 126) (y := 132) (as := [.ref 1, .int a2, .int a1]) (rest := []) (L0 := [(0, .ref 1), (1, .int a2), (2, .int a1)]) gX11_mend_0.2.2.2.2.1 rfl rfl rfl rfl rfl (vok_v (ob_1 hE) rfl) rfl (r_dep (by decide) (e_X10_hasNumber hE q a2 a1)) (fun r1 => ?_)
  refine r_if_eq (t := 24) gX11_mend_0.2.2.2.2.2.1 rfl (fun h8 => ?_) (fun h8 => ?_)
  · refine r_iconst (v := (-1 : Int32)) gX11_mend_0.2.2.2.2.2.2.2.2.2.2.2.2.1 rfl ?_
    exact r_ireturn gX11_mend_0.2.2.2.2.2.2.2.2.2.2.2.2.2.1 rfl rfl
  · refine r_aload_n (x := 0) gX11_mend_0.2.2.2.2.2.2.1 rfl ?_
    refine r_getA gX11_mend_0.2.2.2.2.2.2.2.1 (fa_11_10_0 hE) ?_
    refine r_iload_n (x := a2) gX11_mend_0.2.2.2.2.2.2.2.2.1 rfl ?_
    refine r_iload_n (x := a3) gX11_mend_0.2.2.2.2.2.2.2.2.2.1 rfl ?_
    refine r_calli (k := 0) (idx := 94) (y := 133) (as := [.ref 1, .int a2, .int a3]) (rest := []) (L0 := [(0, .ref 1), (1, .int a2), (2, .int a3)]) gX11_mend_0.2.2.2.2.2.2.2.2.2.2.1 rfl rfl rfl rfl rfl (vok_v (ob_1 hE) rfl) rfl (r_dep (by decide) (e_X10_mayBe hE q a2 a3)) (fun r2 => ?_)
    refine r_if_ne (t := 26) gX11_mend_0.2.2.2.2.2.2.2.2.2.2.2.1 rfl (fun h7 => ?_) (fun h7 => ?_)
    · refine r_iconst (v := (-1 : Int32)) gX11_mend_0.2.2.2.2.2.2.2.2.2.2.2.2.1 rfl ?_
      exact r_ireturn gX11_mend_0.2.2.2.2.2.2.2.2.2.2.2.2.2.1 rfl rfl
    · refine r_aload_n (x := 0) gX11_mend_0.2.2.2.2.2.2.2.2.2.2.2.2.2.2.1 rfl ?_
      refine r_getA gX11_mend_0.2.2.2.2.2.2.2.2.2.2.2.2.2.2.2.1 (fa_11_10_0 hE) ?_
      refine r_iload_n (x := a2) gX11_mend_30.1 rfl ?_
      refine r_iload_n (x := a1) gX11_mend_30.2.1 rfl ?_
      refine r_calli (k := 0) (idx := 129) (y := 134) (as := [.ref 1, .int a2, .int a1]) (rest := []) (L0 := [(0, .ref 1), (1, .int a2), (2, .int a1)]) gX11_mend_30.2.2.1 rfl rfl rfl rfl rfl (vok_v (ob_1 hE) rfl) rfl (r_dep (by decide) (e_X10_get hE q a2 a1)) (fun r3 => ?_)
      refine r_istore (L2 := [(0, .ref 0), (1, .int a1), (2, .int a2), (3, .int a3), (4, .int r3)]) gX11_mend_30.2.2.2.1 rfl rfl ?_
      refine r_iload (x := r3) gX11_mend_30.2.2.2.2.1 rfl ?_
      refine r_iload_n (x := a3) gX11_mend_30.2.2.2.2.2.1 rfl ?_
      refine r_icmp_eq (t := 65) gX11_mend_30.2.2.2.2.2.2.1 rfl (fun h6 => ?_) (fun h6 => ?_)
      · refine r_iload (x := r3) gX11_mend_59.2.2.2.2.1 rfl ?_
        exact r_ireturn gX11_mend_59.2.2.2.2.2.1 rfl rfl
      · refine r_aload_n (x := 0) gX11_mend_30.2.2.2.2.2.2.2.1 rfl ?_
        refine r_getA gX11_mend_30.2.2.2.2.2.2.2.2.1 (fa_11_83_0 hE) ?_
        refine r_iload_n (x := a2) gX11_mend_30.2.2.2.2.2.2.2.2.2.1 rfl ?_
        refine r_iload_n (x := a1) gX11_mend_30.2.2.2.2.2.2.2.2.2.2.1 rfl ?_
        refine r_iload (x := r3) gX11_mend_30.2.2.2.2.2.2.2.2.2.2.2.1 rfl ?_
        refine r_iload_n (x := a3) gX11_mend_30.2.2.2.2.2.2.2.2.2.2.2.2.1 rfl ?_
        refine r_callV (k := 0) (idx := 132) (y := 3) (as := [.ref 52, .int a2, .int a1, .int r3, .int a3]) (rest := []) (L0 := [(0, .ref 52), (1, .int a2), (2, .int a1), (3, .int r3), (4, .int a3)]) gX11_mend_30.2.2.2.2.2.2.2.2.2.2.2.2.2.1 rfl rfl rfl rfl rfl (vok_v (ob_52 hE) rfl) rfl (r_dep (by decide) (e_X0_add hE q a2 a1 r3 a3)) (fun r4 => ?_)
        refine r_aload_n (x := 0) gX11_mend_30.2.2.2.2.2.2.2.2.2.2.2.2.2.2.1 rfl ?_
        refine r_getA gX11_mend_30.2.2.2.2.2.2.2.2.2.2.2.2.2.2.2.1 (fa_11_10_0 hE) ?_
        refine r_iload_n (x := a2) gX11_mend_59.1 rfl ?_
        refine r_iload_n (x := a1) gX11_mend_59.2.1 rfl ?_
        refine r_iload_n (x := a3) gX11_mend_59.2.2.1 rfl ?_
        refine r_callV (k := 0) (idx := 136) (y := 135) (as := [.ref 1, .int a2, .int a1, .int a3]) (rest := []) (L0 := [(0, .ref 1), (1, .int a2), (2, .int a1), (3, .int a3)]) gX11_mend_59.2.2.2.1 rfl rfl rfl rfl rfl (vok_v (ob_1 hE) rfl) rfl (r_dep (by decide) (e_X10_set hE r4 a2 a1 a3)) (fun r5 => ?_)
        refine r_iload (x := r3) gX11_mend_59.2.2.2.2.1 rfl ?_
        exact r_ireturn gX11_mend_59.2.2.2.2.2.1 rfl rfl
def f_X12_mayHave (q : SS) (a1 : Int32) (a2 : Int32) : Option Int32 :=
  sw a1 [(0, ((f_X12_in q a2 (0 : Int32) (12 : Int32)).bind fun r2 =>
  if r2 = 0 ∨ r2 = 1 then some r2 else none)), (1, ((f_X12_in q a2 (0 : Int32) (1 : Int32)).bind fun r4 =>
  if r4 = 0 ∨ r4 = 1 then some r4 else none)), (2, ((f_X12_in q a2 (0 : Int32) (99 : Int32)).bind fun r6 =>
  if r6 = 0 ∨ r6 = 1 then some r6 else none)), (3, ((f_X12_in q a2 (0 : Int32) (9 : Int32)).bind fun r8 =>
  if r8 = 0 ∨ r8 = 1 then some r8 else none)), (4, ((f_X12_isOne q a2).bind fun r10 =>
  if r10 = 0 ∨ r10 = 1 then some r10 else none)), (5, ((f_X12_in q a2 (0 : Int32) (1 : Int32)).bind fun r12 =>
  if r12 = 0 ∨ r12 = 1 then some r12 else none)), (6, ((f_X12_in q a2 (0 : Int32) (4 : Int32)).bind fun r14 =>
  if r14 = 0 ∨ r14 = 1 then some r14 else none)), (7, ((f_X12_in q a2 (0 : Int32) (11 : Int32)).bind fun r16 =>
  if r16 = 0 ∨ r16 = 1 then some r16 else none))]
  ((f_X12_in q a2 (0 : Int32) (9 : Int32)).bind fun r17 =>
  if r17 = 0 ∨ r17 = 1 then some r17 else none)
theorem e_X12_mayHave {E : EE} (hE : GE E) (q : SS) (a1 : Int32) (a2 : Int32) : R E (κi E q) 2 204 0 [(0, .ref 60), (1, .int a1), (2, .int a2)] [] q (f_X12_mayHave q a1 a2) := by
  unfold f_X12_mayHave
  refine r_iload_n (x := a1) gX12_mayHave_0.1 rfl ?_
  refine r_sw1 (fun h1 => ?_) (fun h1 => ?_)
  · refine r_jmp (t := 48) dX12_mayHave_1 rfl (by rw [h1]; rfl) ?_
    refine r_iload_n (x := a2) gX12_mayHave_48.1 rfl ?_
    refine r_iconst (v := (0 : Int32)) gX12_mayHave_48.2.1 rfl ?_
    refine r_bipush (v := (12 : Int32)) gX12_mayHave_48.2.2.1 rfl ?_
    refine r_calli (k := 2) (idx := 118) (y := 189) (as := [.int a2, .int (0 : Int32), .int (12 : Int32)]) (rest := []) (L0 := [(0, .int a2), (1, .int (0 : Int32)), (2, .int (12 : Int32))]) gX12_mayHave_48.2.2.2.1 rfl rfl rfl rfl rfl vok_s rfl (r_dep (by decide) (e_X12_in hE q a2 (0 : Int32) (12 : Int32))) (fun r2 => ?_)
    exact r_zreturn gX12_mayHave_48.2.2.2.2.1 rfl rfl
  refine r_sw1 (fun h3 => ?_) (fun h3 => ?_)
  · refine r_jmp (t := 56) dX12_mayHave_1 rfl (by rw [h3]; rfl) ?_
    refine r_iload_n (x := a2) gX12_mayHave_48.2.2.2.2.2.1 rfl ?_
    refine r_iconst (v := (0 : Int32)) gX12_mayHave_48.2.2.2.2.2.2.1 rfl ?_
    refine r_iconst (v := (1 : Int32)) gX12_mayHave_48.2.2.2.2.2.2.2.1 rfl ?_
    refine r_calli (k := 2) (idx := 118) (y := 189) (as := [.int a2, .int (0 : Int32), .int (1 : Int32)]) (rest := []) (L0 := [(0, .int a2), (1, .int (0 : Int32)), (2, .int (1 : Int32))]) gX12_mayHave_48.2.2.2.2.2.2.2.2.1 rfl rfl rfl rfl rfl vok_s rfl (r_dep (by decide) (e_X12_in hE q a2 (0 : Int32) (1 : Int32))) (fun r4 => ?_)
    exact r_zreturn gX12_mayHave_48.2.2.2.2.2.2.2.2.2.1 rfl rfl
  refine r_sw1 (fun h5 => ?_) (fun h5 => ?_)
  · refine r_jmp (t := 63) dX12_mayHave_1 rfl (by rw [h5]; rfl) ?_
    refine r_iload_n (x := a2) gX12_mayHave_48.2.2.2.2.2.2.2.2.2.2.1 rfl ?_
    refine r_iconst (v := (0 : Int32)) gX12_mayHave_48.2.2.2.2.2.2.2.2.2.2.2.1 rfl ?_
    refine r_bipush (v := (99 : Int32)) gX12_mayHave_48.2.2.2.2.2.2.2.2.2.2.2.2.1 rfl ?_
    refine r_calli (k := 2) (idx := 118) (y := 189) (as := [.int a2, .int (0 : Int32), .int (99 : Int32)]) (rest := []) (L0 := [(0, .int a2), (1, .int (0 : Int32)), (2, .int (99 : Int32))]) gX12_mayHave_48.2.2.2.2.2.2.2.2.2.2.2.2.2.1 rfl rfl rfl rfl rfl vok_s rfl (r_dep (by decide) (e_X12_in hE q a2 (0 : Int32) (99 : Int32))) (fun r6 => ?_)
    exact r_zreturn gX12_mayHave_48.2.2.2.2.2.2.2.2.2.2.2.2.2.2.1 rfl rfl
  refine r_sw1 (fun h7 => ?_) (fun h7 => ?_)
  · refine r_jmp (t := 71) dX12_mayHave_1 rfl (by rw [h7]; rfl) ?_
    refine r_iload_n (x := a2) gX12_mayHave_48.2.2.2.2.2.2.2.2.2.2.2.2.2.2.2.1 rfl ?_
    refine r_iconst (v := (0 : Int32)) gX12_mayHave_72.1 rfl ?_
    refine r_bipush (v := (9 : Int32)) gX12_mayHave_72.2.1 rfl ?_
    refine r_calli (k := 2) (idx := 118) (y := 189) (as := [.int a2, .int (0 : Int32), .int (9 : Int32)]) (rest := []) (L0 := [(0, .int a2), (1, .int (0 : Int32)), (2, .int (9 : Int32))]) gX12_mayHave_72.2.2.1 rfl rfl rfl rfl rfl vok_s rfl (r_dep (by decide) (e_X12_in hE q a2 (0 : Int32) (9 : Int32))) (fun r8 => ?_)
    exact r_zreturn gX12_mayHave_72.2.2.2.1 rfl rfl
  refine r_sw1 (fun h9 => ?_) (fun h9 => ?_)
  · refine r_jmp (t := 79) dX12_mayHave_1 rfl (by rw [h9]; rfl) ?_
    refine r_aload_n (x := 60) gX12_mayHave_72.2.2.2.2.1 rfl ?_
    refine r_iload_n (x := a2) gX12_mayHave_72.2.2.2.2.2.1 rfl ?_
    refine r_calli (k := 0) (idx := 125) (y := 191) (as := [.ref 60, .int a2]) (rest := []) (L0 := [(0, .ref 60), (1, .int a2)]) gX12_mayHave_72.2.2.2.2.2.2.1 rfl rfl rfl rfl rfl (vok_v (ob_60 hE) rfl) rfl (r_dep (by decide) (e_X12_isOne hE q a2)) (fun r10 => ?_)
    exact r_zreturn gX12_mayHave_72.2.2.2.2.2.2.2.1 rfl rfl
  refine r_sw1 (fun h11 => ?_) (fun h11 => ?_)
  · refine r_jmp (t := 85) dX12_mayHave_1 rfl (by rw [h11]; rfl) ?_
    refine r_iload_n (x := a2) gX12_mayHave_72.2.2.2.2.2.2.2.2.1 rfl ?_
    refine r_iconst (v := (0 : Int32)) gX12_mayHave_72.2.2.2.2.2.2.2.2.2.1 rfl ?_
    refine r_iconst (v := (1 : Int32)) gX12_mayHave_72.2.2.2.2.2.2.2.2.2.2.1 rfl ?_
    refine r_calli (k := 2) (idx := 118) (y := 189) (as := [.int a2, .int (0 : Int32), .int (1 : Int32)]) (rest := []) (L0 := [(0, .int a2), (1, .int (0 : Int32)), (2, .int (1 : Int32))]) gX12_mayHave_72.2.2.2.2.2.2.2.2.2.2.2.1 rfl rfl rfl rfl rfl vok_s rfl (r_dep (by decide) (e_X12_in hE q a2 (0 : Int32) (1 : Int32))) (fun r12 => ?_)
    exact r_zreturn gX12_mayHave_72.2.2.2.2.2.2.2.2.2.2.2.2.1 rfl rfl
  refine r_sw1 (fun h13 => ?_) (fun h13 => ?_)
  · refine r_jmp (t := 92) dX12_mayHave_1 rfl (by rw [h13]; rfl) ?_
    refine r_iload_n (x := a2) gX12_mayHave_72.2.2.2.2.2.2.2.2.2.2.2.2.2.1 rfl ?_
    refine r_iconst (v := (0 : Int32)) gX12_mayHave_72.2.2.2.2.2.2.2.2.2.2.2.2.2.2.1 rfl ?_
    refine r_iconst (v := (4 : Int32)) gX12_mayHave_72.2.2.2.2.2.2.2.2.2.2.2.2.2.2.2.1 rfl ?_
    refine r_calli (k := 2) (idx := 118) (y := 189) (as := [.int a2, .int (0 : Int32), .int (4 : Int32)]) (rest := []) (L0 := [(0, .int a2), (1, .int (0 : Int32)), (2, .int (4 : Int32))]) gX12_mayHave_95.1 rfl rfl rfl rfl rfl vok_s rfl (r_dep (by decide) (e_X12_in hE q a2 (0 : Int32) (4 : Int32))) (fun r14 => ?_)
    exact r_zreturn gX12_mayHave_95.2.1 rfl rfl
  refine r_sw1 (fun h15 => ?_) (fun h15 => ?_)
  · refine r_jmp (t := 99) dX12_mayHave_1 rfl (by rw [h15]; rfl) ?_
    refine r_iload_n (x := a2) gX12_mayHave_95.2.2.1 rfl ?_
    refine r_iconst (v := (0 : Int32)) gX12_mayHave_95.2.2.2.1 rfl ?_
    refine r_bipush (v := (11 : Int32)) gX12_mayHave_95.2.2.2.2.1 rfl ?_
    refine r_calli (k := 2) (idx := 118) (y := 189) (as := [.int a2, .int (0 : Int32), .int (11 : Int32)]) (rest := []) (L0 := [(0, .int a2), (1, .int (0 : Int32)), (2, .int (11 : Int32))]) gX12_mayHave_95.2.2.2.2.2.1 rfl rfl rfl rfl rfl vok_s rfl (r_dep (by decide) (e_X12_in hE q a2 (0 : Int32) (11 : Int32))) (fun r16 => ?_)
    exact r_zreturn gX12_mayHave_95.2.2.2.2.2.2.1 rfl rfl
  refine r_jmp (t := 107) dX12_mayHave_1 rfl ?_ ?_
  · have h18 := sw_lo (v := a1.toInt) 0
    have h18 := sw_st h18 h1
    have h18 := sw_st h18 h3
    have h18 := sw_st h18 h5
    have h18 := sw_st h18 h7
    have h18 := sw_st h18 h9
    have h18 := sw_st h18 h11
    have h18 := sw_st h18 h13
    have h18 := sw_st h18 h15
    exact sw_df h18 (by decide) rfl
  refine r_iload_n (x := a2) gX12_mayHave_95.2.2.2.2.2.2.2.1 rfl ?_
  refine r_iconst (v := (0 : Int32)) gX12_mayHave_95.2.2.2.2.2.2.2.2.1 rfl ?_
  refine r_bipush (v := (9 : Int32)) gX12_mayHave_95.2.2.2.2.2.2.2.2.2.1 rfl ?_
  refine r_calli (k := 2) (idx := 118) (y := 189) (as := [.int a2, .int (0 : Int32), .int (9 : Int32)]) (rest := []) (L0 := [(0, .int a2), (1, .int (0 : Int32)), (2, .int (9 : Int32))]) gX12_mayHave_95.2.2.2.2.2.2.2.2.2.2.1 rfl rfl rfl rfl rfl vok_s rfl (r_dep (by decide) (e_X12_in hE q a2 (0 : Int32) (9 : Int32))) (fun r17 => ?_)
  exact r_zreturn gX12_mayHave_95.2.2.2.2.2.2.2.2.2.2.2.1 rfl rfl
def b_X12_changes_121 (q : SS) (l1 : Int32) (l2 : Int32) (l3 : Int32) (l4 : Int32) : Option (Int32 × SS) :=
  if vin (q.1 60 11) 40 then
  nm (sI q 69 (q.1 60 11).toNatClampNeg l1) fun q4 =>
  if vin (q4.1 60 11) 40 then
  nm (sI q4 70 (q4.1 60 11).toNatClampNeg l2) fun q5 =>
  if vin (q5.1 60 11) 40 then
  nm (sI q5 71 (q5.1 60 11).toNatClampNeg l4) fun q6 =>
  if vin (q6.1 60 11) 40 then
  nm (sI q6 72 (q6.1 60 11).toNatClampNeg l3) fun q7 =>
  nm (sI q7 60 11 ((q7.1 60 11) + (1 : Int32))) fun q8 =>
  (f_X12_lays q8 l1 l2 l3).bind fun r9 =>
  some (l4, r9)
  else none
  else none
  else none
  else none
theorem rb_X12_changes_121 {E : EE} (hE : GE E) (q : SS) (l1 : Int32) (l2 : Int32) (l3 : Int32) (l4 : Int32) : R E (κI E) 1 200 121 [(0, .ref 60), (1, .int l1), (2, .int l2), (3, .int l3), (4, .int l4)] [] q (b_X12_changes_121 q l1 l2 l3 l4) := by
  unfold b_X12_changes_121
  refine r_aload_n (x := 60) gX12_changes_111.2.2.2.2.2.2.1 rfl ?_
  refine r_getA gX12_changes_111.2.2.2.2.2.2.2.1 (fa_12_36_60 hE) ?_
  refine r_aload_n (x := 60) gX12_changes_111.2.2.2.2.2.2.2.2.1 rfl ?_
  refine r_getI gX12_changes_111.2.2.2.2.2.2.2.2.2.1 (ff_12_149_60 hE) (by decide) ?_
  refine r_iload_n (x := l1) gX12_changes_111.2.2.2.2.2.2.2.2.2.2.1 rfl ?_
  refine r_iastore gX12_changes_111.2.2.2.2.2.2.2.2.2.2.2.1 (ar_69 hE) ?_
  refine r_nmS fun q4 _ => ?_
  refine r_aload_n (x := 60) gX12_changes_111.2.2.2.2.2.2.2.2.2.2.2.2.1 rfl ?_
  refine r_getA gX12_changes_111.2.2.2.2.2.2.2.2.2.2.2.2.2.1 (fa_12_39_60 hE) ?_
  refine r_aload_n (x := 60) gX12_changes_111.2.2.2.2.2.2.2.2.2.2.2.2.2.2.1 rfl ?_
  refine r_getI gX12_changes_111.2.2.2.2.2.2.2.2.2.2.2.2.2.2.2.1 (ff_12_149_60 hE) (by decide) ?_
  refine r_iload_n (x := l2) gX12_changes_139.1 rfl ?_
  refine r_iastore gX12_changes_139.2.1 (ar_70 hE) ?_
  refine r_nmS fun q5 _ => ?_
  refine r_aload_n (x := 60) gX12_changes_139.2.2.1 rfl ?_
  refine r_getA gX12_changes_139.2.2.2.1 (fa_12_42_60 hE) ?_
  refine r_aload_n (x := 60) gX12_changes_139.2.2.2.2.1 rfl ?_
  refine r_getI gX12_changes_139.2.2.2.2.2.1 (ff_12_149_60 hE) (by decide) ?_
  refine r_iload (x := l4) gX12_changes_139.2.2.2.2.2.2.1 rfl ?_
  refine r_iastore gX12_changes_139.2.2.2.2.2.2.2.1 (ar_71 hE) ?_
  refine r_nmS fun q6 _ => ?_
  refine r_aload_n (x := 60) gX12_changes_139.2.2.2.2.2.2.2.2.1 rfl ?_
  refine r_getA gX12_changes_139.2.2.2.2.2.2.2.2.2.1 (fa_12_45_60 hE) ?_
  refine r_aload_n (x := 60) gX12_changes_139.2.2.2.2.2.2.2.2.2.2.1 rfl ?_
  refine r_getI gX12_changes_139.2.2.2.2.2.2.2.2.2.2.2.1 (ff_12_149_60 hE) (by decide) ?_
  refine r_iload_n (x := l3) gX12_changes_139.2.2.2.2.2.2.2.2.2.2.2.2.1 rfl ?_
  refine r_iastore gX12_changes_139.2.2.2.2.2.2.2.2.2.2.2.2.2.1 (ar_72 hE) ?_
  refine r_nmS fun q7 _ => ?_
  refine r_aload_n (x := 60) gX12_changes_139.2.2.2.2.2.2.2.2.2.2.2.2.2.2.1 rfl ?_
  refine r_dup gX12_changes_139.2.2.2.2.2.2.2.2.2.2.2.2.2.2.2.1 rfl ?_
  refine r_getI gX12_changes_164.1 (ff_12_149_60 hE) (by decide) ?_
  refine r_iconst (v := (1 : Int32)) gX12_changes_164.2.1 rfl ?_
  refine r_iadd gX12_changes_164.2.2.1 ?_
  refine r_putI gX12_changes_164.2.2.2.1 (ff_12_149_60 hE) ?_
  refine r_nmS fun q8 _ => ?_
  refine r_aload_n (x := 60) gX12_changes_164.2.2.2.2.1 rfl ?_
  refine r_iload_n (x := l1) gX12_changes_164.2.2.2.2.2.1 rfl ?_
  refine r_iload_n (x := l2) gX12_changes_164.2.2.2.2.2.2.1 rfl ?_
  refine r_iload_n (x := l3) gX12_changes_164.2.2.2.2.2.2.2.1 rfl ?_
  refine r_callV (k := 0) (idx := 152) (y := 199) (as := [.ref 60, .int l1, .int l2, .int l3]) (rest := []) (L0 := [(0, .ref 60), (1, .int l1), (2, .int l2), (3, .int l3)]) gX12_changes_164.2.2.2.2.2.2.2.2.1 rfl rfl rfl rfl rfl (vok_v (ob_60 hE) rfl) rfl (r_dep (by decide) (e_X12_lays hE q8 l1 l2 l3)) (fun r9 => ?_)
  refine r_iload (x := l4) gX12_changes_164.2.2.2.2.2.2.2.2.2.1 rfl ?_
  exact r_ireturn gX12_changes_164.2.2.2.2.2.2.2.2.2.2.1 rfl rfl
def b_X12_changes_34 : SS → Int32 → Int32 → Int32 → Int32 → Int32 → Option (Int32 × SS) :=
  fx6 (fun (rec_34 : SS → Int32 → Int32 → Int32 → Int32 → Int32 → Option (Int32 × SS)) (q : SS) (l1 : Int32) (l2 : Int32) (l3 : Int32) (l4 : Int32) (l5 : Int32) =>
  if (40 : Int32) ≤ l5 then
  (nm (sI q 60 11 ((q.1 60 11) - (1 : Int32))) fun q3 =>
  b_X12_changes_121 q3 l1 l2 l3 l4)
  else
  (if vin l5 40 then
  if vin (l5 - (1 : Int32)) 40 then
  nm (sI q 69 (l5 - (1 : Int32)).toNatClampNeg (q.1 69 l5.toNatClampNeg)) fun q10 =>
  if vin l5 40 then
  if vin (l5 - (1 : Int32)) 40 then
  nm (sI q10 70 (l5 - (1 : Int32)).toNatClampNeg (q10.1 70 l5.toNatClampNeg)) fun q11 =>
  if vin l5 40 then
  if vin (l5 - (1 : Int32)) 40 then
  nm (sI q11 71 (l5 - (1 : Int32)).toNatClampNeg (q11.1 71 l5.toNatClampNeg)) fun q12 =>
  if vin l5 40 then
  if vin (l5 - (1 : Int32)) 40 then
  nm (sI q12 72 (l5 - (1 : Int32)).toNatClampNeg (q12.1 72 l5.toNatClampNeg)) fun q13 =>
  rec_34 q13 l1 l2 l3 l4 (l5 + (1 : Int32))
  else none
  else none
  else none
  else none
  else none
  else none
  else none
  else none)) FU
theorem rb_X12_changes_34 {E : EE} (hE : GE E) (q : SS) (l1 : Int32) (l2 : Int32) (l3 : Int32) (l4 : Int32) (l5 : Int32) : R E (κI E) 1 200 34 [(0, .ref 60), (1, .int l1), (2, .int l2), (3, .int l3), (4, .int l4), (5, .int l5)] [] q (b_X12_changes_34 q l1 l2 l3 l4 l5) := by
  unfold b_X12_changes_34
  refine fx6_ok (P := fun q l1 l2 l3 l4 l5 o => R E (κI E) 1 200 34 [(0, .ref 60), (1, .int l1), (2, .int l2), (3, .int l3), (4, .int l4), (5, .int l5)] [] q o) (fun _ _ _ _ _ _ => r_no) (fun rec_34 hrec_34 q l1 l2 l3 l4 l5 => ?_) _ _ _ _ _ _ _
  refine r_iload (x := l5) gX12_changes_28.2.2.2.1 rfl ?_
  refine r_bipush (v := (40 : Int32)) gX12_changes_28.2.2.2.2.1 rfl ?_
  refine r_icmp_ge (t := 111) gX12_changes_28.2.2.2.2.2.1 rfl (fun h14 => ?_) (fun h14 => ?_)
  · refine r_aload_n (x := 60) gX12_changes_111.1 rfl ?_
    refine r_dup gX12_changes_111.2.1 rfl ?_
    refine r_getI gX12_changes_111.2.2.1 (ff_12_149_60 hE) (by decide) ?_
    refine r_iconst (v := (1 : Int32)) gX12_changes_111.2.2.2.1 rfl ?_
    refine r_isub gX12_changes_111.2.2.2.2.1 ?_
    refine r_putI gX12_changes_111.2.2.2.2.2.1 (ff_12_149_60 hE) ?_
    refine r_nmS fun q3 _ => ?_
    exact r_sub (L' := [(0, .ref 60), (1, .int l1), (2, .int l2), (3, .int l3), (4, .int l4)]) (sub_c rfl (sub_c rfl (sub_c rfl (sub_c rfl (sub_c rfl sub_n))))) (rb_X12_changes_121 hE q3 l1 l2 l3 l4)
  · refine r_aload_n (x := 60) gX12_changes_28.2.2.2.2.2.2.1 rfl ?_
    refine r_getA gX12_changes_28.2.2.2.2.2.2.2.1 (fa_12_36_60 hE) ?_
    refine r_iload (x := l5) gX12_changes_28.2.2.2.2.2.2.2.2.1 rfl ?_
    refine r_iconst (v := (1 : Int32)) gX12_changes_28.2.2.2.2.2.2.2.2.2.1 rfl ?_
    refine r_isub gX12_changes_28.2.2.2.2.2.2.2.2.2.2.1 ?_
    refine r_aload_n (x := 60) gX12_changes_28.2.2.2.2.2.2.2.2.2.2.2.1 rfl ?_
    refine r_getA gX12_changes_28.2.2.2.2.2.2.2.2.2.2.2.2.1 (fa_12_36_60 hE) ?_
    refine r_iload (x := l5) gX12_changes_28.2.2.2.2.2.2.2.2.2.2.2.2.2.1 rfl ?_
    refine r_iaload gX12_changes_28.2.2.2.2.2.2.2.2.2.2.2.2.2.2.1 (ar_69 hE) ?_
    refine r_iastore gX12_changes_28.2.2.2.2.2.2.2.2.2.2.2.2.2.2.2.1 (ar_69 hE) ?_
    refine r_nmS fun q10 _ => ?_
    refine r_aload_n (x := 60) gX12_changes_57.1 rfl ?_
    refine r_getA gX12_changes_57.2.1 (fa_12_39_60 hE) ?_
    refine r_iload (x := l5) gX12_changes_57.2.2.1 rfl ?_
    refine r_iconst (v := (1 : Int32)) gX12_changes_57.2.2.2.1 rfl ?_
    refine r_isub gX12_changes_57.2.2.2.2.1 ?_
    refine r_aload_n (x := 60) gX12_changes_57.2.2.2.2.2.1 rfl ?_
    refine r_getA gX12_changes_57.2.2.2.2.2.2.1 (fa_12_39_60 hE) ?_
    refine r_iload (x := l5) gX12_changes_57.2.2.2.2.2.2.2.1 rfl ?_
    refine r_iaload gX12_changes_57.2.2.2.2.2.2.2.2.1 (ar_70 hE) ?_
    refine r_iastore gX12_changes_57.2.2.2.2.2.2.2.2.2.1 (ar_70 hE) ?_
    refine r_nmS fun q11 _ => ?_
    refine r_aload_n (x := 60) gX12_changes_57.2.2.2.2.2.2.2.2.2.2.1 rfl ?_
    refine r_getA gX12_changes_57.2.2.2.2.2.2.2.2.2.2.2.1 (fa_12_42_60 hE) ?_
    refine r_iload (x := l5) gX12_changes_57.2.2.2.2.2.2.2.2.2.2.2.2.1 rfl ?_
    refine r_iconst (v := (1 : Int32)) gX12_changes_57.2.2.2.2.2.2.2.2.2.2.2.2.2.1 rfl ?_
    refine r_isub gX12_changes_57.2.2.2.2.2.2.2.2.2.2.2.2.2.2.1 ?_
    refine r_aload_n (x := 60) gX12_changes_57.2.2.2.2.2.2.2.2.2.2.2.2.2.2.2.1 rfl ?_
    refine r_getA gX12_changes_82.1 (fa_12_42_60 hE) ?_
    refine r_iload (x := l5) gX12_changes_82.2.1 rfl ?_
    refine r_iaload gX12_changes_82.2.2.1 (ar_71 hE) ?_
    refine r_iastore gX12_changes_82.2.2.2.1 (ar_71 hE) ?_
    refine r_nmS fun q12 _ => ?_
    refine r_aload_n (x := 60) gX12_changes_82.2.2.2.2.1 rfl ?_
    refine r_getA gX12_changes_82.2.2.2.2.2.1 (fa_12_45_60 hE) ?_
    refine r_iload (x := l5) gX12_changes_82.2.2.2.2.2.2.1 rfl ?_
    refine r_iconst (v := (1 : Int32)) gX12_changes_82.2.2.2.2.2.2.2.1 rfl ?_
    refine r_isub gX12_changes_82.2.2.2.2.2.2.2.2.1 ?_
    refine r_aload_n (x := 60) gX12_changes_82.2.2.2.2.2.2.2.2.2.1 rfl ?_
    refine r_getA gX12_changes_82.2.2.2.2.2.2.2.2.2.2.1 (fa_12_45_60 hE) ?_
    refine r_iload (x := l5) gX12_changes_82.2.2.2.2.2.2.2.2.2.2.2.1 rfl ?_
    refine r_iaload gX12_changes_82.2.2.2.2.2.2.2.2.2.2.2.2.1 (ar_72 hE) ?_
    refine r_iastore gX12_changes_82.2.2.2.2.2.2.2.2.2.2.2.2.2.1 (ar_72 hE) ?_
    refine r_nmS fun q13 _ => ?_
    refine r_iinc (x := l5) (v := (l5 + (1 : Int32))) (L2 := [(0, .ref 60), (1, .int l1), (2, .int l2), (3, .int l3), (4, .int l4), (5, .int (l5 + (1 : Int32)))]) gX12_changes_82.2.2.2.2.2.2.2.2.2.2.2.2.2.2.1 rfl rfl rfl rfl ?_
    refine r_goto (t := 34) gX12_changes_82.2.2.2.2.2.2.2.2.2.2.2.2.2.2.2.1 rfl ?_
    exact r_sub (L' := [(0, .ref 60), (1, .int l1), (2, .int l2), (3, .int l3), (4, .int l4), (5, .int (l5 + (1 : Int32)))]) (sub_c rfl (sub_c rfl (sub_c rfl (sub_c rfl (sub_c rfl (sub_c rfl sub_n)))))) (hrec_34 q13 l1 l2 l3 l4 (l5 + (1 : Int32)))
def f_X12_changes (q : SS) (a1 : Int32) (a2 : Int32) (a3 : Int32) : Option (Int32 × SS) :=
  (f_X12_valueAt q a1 a2).bind fun r1 =>
  if r1 = a3 then
  (some (r1, q))
  else
  (nm (sI q 60 12 (0 : Int32)) fun q2 =>
  if (q2.1 60 11) = (40 : Int32) then
  (b_X12_changes_34 q2 a1 a2 a3 r1 (1 : Int32))
  else
  (b_X12_changes_121 q2 a1 a2 a3 r1))
theorem e_X12_changes {E : EE} (hE : GE E) (q : SS) (a1 : Int32) (a2 : Int32) (a3 : Int32) : R E (κI E) 1 200 0 [(0, .ref 60), (1, .int a1), (2, .int a2), (3, .int a3)] [] q (f_X12_changes q a1 a2 a3) := by
  unfold f_X12_changes
  refine r_aload_n (x := 60) gX12_changes_0.1 rfl ?_
  refine r_iload_n (x := a1) gX12_changes_0.2.1 rfl ?_
  refine r_iload_n (x := a2) gX12_changes_0.2.2.1 rfl ?_
  refine r_calli (k := 0) (idx := 142) (y := 198) (as := [.ref 60, .int a1, .int a2]) (rest := []) (L0 := [(0, .ref 60), (1, .int a1), (2, .int a2)]) gX12_changes_0.2.2.2.1 rfl rfl rfl rfl rfl (vok_v (ob_60 hE) rfl) rfl (r_dep (by decide) (e_X12_valueAt hE q a1 a2)) (fun r1 => ?_)
  refine r_istore (L2 := [(0, .ref 60), (1, .int a1), (2, .int a2), (3, .int a3), (4, .int r1)]) gX12_changes_0.2.2.2.2.1 rfl rfl ?_
  refine r_iload (x := r1) gX12_changes_0.2.2.2.2.2.1 rfl ?_
  refine r_iload_n (x := a3) gX12_changes_0.2.2.2.2.2.2.1 rfl ?_
  refine r_icmp_ne (t := 17) gX12_changes_0.2.2.2.2.2.2.2.1 rfl (fun h16 => ?_) (fun h16 => ?_)
  · refine r_iload (x := r1) gX12_changes_0.2.2.2.2.2.2.2.2.1 rfl ?_
    exact r_ireturn gX12_changes_0.2.2.2.2.2.2.2.2.2.1 rfl rfl
  · refine r_aload_n (x := 60) gX12_changes_0.2.2.2.2.2.2.2.2.2.2.1 rfl ?_
    refine r_iconst (v := (0 : Int32)) gX12_changes_0.2.2.2.2.2.2.2.2.2.2.2.1 rfl ?_
    refine r_putI gX12_changes_0.2.2.2.2.2.2.2.2.2.2.2.2.1 (ff_12_146_60 hE) ?_
    refine r_nmS fun q2 _ => ?_
    refine r_aload_n (x := 60) gX12_changes_0.2.2.2.2.2.2.2.2.2.2.2.2.2.1 rfl ?_
    refine r_getI gX12_changes_0.2.2.2.2.2.2.2.2.2.2.2.2.2.2.1 (ff_12_149_60 hE) (by decide) ?_
    refine r_bipush (v := (40 : Int32)) gX12_changes_0.2.2.2.2.2.2.2.2.2.2.2.2.2.2.2.1 rfl ?_
    refine r_icmp_ne (t := 121) gX12_changes_28.1 rfl (fun h15 => ?_) (fun h15 => ?_)
    · refine r_iconst (v := (1 : Int32)) gX12_changes_28.2.1 rfl ?_
      refine r_istore (L2 := [(0, .ref 60), (1, .int a1), (2, .int a2), (3, .int a3), (4, .int r1), (5, .int (1 : Int32))]) gX12_changes_28.2.2.1 rfl rfl ?_
      exact r_sub (L' := [(0, .ref 60), (1, .int a1), (2, .int a2), (3, .int a3), (4, .int r1), (5, .int (1 : Int32))]) (sub_c rfl (sub_c rfl (sub_c rfl (sub_c rfl (sub_c rfl (sub_c rfl sub_n)))))) (rb_X12_changes_34 hE q2 a1 a2 a3 r1 (1 : Int32))
    · exact r_sub (L' := [(0, .ref 60), (1, .int a1), (2, .int a2), (3, .int a3), (4, .int r1)]) (sub_c rfl (sub_c rfl (sub_c rfl (sub_c rfl (sub_c rfl sub_n))))) (rb_X12_changes_121 hE q2 a1 a2 a3 r1)

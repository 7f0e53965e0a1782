def b_X12_line_66 (q : SS) (l1 : Int32) : Option SS :=
  if vin l1 122 then
  nm (sI q 78 l1.toNatClampNeg (((q.1 60 22).toInt16.toInt32).toInt16.toInt32)) fun q4 =>
  if vin (1 : Int32) 2 then
  if vin (1 : Int32) 2 then
  nm (sI q4 76 (1 : Int32).toNatClampNeg ((q4.1 76 (1 : Int32).toNatClampNeg) + (1 : Int32))) fun q5 =>
  some q5
  else none
  else none
  else none
theorem rb_X12_line_66 {E : EE} (hE : GE E) (q : SS) (l1 : Int32) : R E (κV E) 903 220 66 [(0, .ref 60), (1, .int l1)] [] q (b_X12_line_66 q l1) := by
  unfold b_X12_line_66
  refine r_aload_n (x := 60) dX12_line_66 rfl ?_
  refine r_getA dX12_line_67 (fa_12_65_60 hE) ?_
  refine r_iload_n (x := l1) dX12_line_70 rfl ?_
  refine r_aload_n (x := 60) dX12_line_71 rfl ?_
  refine r_getI dX12_line_72 (ff_12_187_60 hE) (by decide) ?_
  refine r_i2s dX12_line_75 ?_
  refine r_sastore dX12_line_76 (ar_78 hE) ?_
  refine r_nmS fun q4 _ => ?_
  refine r_aload_n (x := 60) dX12_line_77 rfl ?_
  refine r_getA dX12_line_78 (fa_12_58_60 hE) ?_
  refine r_iconst (v := (1 : Int32)) dX12_line_81 rfl ?_
  refine r_dup2 dX12_line_82 ⟨rfl, rfl⟩ ?_
  refine r_iaload dX12_line_83 (ar_76 hE) ?_
  refine r_iconst (v := (1 : Int32)) dX12_line_84 rfl ?_
  refine r_iadd dX12_line_85 ?_
  refine r_iastore dX12_line_86 (ar_76 hE) ?_
  refine r_nmS fun q5 _ => ?_
  exact r_return dX12_line_87 rfl rfl
def f_X12_line (q : SS)  : Option SS :=
  if vin (1 : Int32) 2 then
  nm ((61 : Int32) + (q.1 76 (1 : Int32).toNatClampNeg)) fun v1 =>
  if vin v1 122 then
  nm (sI q 77 v1.toNatClampNeg (((q.1 60 22).toInt16.toInt32).toInt16.toInt32)) fun q2 =>
  (f_X12_either q2).bind fun r3 =>
  if 0 ≤ (r3.1 60 20) then
  (b_X12_line_66 r3 v1)
  else
  ((f_X12_look r3).bind fun r6 =>
  if r6 = (63 : Int32) then
  (nm (sI r3 60 19 ((r3.1 60 19) + (1 : Int32))) fun q7 =>
  if vin v1 122 then
  nm (sI q7 77 v1.toNatClampNeg (((q7.1 60 22).toInt16.toInt32).toInt16.toInt32)) fun q8 =>
  (f_X12_either q8).bind fun r9 =>
  b_X12_line_66 r9 v1
  else none)
  else
  (b_X12_line_66 r3 v1))
  else none
  else none
theorem e_X12_line {E : EE} (hE : GE E) (q : SS)  : R E (κV E) 903 220 0 [(0, .ref 60)] [] q (f_X12_line q) := by
  unfold f_X12_line
  refine r_bipush (v := (61 : Int32)) dX12_line_0 rfl ?_
  refine r_aload_n (x := 60) dX12_line_2 rfl ?_
  refine r_getA dX12_line_3 (fa_12_58_60 hE) ?_
  refine r_iconst (v := (1 : Int32)) dX12_line_6 rfl ?_
  refine r_iaload dX12_line_7 (ar_76 hE) ?_
  refine r_iadd dX12_line_8 ?_
  refine r_nmI fun v1 _ => ?_
  refine r_istore_n (L2 := [(0, .ref 60), (1, .int v1)]) dX12_line_9 rfl rfl ?_
  refine r_aload_n (x := 60) dX12_line_10 rfl ?_
  refine r_getA dX12_line_11 (fa_12_61_60 hE) ?_
  refine r_iload_n (x := v1) dX12_line_14 rfl ?_
  refine r_aload_n (x := 60) dX12_line_15 rfl ?_
  refine r_getI dX12_line_16 (ff_12_187_60 hE) (by decide) ?_
  refine r_i2s dX12_line_19 ?_
  refine r_sastore dX12_line_20 (ar_77 hE) ?_
  refine r_nmS fun q2 _ => ?_
  refine r_aload_n (x := 60) dX12_line_21 rfl ?_
  refine r_callV (k := 0) (idx := 214) (y := 219) (as := [.ref 60]) (rest := []) (L0 := [(0, .ref 60)]) dX12_line_22 rfl rfl rfl rfl rfl (vok_v (ob_60 hE) rfl) rfl (r_dep (by decide) (e_X12_either hE q2)) (fun r3 => ?_)
  refine r_aload_n (x := 60) dX12_line_25 rfl ?_
  refine r_getI dX12_line_26 (ff_12_184_60 hE) (by decide) ?_
  refine r_if_ge (t := 66) dX12_line_29 rfl (fun h11 => ?_) (fun h11 => ?_)
  · exact r_sub (L' := [(0, .ref 60), (1, .int v1)]) (sub_c rfl (sub_c rfl sub_n)) (rb_X12_line_66 hE r3 v1)
  · refine r_aload_n (x := 60) dX12_line_32 rfl ?_
    refine r_calli (k := 0) (idx := 196) (y := 208) (as := [.ref 60]) (rest := []) (L0 := [(0, .ref 60)]) dX12_line_33 rfl rfl rfl rfl rfl (vok_v (ob_60 hE) rfl) rfl (r_dep (by decide) (e_X12_look hE r3)) (fun r6 => ?_)
    refine r_bipush (v := (63 : Int32)) dX12_line_36 rfl ?_
    refine r_icmp_ne (t := 66) dX12_line_38 rfl (fun h10 => ?_) (fun h10 => ?_)
    · refine r_aload_n (x := 60) dX12_line_41 rfl ?_
      refine r_dup dX12_line_42 rfl ?_
      refine r_getI dX12_line_43 (ff_12_181_60 hE) (by decide) ?_
      refine r_iconst (v := (1 : Int32)) dX12_line_46 rfl ?_
      refine r_iadd dX12_line_47 ?_
      refine r_putI dX12_line_48 (ff_12_181_60 hE) ?_
      refine r_nmS fun q7 _ => ?_
      refine r_aload_n (x := 60) dX12_line_51 rfl ?_
      refine r_getA dX12_line_52 (fa_12_61_60 hE) ?_
      refine r_iload_n (x := v1) dX12_line_55 rfl ?_
      refine r_aload_n (x := 60) dX12_line_56 rfl ?_
      refine r_getI dX12_line_57 (ff_12_187_60 hE) (by decide) ?_
      refine r_i2s dX12_line_60 ?_
      refine r_sastore dX12_line_61 (ar_77 hE) ?_
      refine r_nmS fun q8 _ => ?_
      refine r_aload_n (x := 60) dX12_line_62 rfl ?_
      refine r_callV (k := 0) (idx := 214) (y := 219) (as := [.ref 60]) (rest := []) (L0 := [(0, .ref 60)]) dX12_line_63 rfl rfl rfl rfl rfl (vok_v (ob_60 hE) rfl) rfl (r_dep (by decide) (e_X12_either hE q8)) (fun r9 => ?_)
      exact r_sub (L' := [(0, .ref 60), (1, .int v1)]) (sub_c rfl (sub_c rfl sub_n)) (rb_X12_line_66 hE r9 v1)
    · exact r_sub (L' := [(0, .ref 60), (1, .int v1)]) (sub_c rfl (sub_c rfl sub_n)) (rb_X12_line_66 hE r3 v1)
def b_X12_readText_177 : SS → Int32 → Int32 → Option (Int32 × SS) :=
  fx3 (fun (rec_177 : SS → Int32 → Int32 → Option (Int32 × SS)) (q : SS) (l1 : Int32) (l2 : Int32) =>
  if vin l1 2 then
  if (q.1 76 l1.toNatClampNeg) ≤ l2 then
  (some ((-1 : Int32), q))
  else
  (if vin ((61 : Int32) + l2) 122 then
  if vin (((61 : Int32) * l1) + l2) 122 then
  nm (sI q 77 (((61 : Int32) * l1) + l2).toNatClampNeg ((q.1 77 ((61 : Int32) + l2).toNatClampNeg).toInt16.toInt32)) fun q9 =>
  if vin ((61 : Int32) + l2) 122 then
  if vin (((61 : Int32) * l1) + l2) 122 then
  nm (sI q9 78 (((61 : Int32) * l1) + l2).toNatClampNeg ((q9.1 78 ((61 : Int32) + l2).toNatClampNeg).toInt16.toInt32)) fun q10 =>
  rec_177 q10 l1 (l2 + (1 : Int32))
  else none
  else none
  else none
  else none)
  else none) FU
theorem rb_X12_readText_177 {E : EE} (hE : GE E) (q : SS) (l1 : Int32) (l2 : Int32) : R E (κI E) 904 221 177 [(0, .ref 60), (1, .int l1), (2, .int l2)] [] q (b_X12_readText_177 q l1 l2) := by
  unfold b_X12_readText_177
  refine fx3_ok (P := fun q l1 l2 o => R E (κI E) 904 221 177 [(0, .ref 60), (1, .int l1), (2, .int l2)] [] q o) (fun _ _ _ => r_no) (fun rec_177 hrec_177 q l1 l2 => ?_) _ _ _ _
  refine r_iload_n (x := l2) dX12_readText_177 rfl ?_
  refine r_aload_n (x := 60) dX12_readText_178 rfl ?_
  refine r_getA dX12_readText_179 (fa_12_58_60 hE) ?_
  refine r_iload_n (x := l1) dX12_readText_182 rfl ?_
  refine r_iaload dX12_readText_183 (ar_76 hE) ?_
  refine r_icmp_ge (t := 233) dX12_readText_184 rfl (fun h11 => ?_) (fun h11 => ?_)
  · refine r_iconst (v := (-1 : Int32)) dX12_readText_233 rfl ?_
    exact r_ireturn dX12_readText_234 rfl rfl
  · refine r_aload_n (x := 60) dX12_readText_187 rfl ?_
    refine r_getA dX12_readText_188 (fa_12_61_60 hE) ?_
    refine r_bipush (v := (61 : Int32)) dX12_readText_191 rfl ?_
    refine r_iload_n (x := l1) dX12_readText_193 rfl ?_
    refine r_imul dX12_readText_194 ?_
    refine r_iload_n (x := l2) dX12_readText_195 rfl ?_
    refine r_iadd dX12_readText_196 ?_
    refine r_aload_n (x := 60) dX12_readText_197 rfl ?_
    refine r_getA dX12_readText_198 (fa_12_61_60 hE) ?_
    refine r_bipush (v := (61 : Int32)) dX12_readText_201 rfl ?_
    refine r_iload_n (x := l2) dX12_readText_203 rfl ?_
    refine r_iadd dX12_readText_204 ?_
    refine r_saload dX12_readText_205 (ar_77 hE) ?_
    refine r_sastore dX12_readText_206 (ar_77 hE) ?_
    refine r_nmS fun q9 _ => ?_
    refine r_aload_n (x := 60) dX12_readText_207 rfl ?_
    refine r_getA dX12_readText_208 (fa_12_65_60 hE) ?_
    refine r_bipush (v := (61 : Int32)) dX12_readText_211 rfl ?_
    refine r_iload_n (x := l1) dX12_readText_213 rfl ?_
    refine r_imul dX12_readText_214 ?_
    refine r_iload_n (x := l2) dX12_readText_215 rfl ?_
    refine r_iadd dX12_readText_216 ?_
    refine r_aload_n (x := 60) dX12_readText_217 rfl ?_
    refine r_getA dX12_readText_218 (fa_12_65_60 hE) ?_
    refine r_bipush (v := (61 : Int32)) dX12_readText_221 rfl ?_
    refine r_iload_n (x := l2) dX12_readText_223 rfl ?_
    refine r_iadd dX12_readText_224 ?_
    refine r_saload dX12_readText_225 (ar_78 hE) ?_
    refine r_sastore dX12_readText_226 (ar_78 hE) ?_
    refine r_nmS fun q10 _ => ?_
    refine r_iinc (x := l2) (v := (l2 + (1 : Int32))) (L2 := [(0, .ref 60), (1, .int l1), (2, .int (l2 + (1 : Int32)))]) dX12_readText_227 rfl rfl rfl rfl ?_
    refine r_goto (t := 177) dX12_readText_230 rfl ?_
    exact r_sub (L' := [(0, .ref 60), (1, .int l1), (2, .int (l2 + (1 : Int32)))]) (sub_c rfl (sub_c rfl (sub_c rfl sub_n))) (hrec_177 q10 l1 (l2 + (1 : Int32)))
def b_X12_readText_105 : SS → Int32 → Int32 → Option (Int32 × SS) :=
  fx3 (fun (rec_105 : SS → Int32 → Int32 → Option (Int32 × SS)) (q : SS) (l1 : Int32) (l2 : Int32) =>
  if (q.1 60 22) ≤ l2 then
  (if vin (1 : Int32) 2 then
  if vin l1 2 then
  nm (sI q 76 l1.toNatClampNeg (q.1 76 (1 : Int32).toNatClampNeg)) fun q8 =>
  b_X12_readText_177 q8 l1 (0 : Int32)
  else none
  else none)
  else
  (if vin ((130 : Int32) + l2) 260 then
  if vin (((130 : Int32) * l1) + l2) 260 then
  nm (sI q 74 (((130 : Int32) * l1) + l2).toNatClampNeg ((q.1 74 ((130 : Int32) + l2).toNatClampNeg).toInt8.toInt32)) fun q12 =>
  if vin ((130 : Int32) + l2) 260 then
  if vin (((130 : Int32) * l1) + l2) 260 then
  nm (sI q12 75 (((130 : Int32) * l1) + l2).toNatClampNeg (q12.1 75 ((130 : Int32) + l2).toNatClampNeg)) fun q13 =>
  rec_105 q13 l1 (l2 + (1 : Int32))
  else none
  else none
  else none
  else none)) FU
theorem rb_X12_readText_105 {E : EE} (hE : GE E) (q : SS) (l1 : Int32) (l2 : Int32) : R E (κI E) 904 221 105 [(0, .ref 60), (1, .int l1), (2, .int l2)] [] q (b_X12_readText_105 q l1 l2) := by
  unfold b_X12_readText_105
  refine fx3_ok (P := fun q l1 l2 o => R E (κI E) 904 221 105 [(0, .ref 60), (1, .int l1), (2, .int l2)] [] q o) (fun _ _ _ => r_no) (fun rec_105 hrec_105 q l1 l2 => ?_) _ _ _ _
  refine r_iload_n (x := l2) dX12_readText_105 rfl ?_
  refine r_aload_n (x := 60) dX12_readText_106 rfl ?_
  refine r_getI dX12_readText_107 (ff_12_187_60 hE) (by decide) ?_
  refine r_icmp_ge (t := 163) dX12_readText_110 rfl (fun h14 => ?_) (fun h14 => ?_)
  · refine r_aload_n (x := 60) dX12_readText_163 rfl ?_
    refine r_getA dX12_readText_164 (fa_12_58_60 hE) ?_
    refine r_iload_n (x := l1) dX12_readText_167 rfl ?_
    refine r_aload_n (x := 60) dX12_readText_168 rfl ?_
    refine r_getA dX12_readText_169 (fa_12_58_60 hE) ?_
    refine r_iconst (v := (1 : Int32)) dX12_readText_172 rfl ?_
    refine r_iaload dX12_readText_173 (ar_76 hE) ?_
    refine r_iastore dX12_readText_174 (ar_76 hE) ?_
    refine r_nmS fun q8 _ => ?_
    refine r_iconst (v := (0 : Int32)) dX12_readText_175 rfl ?_
    refine r_istore_n (L2 := [(0, .ref 60), (1, .int l1), (2, .int (0 : Int32))]) dX12_readText_176 rfl rfl ?_
    exact r_sub (L' := [(0, .ref 60), (1, .int l1), (2, .int (0 : Int32))]) (sub_c rfl (sub_c rfl (sub_c rfl sub_n))) (rb_X12_readText_177 hE q8 l1 (0 : Int32))
  · refine r_aload_n (x := 60) dX12_readText_113 rfl ?_
    refine r_getA dX12_readText_114 (fa_12_52_60 hE) ?_
    refine r_sipush (v := (130 : Int32)) dX12_readText_117 rfl ?_
    refine r_iload_n (x := l1) dX12_readText_120 rfl ?_
    refine r_imul dX12_readText_121 ?_
    refine r_iload_n (x := l2) dX12_readText_122 rfl ?_
    refine r_iadd dX12_readText_123 ?_
    refine r_aload_n (x := 60) dX12_readText_124 rfl ?_
    refine r_getA dX12_readText_125 (fa_12_52_60 hE) ?_
    refine r_sipush (v := (130 : Int32)) dX12_readText_128 rfl ?_
    refine r_iload_n (x := l2) dX12_readText_131 rfl ?_
    refine r_iadd dX12_readText_132 ?_
    refine r_baload dX12_readText_133 (ar_74 hE) ?_
    refine r_bastore dX12_readText_134 (ar_74 hE) ?_
    refine r_nmS fun q12 _ => ?_
    refine r_aload_n (x := 60) dX12_readText_135 rfl ?_
    refine r_getA dX12_readText_136 (fa_12_55_60 hE) ?_
    refine r_sipush (v := (130 : Int32)) dX12_readText_139 rfl ?_
    refine r_iload_n (x := l1) dX12_readText_142 rfl ?_
    refine r_imul dX12_readText_143 ?_
    refine r_iload_n (x := l2) dX12_readText_144 rfl ?_
    refine r_iadd dX12_readText_145 ?_
    refine r_aload_n (x := 60) dX12_readText_146 rfl ?_
    refine r_getA dX12_readText_147 (fa_12_55_60 hE) ?_
    refine r_sipush (v := (130 : Int32)) dX12_readText_150 rfl ?_
    refine r_iload_n (x := l2) dX12_readText_153 rfl ?_
    refine r_iadd dX12_readText_154 ?_
    refine r_iaload dX12_readText_155 (ar_75 hE) ?_
    refine r_iastore dX12_readText_156 (ar_75 hE) ?_
    refine r_nmS fun q13 _ => ?_
    refine r_iinc (x := l2) (v := (l2 + (1 : Int32))) (L2 := [(0, .ref 60), (1, .int l1), (2, .int (l2 + (1 : Int32)))]) dX12_readText_157 rfl rfl rfl rfl ?_
    refine r_goto (t := 105) dX12_readText_160 rfl ?_
    exact r_sub (L' := [(0, .ref 60), (1, .int l1), (2, .int (l2 + (1 : Int32)))]) (sub_c rfl (sub_c rfl (sub_c rfl sub_n))) (hrec_105 q13 l1 (l2 + (1 : Int32)))
def b_X12_readText_86 (q : SS) (l1 : Int32) : Option (Int32 × SS) :=
  nm (sI q 60 18 (0 : Int32)) fun q7 =>
  if (q7.1 60 20) < 0 then
  (b_X12_readText_105 q7 l1 (0 : Int32))
  else
  (some ((q7.1 60 20), q7))
theorem rb_X12_readText_86 {E : EE} (hE : GE E) (q : SS) (l1 : Int32) : R E (κI E) 904 221 86 [(0, .ref 60), (1, .int l1)] [] q (b_X12_readText_86 q l1) := by
  unfold b_X12_readText_86
  refine r_aload_n (x := 60) dX12_readText_86 rfl ?_
  refine r_iconst (v := (0 : Int32)) dX12_readText_87 rfl ?_
  refine r_putI dX12_readText_88 (ff_12_178_60 hE) ?_
  refine r_nmS fun q7 _ => ?_
  refine r_aload_n (x := 60) dX12_readText_91 rfl ?_
  refine r_getI dX12_readText_92 (ff_12_184_60 hE) (by decide) ?_
  refine r_if_lt (t := 103) dX12_readText_95 rfl (fun h15 => ?_) (fun h15 => ?_)
  · refine r_iconst (v := (0 : Int32)) dX12_readText_103 rfl ?_
    refine r_istore_n (L2 := [(0, .ref 60), (1, .int l1), (2, .int (0 : Int32))]) dX12_readText_104 rfl rfl ?_
    exact r_sub (L' := [(0, .ref 60), (1, .int l1), (2, .int (0 : Int32))]) (sub_c rfl (sub_c rfl (sub_c rfl sub_n))) (rb_X12_readText_105 hE q7 l1 (0 : Int32))
  · refine r_aload_n (x := 60) dX12_readText_98 rfl ?_
    refine r_getI dX12_readText_99 (ff_12_184_60 hE) (by decide) ?_
    exact r_ireturn dX12_readText_102 rfl rfl
def b_X12_readText_64 (q : SS) (l1 : Int32) : Option (Int32 × SS) :=
  if 0 ≤ (q.1 60 20) then
  (b_X12_readText_86 q l1)
  else
  (if (q.1 60 18) ≤ (q.1 60 19) then
  (b_X12_readText_86 q l1)
  else
  ((f_X12_wrong q).bind fun r16 =>
  b_X12_readText_86 r16 l1))
theorem rb_X12_readText_64 {E : EE} (hE : GE E) (q : SS) (l1 : Int32) : R E (κI E) 904 221 64 [(0, .ref 60), (1, .int l1)] [] q (b_X12_readText_64 q l1) := by
  unfold b_X12_readText_64
  refine r_aload_n (x := 60) dX12_readText_64 rfl ?_
  refine r_getI dX12_readText_65 (ff_12_184_60 hE) (by decide) ?_
  refine r_if_ge (t := 86) dX12_readText_68 rfl (fun h18 => ?_) (fun h18 => ?_)
  · exact r_sub (L' := [(0, .ref 60), (1, .int l1)]) (sub_c rfl (sub_c rfl sub_n)) (rb_X12_readText_86 hE q l1)
  · refine r_aload_n (x := 60) dX12_readText_71 rfl ?_
    refine r_getI dX12_readText_72 (ff_12_181_60 hE) (by decide) ?_
    refine r_aload_n (x := 60) dX12_readText_75 rfl ?_
    refine r_getI dX12_readText_76 (ff_12_178_60 hE) (by decide) ?_
    refine r_icmp_ge (t := 86) dX12_readText_79 rfl (fun h17 => ?_) (fun h17 => ?_)
    · exact r_sub (L' := [(0, .ref 60), (1, .int l1)]) (sub_c rfl (sub_c rfl sub_n)) (rb_X12_readText_86 hE q l1)
    · refine r_aload_n (x := 60) dX12_readText_82 rfl ?_
      refine r_callV (k := 0) (idx := 193) (y := 209) (as := [.ref 60]) (rest := []) (L0 := [(0, .ref 60)]) dX12_readText_83 rfl rfl rfl rfl rfl (vok_v (ob_60 hE) rfl) rfl (r_dep (by decide) (e_X12_wrong hE q)) (fun r16 => ?_)
      exact r_sub (L' := [(0, .ref 60), (1, .int l1)]) (sub_c rfl (sub_c rfl sub_n)) (rb_X12_readText_86 hE r16 l1)
def b_X12_readText_31 : SS → Int32 → Option (Int32 × SS) :=
  fx2 (fun (rec_31 : SS → Int32 → Option (Int32 × SS)) (q : SS) (l1 : Int32) =>
  if 0 ≤ (q.1 60 20) then
  (b_X12_readText_64 q l1)
  else
  ((f_X12_look q).bind fun r19 =>
  if r19 = (59 : Int32) then
  (nm (sI q 60 19 ((q.1 60 19) + (1 : Int32))) fun q20 =>
  (f_X12_line q20).bind fun r21 =>
  rec_31 r21 l1)
  else
  (b_X12_readText_64 q l1))) FU
theorem rb_X12_readText_31 {E : EE} (hE : GE E) (q : SS) (l1 : Int32) : R E (κI E) 904 221 31 [(0, .ref 60), (1, .int l1)] [] q (b_X12_readText_31 q l1) := by
  unfold b_X12_readText_31
  refine fx2_ok (P := fun q l1 o => R E (κI E) 904 221 31 [(0, .ref 60), (1, .int l1)] [] q o) (fun _ _ => r_no) (fun rec_31 hrec_31 q l1 => ?_) _ _ _
  refine r_aload_n (x := 60) dX12_readText_31 rfl ?_
  refine r_getI dX12_readText_32 (ff_12_184_60 hE) (by decide) ?_
  refine r_if_ge (t := 64) dX12_readText_35 rfl (fun h23 => ?_) (fun h23 => ?_)
  · exact r_sub (L' := [(0, .ref 60), (1, .int l1)]) (sub_c rfl (sub_c rfl sub_n)) (rb_X12_readText_64 hE q l1)
  · refine r_aload_n (x := 60) dX12_readText_38 rfl ?_
    refine r_calli (k := 0) (idx := 196) (y := 208) (as := [.ref 60]) (rest := []) (L0 := [(0, .ref 60)]) dX12_readText_39 rfl rfl rfl rfl rfl (vok_v (ob_60 hE) rfl) rfl (r_dep (by decide) (e_X12_look hE q)) (fun r19 => ?_)
    refine r_bipush (v := (59 : Int32)) dX12_readText_42 rfl ?_
    refine r_icmp_ne (t := 64) dX12_readText_44 rfl (fun h22 => ?_) (fun h22 => ?_)
    · refine r_aload_n (x := 60) dX12_readText_47 rfl ?_
      refine r_dup dX12_readText_48 rfl ?_
      refine r_getI dX12_readText_49 (ff_12_181_60 hE) (by decide) ?_
      refine r_iconst (v := (1 : Int32)) dX12_readText_52 rfl ?_
      refine r_iadd dX12_readText_53 ?_
      refine r_putI dX12_readText_54 (ff_12_181_60 hE) ?_
      refine r_nmS fun q20 _ => ?_
      refine r_aload_n (x := 60) dX12_readText_57 rfl ?_
      refine r_callV (k := 0) (idx := 232) (y := 220) (as := [.ref 60]) (rest := []) (L0 := [(0, .ref 60)]) dX12_readText_58 rfl rfl rfl rfl rfl (vok_v (ob_60 hE) rfl) rfl (r_dep (by decide) (e_X12_line hE q20)) (fun r21 => ?_)
      refine r_goto (t := 31) dX12_readText_61 rfl ?_
      exact r_sub (L' := [(0, .ref 60), (1, .int l1)]) (sub_c rfl (sub_c rfl sub_n)) (hrec_31 r21 l1)
    · exact r_sub (L' := [(0, .ref 60), (1, .int l1)]) (sub_c rfl (sub_c rfl sub_n)) (rb_X12_readText_64 hE q l1)
def f_X12_readText (q : SS) (a1 : Int32) : Option (Int32 × SS) :=
  nm (sI q 60 19 (0 : Int32)) fun q1 =>
  nm (sI q1 60 20 (-1 : Int32)) fun q2 =>
  nm (sI q2 60 21 (0 : Int32)) fun q3 =>
  nm (sI q3 60 22 (0 : Int32)) fun q4 =>
  if vin (1 : Int32) 2 then
  nm (sI q4 76 (1 : Int32).toNatClampNeg (0 : Int32)) fun q5 =>
  (f_X12_line q5).bind fun r6 =>
  b_X12_readText_31 r6 a1
  else none
theorem e_X12_readText {E : EE} (hE : GE E) (q : SS) (a1 : Int32) : R E (κI E) 904 221 0 [(0, .ref 60), (1, .int a1)] [] q (f_X12_readText q a1) := by
  unfold f_X12_readText
  refine r_aload_n (x := 60) dX12_readText_0 rfl ?_
  refine r_iconst (v := (0 : Int32)) dX12_readText_1 rfl ?_
  refine r_putI dX12_readText_2 (ff_12_181_60 hE) ?_
  refine r_nmS fun q1 _ => ?_
  refine r_aload_n (x := 60) dX12_readText_5 rfl ?_
  refine r_iconst (v := (-1 : Int32)) dX12_readText_6 rfl ?_
  refine r_putI dX12_readText_7 (ff_12_184_60 hE) ?_
  refine r_nmS fun q2 _ => ?_
  refine r_aload_n (x := 60) dX12_readText_10 rfl ?_
  refine r_iconst (v := (0 : Int32)) dX12_readText_11 rfl ?_
  refine r_putI dX12_readText_12 (ff_12_190_60 hE) ?_
  refine r_nmS fun q3 _ => ?_
  refine r_aload_n (x := 60) dX12_readText_15 rfl ?_
  refine r_iconst (v := (0 : Int32)) dX12_readText_16 rfl ?_
  refine r_putI dX12_readText_17 (ff_12_187_60 hE) ?_
  refine r_nmS fun q4 _ => ?_
  refine r_aload_n (x := 60) dX12_readText_20 rfl ?_
  refine r_getA dX12_readText_21 (fa_12_58_60 hE) ?_
  refine r_iconst (v := (1 : Int32)) dX12_readText_24 rfl ?_
  refine r_iconst (v := (0 : Int32)) dX12_readText_25 rfl ?_
  refine r_iastore dX12_readText_26 (ar_76 hE) ?_
  refine r_nmS fun q5 _ => ?_
  refine r_aload_n (x := 60) dX12_readText_27 rfl ?_
  refine r_callV (k := 0) (idx := 232) (y := 220) (as := [.ref 60]) (rest := []) (L0 := [(0, .ref 60)]) dX12_readText_28 rfl rfl rfl rfl rfl (vok_v (ob_60 hE) rfl) rfl (r_dep (by decide) (e_X12_line hE q5)) (fun r6 => ?_)
  exact r_sub (L' := [(0, .ref 60), (1, .int a1)]) (sub_c rfl (sub_c rfl sub_n)) (rb_X12_readText_31 hE r6 a1)
def f_X12_law (q : SS)  : Option (Int32 × SS) :=
  (f_X12_readText q (0 : Int32)).bind fun r1 =>
  if r1.1 < 0 then
  (nm (sI r1.2 60 30 (1 : Int32)) fun q2 =>
  some ((1 : Int32), q2))
  else
  (some (((-100 : Int32) - r1.1), r1.2))
theorem e_X12_law {E : EE} (hE : GE E) (q : SS)  : R E (κI E) 905 225 0 [(0, .ref 60)] [] q (f_X12_law q) := by
  unfold f_X12_law
  refine r_aload_n (x := 60) dX12_law_0 rfl ?_
  refine r_iconst (v := (0 : Int32)) dX12_law_1 rfl ?_
  refine r_callI (k := 0) (idx := 241) (y := 221) (as := [.ref 60, .int (0 : Int32)]) (rest := []) (L0 := [(0, .ref 60), (1, .int (0 : Int32))]) dX12_law_2 rfl rfl rfl rfl rfl (vok_v (ob_60 hE) rfl) rfl (r_dep (by decide) (e_X12_readText hE q (0 : Int32))) (fun r1 => ?_)
  refine r_istore_n (L2 := [(0, .ref 60), (1, .int r1.1)]) dX12_law_5 rfl rfl ?_
  refine r_iload_n (x := r1.1) dX12_law_6 rfl ?_
  refine r_if_lt (t := 15) dX12_law_7 rfl (fun h3 => ?_) (fun h3 => ?_)
  · refine r_aload_n (x := 60) dX12_law_15 rfl ?_
    refine r_iconst (v := (1 : Int32)) dX12_law_16 rfl ?_
    refine r_putZC dX12_law_17 (ff_12_244_60 hE) (by decide) ?_
    refine r_nmS fun q2 _ => ?_
    refine r_iconst (v := (1 : Int32)) dX12_law_20 rfl ?_
    exact r_ireturn dX12_law_21 rfl rfl
  · refine r_bipush (v := (-100 : Int32)) dX12_law_10 rfl ?_
    refine r_iload_n (x := r1.1) dX12_law_12 rfl ?_
    refine r_isub dX12_law_13 ?_
    exact r_ireturn dX12_law_14 rfl rfl
def f_X5_addByte (q : SS) (a1 : Int32) : Option (Int32 × SS) :=
  if (q.1 17 2) < (120 : Int32) then
  (if vin (q.1 17 2) 120 then
  nm (sI q 18 (q.1 17 2).toNatClampNeg a1) fun q1 =>
  nm (sI q1 17 2 ((q1.1 17 2) + (1 : Int32))) fun q2 =>
  some ((q2.1 17 2), q2)
  else none)
  else
  (some ((-3 : Int32), q))
theorem e_X5_addByte {E : EE} (hE : GE E) (q : SS) (a1 : Int32) : R E (κI E) 0 51 0 [(0, .ref 17), (1, .int a1)] [] q (f_X5_addByte q a1) := by
  unfold f_X5_addByte
  refine r_aload_n (x := 17) dX5_addByte_0 rfl ?_
  refine r_getI dX5_addByte_1 (ff_5_22_17 hE) (by decide) ?_
  refine r_bipush (v := (120 : Int32)) dX5_addByte_4 rfl ?_
  refine r_icmp_lt (t := 12) dX5_addByte_6 rfl (fun h3 => ?_) (fun h3 => ?_)
  · refine r_aload_n (x := 17) dX5_addByte_12 rfl ?_
    refine r_getA dX5_addByte_13 (fa_5_11_17 hE) ?_
    refine r_aload_n (x := 17) dX5_addByte_16 rfl ?_
    refine r_getI dX5_addByte_17 (ff_5_22_17 hE) (by decide) ?_
    refine r_iload_n (x := a1) dX5_addByte_20 rfl ?_
    refine r_iastore dX5_addByte_21 (ar_18 hE) ?_
    refine r_nmS fun q1 _ => ?_
    refine r_aload_n (x := 17) dX5_addByte_22 rfl ?_
    refine r_dup dX5_addByte_23 rfl ?_
    refine r_getI dX5_addByte_24 (ff_5_22_17 hE) (by decide) ?_
    refine r_iconst (v := (1 : Int32)) dX5_addByte_27 rfl ?_
    refine r_iadd dX5_addByte_28 ?_
    refine r_putI dX5_addByte_29 (ff_5_22_17 hE) ?_
    refine r_nmS fun q2 _ => ?_
    refine r_aload_n (x := 17) dX5_addByte_32 rfl ?_
    refine r_getI dX5_addByte_33 (ff_5_22_17 hE) (by decide) ?_
    exact r_ireturn dX5_addByte_36 rfl rfl
  · refine r_bipush (v := (-3 : Int32)) dX5_addByte_9 rfl ?_
    exact r_ireturn dX5_addByte_11 rfl rfl
def f_X11_feed (q : SS) (a1 : Int32) : Option (Int32 × SS) :=
  if a1 < 0 then
  (some ((-1 : Int32), q))
  else
  (if a1 ≤ (255 : Int32) then
  ((f_X5_addByte q a1).bind fun r1 =>
  some (r1.1, r1.2))
  else
  (some ((-1 : Int32), q)))
theorem e_X11_feed {E : EE} (hE : GE E) (q : SS) (a1 : Int32) : R E (κI E) 1 145 0 [(0, .ref 0), (1, .int a1)] [] q (f_X11_feed q a1) := by
  unfold f_X11_feed
  refine r_iload_n (x := a1) dX11_feed_0 rfl ?_
  refine r_if_lt (t := 11) dX11_feed_1 rfl (fun h3 => ?_) (fun h3 => ?_)
  · refine r_iconst (v := (-1 : Int32)) dX11_feed_11 rfl ?_
    exact r_ireturn dX11_feed_12 rfl rfl
  · refine r_iload_n (x := a1) dX11_feed_4 rfl ?_
    refine r_sipush (v := (255 : Int32)) dX11_feed_5 rfl ?_
    refine r_icmp_le (t := 13) dX11_feed_8 rfl (fun h2 => ?_) (fun h2 => ?_)
    · refine r_aload_n (x := 0) dX11_feed_13 rfl ?_
      refine r_getA dX11_feed_14 (fa_11_26_0 hE) ?_
      refine r_iload_n (x := a1) dX11_feed_17 rfl ?_
      refine r_callI (k := 0) (idx := 153) (y := 51) (as := [.ref 17, .int a1]) (rest := []) (L0 := [(0, .ref 17), (1, .int a1)]) dX11_feed_18 rfl rfl rfl rfl rfl (vok_v (ob_17 hE) rfl) rfl (r_dep (by decide) (e_X5_addByte hE q a1)) (fun r1 => ?_)
      exact r_ireturn dX11_feed_21 rfl rfl
    · refine r_iconst (v := (-1 : Int32)) dX11_feed_11 rfl ?_
      exact r_ireturn dX11_feed_12 rfl rfl
def f_X12_feed (q : SS) (a1 : Int32) : Option (Int32 × SS) :=
  (f_X12_in q a1 (0 : Int32) (255 : Int32)).bind fun r1 =>
  if r1 = 0 then
  (some ((-1 : Int32), q))
  else
  (if (q.1 60 18) = (120 : Int32) then
  (some ((-3 : Int32), q))
  else
  (if vin (q.1 60 18) 120 then
  nm (sI q 73 (q.1 60 18).toNatClampNeg ((a1.toInt8.toInt32).toInt8.toInt32)) fun q2 =>
  nm (sI q2 60 18 ((q2.1 60 18) + (1 : Int32))) fun q3 =>
  some ((q3.1 60 18), q3)
  else none))
theorem e_X12_feed {E : EE} (hE : GE E) (q : SS) (a1 : Int32) : R E (κI E) 1 207 0 [(0, .ref 60), (1, .int a1)] [] q (f_X12_feed q a1) := by
  unfold f_X12_feed
  refine r_iload_n (x := a1) dX12_feed_0 rfl ?_
  refine r_iconst (v := (0 : Int32)) dX12_feed_1 rfl ?_
  refine r_sipush (v := (255 : Int32)) dX12_feed_2 rfl ?_
  refine r_calli (k := 2) (idx := 118) (y := 189) (as := [.int a1, .int (0 : Int32), .int (255 : Int32)]) (rest := []) (L0 := [(0, .int a1), (1, .int (0 : Int32)), (2, .int (255 : Int32))]) dX12_feed_5 rfl rfl rfl rfl rfl vok_s rfl (r_dep (by decide) (e_X12_in hE q a1 (0 : Int32) (255 : Int32))) (fun r1 => ?_)
  refine r_if_ne (t := 13) dX12_feed_8 rfl (fun h5 => ?_) (fun h5 => ?_)
  · refine r_iconst (v := (-1 : Int32)) dX12_feed_11 rfl ?_
    exact r_ireturn dX12_feed_12 rfl rfl
  · refine r_aload_n (x := 60) dX12_feed_13 rfl ?_
    refine r_getI dX12_feed_14 (ff_12_178_60 hE) (by decide) ?_
    refine r_bipush (v := (120 : Int32)) dX12_feed_17 rfl ?_
    refine r_icmp_ne (t := 25) dX12_feed_19 rfl (fun h4 => ?_) (fun h4 => ?_)
    · refine r_bipush (v := (-3 : Int32)) dX12_feed_22 rfl ?_
      exact r_ireturn dX12_feed_24 rfl rfl
    · refine r_aload_n (x := 60) dX12_feed_25 rfl ?_
      refine r_getA dX12_feed_26 (fa_12_48_60 hE) ?_
      refine r_aload_n (x := 60) dX12_feed_29 rfl ?_
      refine r_getI dX12_feed_30 (ff_12_178_60 hE) (by decide) ?_
      refine r_iload_n (x := a1) dX12_feed_33 rfl ?_
      refine r_i2b dX12_feed_34 ?_
      refine r_bastore dX12_feed_35 (ar_73 hE) ?_
      refine r_nmS fun q2 _ => ?_
      refine r_aload_n (x := 60) dX12_feed_36 rfl ?_
      refine r_dup dX12_feed_37 rfl ?_
      refine r_getI dX12_feed_38 (ff_12_178_60 hE) (by decide) ?_
      refine r_iconst (v := (1 : Int32)) dX12_feed_41 rfl ?_
      refine r_iadd dX12_feed_42 ?_
      refine r_putI dX12_feed_43 (ff_12_178_60 hE) ?_
      refine r_nmS fun q3 _ => ?_
      refine r_aload_n (x := 60) dX12_feed_46 rfl ?_
      refine r_getI dX12_feed_47 (ff_12_178_60 hE) (by decide) ?_
      exact r_ireturn dX12_feed_50 rfl rfl
def b_X11_of_12 (q : SS) (l1 : Int32) (l2 : Int32) : Option (Int32 × SS) :=
  (f_X10_isPerson q l1).bind fun r1 =>
  if r1 = 0 then
  (some ((-1 : Int32), q))
  else
  (if l2 = (9 : Int32) then
  ((f_X11_now q).bind fun r2 =>
  (f_X8_heldBy r2 l1).bind fun r3 =>
  some (r3, r2))
  else
  ((f_X11_now q).bind fun r4 =>
  (f_X8_realsOf r4 l1).bind fun r5 =>
  some (r5, r4)))
theorem rb_X11_of_12 {E : EE} (hE : GE E) (q : SS) (l1 : Int32) (l2 : Int32) : R E (κI E) 4 144 12 [(0, .ref 0), (1, .int l1), (2, .int l2)] [] q (b_X11_of_12 q l1 l2) := by
  unfold b_X11_of_12
  refine r_aload_n (x := 0) dX11_of_12 rfl ?_
  refine r_getA dX11_of_13 (fa_11_10_0 hE) ?_
  refine r_iload_n (x := l1) dX11_of_16 rfl ?_
  refine r_calli (k := 0) (idx := 140) (y := 128) (as := [.ref 1, .int l1]) (rest := []) (L0 := [(0, .ref 1), (1, .int l1)]) dX11_of_17 rfl rfl rfl rfl rfl (vok_v (ob_1 hE) rfl) rfl (r_dep (by decide) (e_X10_isPerson hE q l1)) (fun r1 => ?_)
  refine r_if_ne (t := 25) dX11_of_20 rfl (fun h7 => ?_) (fun h7 => ?_)
  · refine r_iconst (v := (-1 : Int32)) dX11_of_23 rfl ?_
    exact r_ireturn dX11_of_24 rfl rfl
  · refine r_iload_n (x := l2) dX11_of_25 rfl ?_
    refine r_bipush (v := (9 : Int32)) dX11_of_26 rfl ?_
    refine r_icmp_ne (t := 42) dX11_of_28 rfl (fun h6 => ?_) (fun h6 => ?_)
    · refine r_aload_n (x := 0) dX11_of_31 rfl ?_
      refine r_callA (k := 0) (idx := 143) (y := 148) (as := [.ref 0]) (rest := []) (L0 := [(0, .ref 0)]) dX11_of_32 rfl rfl rfl rfl rfl (vok_v (ob_0 hE) rfl) rfl (r_dep (by decide) (e_X11_now hE q)) (fun r2 => ?_)
      refine r_iload_n (x := l1) dX11_of_35 rfl ?_
      refine r_calli (k := 0) (idx := 147) (y := 100) (as := [.ref 24, .int l1]) (rest := []) (L0 := [(0, .ref 24), (1, .int l1)]) dX11_of_36 rfl rfl rfl rfl rfl (vok_v (ob_24 hE) rfl) rfl (r_dep (by decide) (e_X8_heldBy hE r2 l1)) (fun r3 => ?_)
      refine r_goto (t := 50) dX11_of_39 rfl ?_
      exact r_ireturn dX11_of_50 rfl rfl
    · refine r_aload_n (x := 0) dX11_of_42 rfl ?_
      refine r_callA (k := 0) (idx := 143) (y := 148) (as := [.ref 0]) (rest := []) (L0 := [(0, .ref 0)]) dX11_of_43 rfl rfl rfl rfl rfl (vok_v (ob_0 hE) rfl) rfl (r_dep (by decide) (e_X11_now hE q)) (fun r4 => ?_)
      refine r_iload_n (x := l1) dX11_of_46 rfl ?_
      refine r_calli (k := 0) (idx := 150) (y := 101) (as := [.ref 24, .int l1]) (rest := []) (L0 := [(0, .ref 24), (1, .int l1)]) dX11_of_47 rfl rfl rfl rfl rfl (vok_v (ob_24 hE) rfl) rfl (r_dep (by decide) (e_X8_realsOf hE r4 l1)) (fun r5 => ?_)
      exact r_ireturn dX11_of_50 rfl rfl
def f_X11_of (q : SS) (a1 : Int32) (a2 : Int32) : Option (Int32 × SS) :=
  if a2 = (9 : Int32) then
  (b_X11_of_12 q a1 a2)
  else
  (if a2 = (10 : Int32) then
  (b_X11_of_12 q a1 a2)
  else
  ((f_X10_hasNumber q a2 a1).bind fun r8 =>
  if r8 = 0 then
  (some ((-1 : Int32), q))
  else
  ((f_X10_get q a2 a1).bind fun r9 =>
  some (r9, q))))
theorem e_X11_of {E : EE} (hE : GE E) (q : SS) (a1 : Int32) (a2 : Int32) : R E (κI E) 4 144 0 [(0, .ref 0), (1, .int a1), (2, .int a2)] [] q (f_X11_of q a1 a2) := by
  unfold f_X11_of
  refine r_iload_n (x := a2) dX11_of_0 rfl ?_
  refine r_bipush (v := (9 : Int32)) dX11_of_1 rfl ?_
  refine r_icmp_eq (t := 12) dX11_of_3 rfl (fun h12 => ?_) (fun h12 => ?_)
  · exact r_sub (L' := [(0, .ref 0), (1, .int a1), (2, .int a2)]) (sub_c rfl (sub_c rfl (sub_c rfl sub_n))) (rb_X11_of_12 hE q a1 a2)
  · refine r_iload_n (x := a2) dX11_of_6 rfl ?_
    refine r_bipush (v := (10 : Int32)) dX11_of_7 rfl ?_
    refine r_icmp_ne (t := 51) dX11_of_9 rfl (fun h11 => ?_) (fun h11 => ?_)
    · exact r_sub (L' := [(0, .ref 0), (1, .int a1), (2, .int a2)]) (sub_c rfl (sub_c rfl (sub_c rfl sub_n))) (rb_X11_of_12 hE q a1 a2)
    · refine r_aload_n (x := 0) dX11_of_51 rfl ?_
      refine r_getA dX11_of_52 (fa_11_10_0 hE) ?_
      refine r_iload_n (x := a2) dX11_of_55 rfl ?_
      refine r_iload_n (x := a1) dX11_of_56 rfl ?_
      refine r_calli (k := 0) (idx := 126) (y := 132) (as := [.ref 1, .int a2, .int a1]) (rest := []) (L0 := [(0, .ref 1), (1, .int a2), (2, .int a1)]) dX11_of_57 rfl rfl rfl rfl rfl (vok_v (ob_1 hE) rfl) rfl (r_dep (by decide) (e_X10_hasNumber hE q a2 a1)) (fun r8 => ?_)
      refine r_if_eq (t := 75) dX11_of_60 rfl (fun h10 => ?_) (fun h10 => ?_)
      · refine r_iconst (v := (-1 : Int32)) dX11_of_75 rfl ?_
        exact r_ireturn dX11_of_76 rfl rfl
      · refine r_aload_n (x := 0) dX11_of_63 rfl ?_
        refine r_getA dX11_of_64 (fa_11_10_0 hE) ?_
        refine r_iload_n (x := a2) dX11_of_67 rfl ?_
        refine r_iload_n (x := a1) dX11_of_68 rfl ?_
        refine r_calli (k := 0) (idx := 129) (y := 134) (as := [.ref 1, .int a2, .int a1]) (rest := []) (L0 := [(0, .ref 1), (1, .int a2), (2, .int a1)]) dX11_of_69 rfl rfl rfl rfl rfl (vok_v (ob_1 hE) rfl) rfl (r_dep (by decide) (e_X10_get hE q a2 a1)) (fun r9 => ?_)
        refine r_goto (t := 76) dX11_of_72 rfl ?_
        exact r_ireturn dX11_of_76 rfl rfl
def f_X12_isPlace (q : SS) (a1 : Int32) (a2 : Int32) : Option Int32 :=
  (f_X12_in q a2 (0 : Int32) (3 : Int32)).bind fun r1 =>
  if r1 = 0 then
  ((f_X12_in q a2 (4 : Int32) (6 : Int32)).bind fun r2 =>
  if r2 = 0 then
  ((f_X12_in q a2 (7 : Int32) (8 : Int32)).bind fun r3 =>
  if r3 = 0 then
  (some (0 : Int32))
  else
  (if a1 = 0 then
  (some (1 : Int32))
  else
  (some (0 : Int32))))
  else
  ((f_X12_isTicket q a1).bind fun r6 =>
  if r6 = 0 ∨ r6 = 1 then some r6 else none))
  else
  ((f_X12_isOne q a1).bind fun r8 =>
  if r8 = 0 ∨ r8 = 1 then some r8 else none)
theorem e_X12_isPlace {E : EE} (hE : GE E) (q : SS) (a1 : Int32) (a2 : Int32) : R E (κi E q) 2 203 0 [(0, .ref 60), (1, .int a1), (2, .int a2)] [] q (f_X12_isPlace q a1 a2) := by
  unfold f_X12_isPlace
  refine r_iload_n (x := a2) dX12_isPlace_0 rfl ?_
  refine r_iconst (v := (0 : Int32)) dX12_isPlace_1 rfl ?_
  refine r_iconst (v := (3 : Int32)) dX12_isPlace_2 rfl ?_
  refine r_calli (k := 2) (idx := 118) (y := 189) (as := [.int a2, .int (0 : Int32), .int (3 : Int32)]) (rest := []) (L0 := [(0, .int a2), (1, .int (0 : Int32)), (2, .int (3 : Int32))]) dX12_isPlace_3 rfl rfl rfl rfl rfl vok_s rfl (r_dep (by decide) (e_X12_in hE q a2 (0 : Int32) (3 : Int32))) (fun r1 => ?_)
  refine r_if_eq (t := 17) dX12_isPlace_6 rfl (fun h9 => ?_) (fun h9 => ?_)
  · refine r_iload_n (x := a2) dX12_isPlace_17 rfl ?_
    refine r_iconst (v := (4 : Int32)) dX12_isPlace_18 rfl ?_
    refine r_bipush (v := (6 : Int32)) dX12_isPlace_19 rfl ?_
    refine r_calli (k := 2) (idx := 118) (y := 189) (as := [.int a2, .int (4 : Int32), .int (6 : Int32)]) (rest := []) (L0 := [(0, .int a2), (1, .int (4 : Int32)), (2, .int (6 : Int32))]) dX12_isPlace_21 rfl rfl rfl rfl rfl vok_s rfl (r_dep (by decide) (e_X12_in hE q a2 (4 : Int32) (6 : Int32))) (fun r2 => ?_)
    refine r_if_eq (t := 35) dX12_isPlace_24 rfl (fun h7 => ?_) (fun h7 => ?_)
    · refine r_iload_n (x := a2) dX12_isPlace_35 rfl ?_
      refine r_bipush (v := (7 : Int32)) dX12_isPlace_36 rfl ?_
      refine r_bipush (v := (8 : Int32)) dX12_isPlace_38 rfl ?_
      refine r_calli (k := 2) (idx := 118) (y := 189) (as := [.int a2, .int (7 : Int32), .int (8 : Int32)]) (rest := []) (L0 := [(0, .int a2), (1, .int (7 : Int32)), (2, .int (8 : Int32))]) dX12_isPlace_40 rfl rfl rfl rfl rfl vok_s rfl (r_dep (by decide) (e_X12_in hE q a2 (7 : Int32) (8 : Int32))) (fun r3 => ?_)
      refine r_if_eq (t := 54) dX12_isPlace_43 rfl (fun h5 => ?_) (fun h5 => ?_)
      · refine r_iconst (v := (0 : Int32)) dX12_isPlace_54 rfl ?_
        exact r_ireturn dX12_isPlace_55 rfl rfl
      · refine r_iload_n (x := a1) dX12_isPlace_46 rfl ?_
        refine r_if_ne (t := 54) dX12_isPlace_47 rfl (fun h4 => ?_) (fun h4 => ?_)
        · refine r_iconst (v := (1 : Int32)) dX12_isPlace_50 rfl ?_
          refine r_goto (t := 55) dX12_isPlace_51 rfl ?_
          exact r_ireturn dX12_isPlace_55 rfl rfl
        · refine r_iconst (v := (0 : Int32)) dX12_isPlace_54 rfl ?_
          exact r_ireturn dX12_isPlace_55 rfl rfl
    · refine r_aload_n (x := 60) dX12_isPlace_27 rfl ?_
      refine r_iload_n (x := a1) dX12_isPlace_28 rfl ?_
      refine r_calli (k := 0) (idx := 156) (y := 192) (as := [.ref 60, .int a1]) (rest := []) (L0 := [(0, .ref 60), (1, .int a1)]) dX12_isPlace_29 rfl rfl rfl rfl rfl (vok_v (ob_60 hE) rfl) rfl (r_dep (by decide) (e_X12_isTicket hE q a1)) (fun r6 => ?_)
      refine r_goto (t := 55) dX12_isPlace_32 rfl ?_
      exact r_zreturn dX12_isPlace_55 rfl rfl
  · refine r_aload_n (x := 60) dX12_isPlace_9 rfl ?_
    refine r_iload_n (x := a1) dX12_isPlace_10 rfl ?_
    refine r_calli (k := 0) (idx := 125) (y := 191) (as := [.ref 60, .int a1]) (rest := []) (L0 := [(0, .ref 60), (1, .int a1)]) dX12_isPlace_11 rfl rfl rfl rfl rfl (vok_v (ob_60 hE) rfl) rfl (r_dep (by decide) (e_X12_isOne hE q a1)) (fun r8 => ?_)
    refine r_goto (t := 55) dX12_isPlace_14 rfl ?_
    exact r_zreturn dX12_isPlace_55 rfl rfl
def f_X12_valueAt (q : SS) (a1 : Int32) (a2 : Int32) : Option Int32 :=
  sw a1 [(0, (if vin a2 6 then
  some (q.1 61 a2.toNatClampNeg)
  else none)), (1, (if vin a2 6 then
  some (q.1 62 a2.toNatClampNeg)
  else none)), (2, (if vin a2 6 then
  some (q.1 63 a2.toNatClampNeg)
  else none)), (3, (if vin a2 6 then
  some (q.1 64 a2.toNatClampNeg)
  else none)), (4, (if vin a2 12 then
  some (q.1 65 a2.toNatClampNeg)
  else none)), (5, (if vin a2 12 then
  some (q.1 66 a2.toNatClampNeg)
  else none)), (6, (if vin a2 12 then
  some (q.1 67 a2.toNatClampNeg)
  else none))]
  (if vin (a1 - (7 : Int32)) 2 then
  some (q.1 68 (a1 - (7 : Int32)).toNatClampNeg)
  else none)
theorem e_X12_valueAt {E : EE} (hE : GE E) (q : SS) (a1 : Int32) (a2 : Int32) : R E (κi E q) 0 198 0 [(0, .ref 60), (1, .int a1), (2, .int a2)] [] q (f_X12_valueAt q a1 a2) := by
  unfold f_X12_valueAt
  refine r_iload_n (x := a1) dX12_valueAt_0 rfl ?_
  refine r_sw1 (fun h1 => ?_) (fun h1 => ?_)
  · refine r_jmp (t := 44) dX12_valueAt_1 rfl (by rw [h1]; rfl) ?_
    refine r_aload_n (x := 60) dX12_valueAt_44 rfl ?_
    refine r_getA dX12_valueAt_45 (fa_12_9_60 hE) ?_
    refine r_iload_n (x := a2) dX12_valueAt_48 rfl ?_
    refine r_iaload dX12_valueAt_49 (ar_61 hE) ?_
    exact r_ireturn dX12_valueAt_50 rfl rfl
  refine r_sw1 (fun h2 => ?_) (fun h2 => ?_)
  · refine r_jmp (t := 51) dX12_valueAt_1 rfl (by rw [h2]; rfl) ?_
    refine r_aload_n (x := 60) dX12_valueAt_51 rfl ?_
    refine r_getA dX12_valueAt_52 (fa_12_15_60 hE) ?_
    refine r_iload_n (x := a2) dX12_valueAt_55 rfl ?_
    refine r_iaload dX12_valueAt_56 (ar_62 hE) ?_
    exact r_ireturn dX12_valueAt_57 rfl rfl
  refine r_sw1 (fun h3 => ?_) (fun h3 => ?_)
  · refine r_jmp (t := 58) dX12_valueAt_1 rfl (by rw [h3]; rfl) ?_
    refine r_aload_n (x := 60) dX12_valueAt_58 rfl ?_
    refine r_getA dX12_valueAt_59 (fa_12_18_60 hE) ?_
    refine r_iload_n (x := a2) dX12_valueAt_62 rfl ?_
    refine r_iaload dX12_valueAt_63 (ar_63 hE) ?_
    exact r_ireturn dX12_valueAt_64 rfl rfl
  refine r_sw1 (fun h4 => ?_) (fun h4 => ?_)
  · refine r_jmp (t := 65) dX12_valueAt_1 rfl (by rw [h4]; rfl) ?_
    refine r_aload_n (x := 60) dX12_valueAt_65 rfl ?_
    refine r_getA dX12_valueAt_66 (fa_12_21_60 hE) ?_
    refine r_iload_n (x := a2) dX12_valueAt_69 rfl ?_
    refine r_iaload dX12_valueAt_70 (ar_64 hE) ?_
    exact r_ireturn dX12_valueAt_71 rfl rfl
  refine r_sw1 (fun h5 => ?_) (fun h5 => ?_)
  · refine r_jmp (t := 72) dX12_valueAt_1 rfl (by rw [h5]; rfl) ?_
    refine r_aload_n (x := 60) dX12_valueAt_72 rfl ?_
    refine r_getA dX12_valueAt_73 (fa_12_24_60 hE) ?_
    refine r_iload_n (x := a2) dX12_valueAt_76 rfl ?_
    refine r_iaload dX12_valueAt_77 (ar_65 hE) ?_
    exact r_ireturn dX12_valueAt_78 rfl rfl
  refine r_sw1 (fun h6 => ?_) (fun h6 => ?_)
  · refine r_jmp (t := 79) dX12_valueAt_1 rfl (by rw [h6]; rfl) ?_
    refine r_aload_n (x := 60) dX12_valueAt_79 rfl ?_
    refine r_getA dX12_valueAt_80 (fa_12_27_60 hE) ?_
    refine r_iload_n (x := a2) dX12_valueAt_83 rfl ?_
    refine r_iaload dX12_valueAt_84 (ar_66 hE) ?_
    exact r_ireturn dX12_valueAt_85 rfl rfl
  refine r_sw1 (fun h7 => ?_) (fun h7 => ?_)
  · refine r_jmp (t := 86) dX12_valueAt_1 rfl (by rw [h7]; rfl) ?_
    refine r_aload_n (x := 60) dX12_valueAt_86 rfl ?_
    refine r_getA dX12_valueAt_87 (fa_12_30_60 hE) ?_
    refine r_iload_n (x := a2) dX12_valueAt_90 rfl ?_
    refine r_iaload dX12_valueAt_91 (ar_67 hE) ?_
    exact r_ireturn dX12_valueAt_92 rfl rfl
  refine r_jmp (t := 93) dX12_valueAt_1 rfl ?_ ?_
  · have h8 := sw_lo (v := a1.toInt) 0
    have h8 := sw_st h8 h1
    have h8 := sw_st h8 h2
    have h8 := sw_st h8 h3
    have h8 := sw_st h8 h4
    have h8 := sw_st h8 h5
    have h8 := sw_st h8 h6
    have h8 := sw_st h8 h7
    exact sw_df h8 (by decide) rfl
  refine r_aload_n (x := 60) dX12_valueAt_93 rfl ?_
  refine r_getA dX12_valueAt_94 (fa_12_33_60 hE) ?_
  refine r_iload_n (x := a1) dX12_valueAt_97 rfl ?_
  refine r_bipush (v := (7 : Int32)) dX12_valueAt_98 rfl ?_
  refine r_isub dX12_valueAt_100 ?_
  refine r_iaload dX12_valueAt_101 (ar_68 hE) ?_
  exact r_ireturn dX12_valueAt_102 rfl rfl
def f_X12_of (q : SS) (a1 : Int32) (a2 : Int32) : Option (Int32 × SS) :=
  (f_X12_in q a2 (9 : Int32) (10 : Int32)).bind fun r1 =>
  if r1 = 0 then
  ((f_X12_isPlace q a1 a2).bind fun r2 =>
  if r2 = 0 then
  (some ((-1 : Int32), q))
  else
  ((f_X12_valueAt q a2 a1).bind fun r3 =>
  some (r3, q)))
  else
  ((f_X12_isOne q a1).bind fun r5 =>
  if r5 = 0 then
  (some ((-1 : Int32), q))
  else
  ((f_X12_layNow q).bind fun r6 =>
  if a2 = (9 : Int32) then
  ((f_X12_manyOf r6 a1).bind fun r7 =>
  some (r7, r6))
  else
  ((f_X12_realOf r6 a1).bind fun r8 =>
  some (r8, r6))))
theorem e_X12_of {E : EE} (hE : GE E) (q : SS) (a1 : Int32) (a2 : Int32) : R E (κI E) 3 206 0 [(0, .ref 60), (1, .int a1), (2, .int a2)] [] q (f_X12_of q a1 a2) := by
  unfold f_X12_of
  refine r_iload_n (x := a2) dX12_of_0 rfl ?_
  refine r_bipush (v := (9 : Int32)) dX12_of_1 rfl ?_
  refine r_bipush (v := (10 : Int32)) dX12_of_3 rfl ?_
  refine r_calli (k := 2) (idx := 118) (y := 189) (as := [.int a2, .int (9 : Int32), .int (10 : Int32)]) (rest := []) (L0 := [(0, .int a2), (1, .int (9 : Int32)), (2, .int (10 : Int32))]) dX12_of_5 rfl rfl rfl rfl rfl vok_s rfl (r_dep (by decide) (e_X12_in hE q a2 (9 : Int32) (10 : Int32))) (fun r1 => ?_)
  refine r_if_eq (t := 45) dX12_of_8 rfl (fun h11 => ?_) (fun h11 => ?_)
  · refine r_aload_n (x := 60) dX12_of_45 rfl ?_
    refine r_iload_n (x := a1) dX12_of_46 rfl ?_
    refine r_iload_n (x := a2) dX12_of_47 rfl ?_
    refine r_calli (k := 0) (idx := 159) (y := 203) (as := [.ref 60, .int a1, .int a2]) (rest := []) (L0 := [(0, .ref 60), (1, .int a1), (2, .int a2)]) dX12_of_48 rfl rfl rfl rfl rfl (vok_v (ob_60 hE) rfl) rfl (r_dep (by decide) (e_X12_isPlace hE q a1 a2)) (fun r2 => ?_)
    refine r_if_eq (t := 63) dX12_of_51 rfl (fun h4 => ?_) (fun h4 => ?_)
    · refine r_iconst (v := (-1 : Int32)) dX12_of_63 rfl ?_
      exact r_ireturn dX12_of_64 rfl rfl
    · refine r_aload_n (x := 60) dX12_of_54 rfl ?_
      refine r_iload_n (x := a2) dX12_of_55 rfl ?_
      refine r_iload_n (x := a1) dX12_of_56 rfl ?_
      refine r_calli (k := 0) (idx := 142) (y := 198) (as := [.ref 60, .int a2, .int a1]) (rest := []) (L0 := [(0, .ref 60), (1, .int a2), (2, .int a1)]) dX12_of_57 rfl rfl rfl rfl rfl (vok_v (ob_60 hE) rfl) rfl (r_dep (by decide) (e_X12_valueAt hE q a2 a1)) (fun r3 => ?_)
      refine r_goto (t := 64) dX12_of_60 rfl ?_
      exact r_ireturn dX12_of_64 rfl rfl
  · refine r_aload_n (x := 60) dX12_of_11 rfl ?_
    refine r_iload_n (x := a1) dX12_of_12 rfl ?_
    refine r_calli (k := 0) (idx := 125) (y := 191) (as := [.ref 60, .int a1]) (rest := []) (L0 := [(0, .ref 60), (1, .int a1)]) dX12_of_13 rfl rfl rfl rfl rfl (vok_v (ob_60 hE) rfl) rfl (r_dep (by decide) (e_X12_isOne hE q a1)) (fun r5 => ?_)
    refine r_if_ne (t := 21) dX12_of_16 rfl (fun h10 => ?_) (fun h10 => ?_)
    · refine r_iconst (v := (-1 : Int32)) dX12_of_19 rfl ?_
      exact r_ireturn dX12_of_20 rfl rfl
    · refine r_aload_n (x := 60) dX12_of_21 rfl ?_
      refine r_callV (k := 0) (idx := 168) (y := 226) (as := [.ref 60]) (rest := []) (L0 := [(0, .ref 60)]) dX12_of_22 rfl rfl rfl rfl rfl (vok_v (ob_60 hE) rfl) rfl (r_dep (by decide) (e_X12_layNow hE q)) (fun r6 => ?_)
      refine r_iload_n (x := a2) dX12_of_25 rfl ?_
      refine r_bipush (v := (9 : Int32)) dX12_of_26 rfl ?_
      refine r_icmp_ne (t := 39) dX12_of_28 rfl (fun h9 => ?_) (fun h9 => ?_)
      · refine r_aload_n (x := 60) dX12_of_31 rfl ?_
        refine r_iload_n (x := a1) dX12_of_32 rfl ?_
        refine r_calli (k := 0) (idx := 171) (y := 227) (as := [.ref 60, .int a1]) (rest := []) (L0 := [(0, .ref 60), (1, .int a1)]) dX12_of_33 rfl rfl rfl rfl rfl (vok_v (ob_60 hE) rfl) rfl (r_dep (by decide) (e_X12_manyOf hE r6 a1)) (fun r7 => ?_)
        refine r_goto (t := 44) dX12_of_36 rfl ?_
        exact r_ireturn dX12_of_44 rfl rfl
      · refine r_aload_n (x := 60) dX12_of_39 rfl ?_
        refine r_iload_n (x := a1) dX12_of_40 rfl ?_
        refine r_calli (k := 0) (idx := 175) (y := 228) (as := [.ref 60, .int a1]) (rest := []) (L0 := [(0, .ref 60), (1, .int a1)]) dX12_of_41 rfl rfl rfl rfl rfl (vok_v (ob_60 hE) rfl) rfl (r_dep (by decide) (e_X12_realOf hE r6 a1)) (fun r8 => ?_)
        exact r_ireturn dX12_of_44 rfl rfl
def f_X10_mayBe (q : SS) (a1 : Int32) (a2 : Int32) : Option Int32 :=
  if a1 < 0 then
  (some (0 : Int32))
  else
  (if a1 ≤ (8 : Int32) then
  (if a1 = (4 : Int32) then
  ((f_X10_isPerson q a2).bind fun r1 =>
  if r1 = 0 ∨ r1 = 1 then some r1 else none)
  else
  (if a2 < 0 then
  (some (0 : Int32))
  else
  (if vin a1 9 then
  if (stV 3 a1.toNatClampNeg) < a2 then
  (some (0 : Int32))
  else
  (some (1 : Int32))
  else none)))
  else
  (some (0 : Int32)))
theorem e_X10_mayBe {E : EE} (hE : GE E) (q : SS) (a1 : Int32) (a2 : Int32) : R E (κi E q) 1 133 0 [(0, .ref 1), (1, .int a1), (2, .int a2)] [] q (f_X10_mayBe q a1 a2) := by
  unfold f_X10_mayBe
  refine r_iload_n (x := a1) dX10_mayBe_0 rfl ?_
  refine r_if_lt (t := 10) dX10_mayBe_1 rfl (fun h6 => ?_) (fun h6 => ?_)
  · refine r_iconst (v := (0 : Int32)) dX10_mayBe_10 rfl ?_
    exact r_ireturn dX10_mayBe_11 rfl rfl
  · refine r_iload_n (x := a1) dX10_mayBe_4 rfl ?_
    refine r_bipush (v := (8 : Int32)) dX10_mayBe_5 rfl ?_
    refine r_icmp_le (t := 12) dX10_mayBe_7 rfl (fun h5 => ?_) (fun h5 => ?_)
    · refine r_iload_n (x := a1) dX10_mayBe_12 rfl ?_
      refine r_iconst (v := (4 : Int32)) dX10_mayBe_13 rfl ?_
      refine r_icmp_ne (t := 25) dX10_mayBe_14 rfl (fun h4 => ?_) (fun h4 => ?_)
      · refine r_aload_n (x := 1) dX10_mayBe_17 rfl ?_
        refine r_iload_n (x := a2) dX10_mayBe_18 rfl ?_
        refine r_calli (k := 0) (idx := 31) (y := 128) (as := [.ref 1, .int a2]) (rest := []) (L0 := [(0, .ref 1), (1, .int a2)]) dX10_mayBe_19 rfl rfl rfl rfl rfl (vok_v (ob_1 hE) rfl) rfl (r_dep (by decide) (e_X10_isPerson hE q a2)) (fun r1 => ?_)
        refine r_goto (t := 43) dX10_mayBe_22 rfl ?_
        exact r_zreturn dX10_mayBe_43 rfl rfl
      · refine r_iload_n (x := a2) dX10_mayBe_25 rfl ?_
        refine r_if_lt (t := 42) dX10_mayBe_26 rfl (fun h3 => ?_) (fun h3 => ?_)
        · refine r_iconst (v := (0 : Int32)) dX10_mayBe_42 rfl ?_
          exact r_ireturn dX10_mayBe_43 rfl rfl
        · refine r_iload_n (x := a2) dX10_mayBe_29 rfl ?_
          refine r_gets (j := 3) dX10_mayBe_30 rfl ?_
          refine r_iload_n (x := a1) dX10_mayBe_33 rfl ?_
          refine r_stload (n := 9) dX10_mayBe_34 rfl rfl (by decide) ?_
          refine r_icmp_gt (t := 42) dX10_mayBe_35 rfl (fun h2 => ?_) (fun h2 => ?_)
          · refine r_iconst (v := (0 : Int32)) dX10_mayBe_42 rfl ?_
            exact r_ireturn dX10_mayBe_43 rfl rfl
          · refine r_iconst (v := (1 : Int32)) dX10_mayBe_38 rfl ?_
            refine r_goto (t := 43) dX10_mayBe_39 rfl ?_
            exact r_ireturn dX10_mayBe_43 rfl rfl
    · refine r_iconst (v := (0 : Int32)) dX10_mayBe_10 rfl ?_
      exact r_ireturn dX10_mayBe_11 rfl rfl
def f_X0_forgetOldest (q : SS)  : Option SS :=
  if cpok 40 40 (1 : Int32) (0 : Int32) (39 : Int32) then
  nm (sR q 53 (va_cpy (q.1 53) (q.1 53) (1 : Int32).toNatClampNeg (0 : Int32).toNatClampNeg (39 : Int32).toNatClampNeg)) fun q1 =>
  if cpok 40 40 (1 : Int32) (0 : Int32) (39 : Int32) then
  nm (sR q1 54 (va_cpy (q1.1 54) (q1.1 54) (1 : Int32).toNatClampNeg (0 : Int32).toNatClampNeg (39 : Int32).toNatClampNeg)) fun q2 =>
  if cpok 40 40 (1 : Int32) (0 : Int32) (39 : Int32) then
  nm (sR q2 55 (va_cpy (q2.1 55) (q2.1 55) (1 : Int32).toNatClampNeg (0 : Int32).toNatClampNeg (39 : Int32).toNatClampNeg)) fun q3 =>
  if cpok 40 40 (1 : Int32) (0 : Int32) (39 : Int32) then
  nm (sR q3 56 (va_cpy (q3.1 56) (q3.1 56) (1 : Int32).toNatClampNeg (0 : Int32).toNatClampNeg (39 : Int32).toNatClampNeg)) fun q4 =>
  nm (sI q4 52 5 (39 : Int32)) fun q5 =>
  some q5
  else none
  else none
  else none
  else none
theorem e_X0_forgetOldest {E : EE} (hE : GE E) (q : SS)  : R E (κV E) 1 4 0 [(0, .ref 52)] [] q (f_X0_forgetOldest q) := by
  unfold f_X0_forgetOldest
  refine r_aload_n (x := 52) dX0_forgetOldest_0 rfl ?_
  refine r_getA dX0_forgetOldest_1 (fa_0_13_52 hE) ?_
  refine r_iconst (v := (1 : Int32)) dX0_forgetOldest_4 rfl ?_
  refine r_aload_n (x := 52) dX0_forgetOldest_5 rfl ?_
  refine r_getA dX0_forgetOldest_6 (fa_0_13_52 hE) ?_
  refine r_iconst (v := (0 : Int32)) dX0_forgetOldest_9 rfl ?_
  refine r_bipush (v := (39 : Int32)) dX0_forgetOldest_10 rfl ?_
  refine r_cpyI dX0_forgetOldest_12 ⟨rfl, rfl, rfl⟩ (ar_53 hE) (ar_53 hE) rfl ?_
  refine r_nmS fun q1 _ => ?_
  refine r_aload_n (x := 52) dX0_forgetOldest_15 rfl ?_
  refine r_getA dX0_forgetOldest_16 (fa_0_17_52 hE) ?_
  refine r_iconst (v := (1 : Int32)) dX0_forgetOldest_19 rfl ?_
  refine r_aload_n (x := 52) dX0_forgetOldest_20 rfl ?_
  refine r_getA dX0_forgetOldest_21 (fa_0_17_52 hE) ?_
  refine r_iconst (v := (0 : Int32)) dX0_forgetOldest_24 rfl ?_
  refine r_bipush (v := (39 : Int32)) dX0_forgetOldest_25 rfl ?_
  refine r_cpyI dX0_forgetOldest_27 ⟨rfl, rfl, rfl⟩ (ar_54 hE) (ar_54 hE) rfl ?_
  refine r_nmS fun q2 _ => ?_
  refine r_aload_n (x := 52) dX0_forgetOldest_30 rfl ?_
  refine r_getA dX0_forgetOldest_31 (fa_0_20_52 hE) ?_
  refine r_iconst (v := (1 : Int32)) dX0_forgetOldest_34 rfl ?_
  refine r_aload_n (x := 52) dX0_forgetOldest_35 rfl ?_
  refine r_getA dX0_forgetOldest_36 (fa_0_20_52 hE) ?_
  refine r_iconst (v := (0 : Int32)) dX0_forgetOldest_39 rfl ?_
  refine r_bipush (v := (39 : Int32)) dX0_forgetOldest_40 rfl ?_
  refine r_cpyI dX0_forgetOldest_42 ⟨rfl, rfl, rfl⟩ (ar_55 hE) (ar_55 hE) rfl ?_
  refine r_nmS fun q3 _ => ?_
  refine r_aload_n (x := 52) dX0_forgetOldest_45 rfl ?_
  refine r_getA dX0_forgetOldest_46 (fa_0_23_52 hE) ?_
  refine r_iconst (v := (1 : Int32)) dX0_forgetOldest_49 rfl ?_
  refine r_aload_n (x := 52) dX0_forgetOldest_50 rfl ?_
  refine r_getA dX0_forgetOldest_51 (fa_0_23_52 hE) ?_
  refine r_iconst (v := (0 : Int32)) dX0_forgetOldest_54 rfl ?_
  refine r_bipush (v := (39 : Int32)) dX0_forgetOldest_55 rfl ?_
  refine r_cpyI dX0_forgetOldest_57 ⟨rfl, rfl, rfl⟩ (ar_56 hE) (ar_56 hE) rfl ?_
  refine r_nmS fun q4 _ => ?_
  refine r_aload_n (x := 52) dX0_forgetOldest_60 rfl ?_
  refine r_bipush (v := (39 : Int32)) dX0_forgetOldest_61 rfl ?_
  refine r_putI dX0_forgetOldest_63 (ff_0_26_52 hE) ?_
  refine r_nmS fun q5 _ => ?_
  exact r_return dX0_forgetOldest_66 rfl rfl
def b_X0_add_13 (q : SS) (l1 : Int32) (l2 : Int32) (l3 : Int32) (l4 : Int32) : Option SS :=
  if vin (q.1 52 5) 40 then
  nm (sI q 53 (q.1 52 5).toNatClampNeg l1) fun q1 =>
  if vin (q1.1 52 5) 40 then
  nm (sI q1 54 (q1.1 52 5).toNatClampNeg l2) fun q2 =>
  if vin (q2.1 52 5) 40 then
  nm (sI q2 55 (q2.1 52 5).toNatClampNeg l3) fun q3 =>
  if vin (q3.1 52 5) 40 then
  nm (sI q3 56 (q3.1 52 5).toNatClampNeg l4) fun q4 =>
  nm (sI q4 52 5 ((q4.1 52 5) + (1 : Int32))) fun q5 =>
  nm (sI q5 52 6 (0 : Int32)) fun q6 =>
  some q6
  else none
  else none
  else none
  else none
theorem rb_X0_add_13 {E : EE} (hE : GE E) (q : SS) (l1 : Int32) (l2 : Int32) (l3 : Int32) (l4 : Int32) : R E (κV E) 2 3 13 [(0, .ref 52), (1, .int l1), (2, .int l2), (3, .int l3), (4, .int l4)] [] q (b_X0_add_13 q l1 l2 l3 l4) := by
  unfold b_X0_add_13
  refine r_aload_n (x := 52) dX0_add_13 rfl ?_
  refine r_getA dX0_add_14 (fa_0_13_52 hE) ?_
  refine r_aload_n (x := 52) dX0_add_17 rfl ?_
  refine r_getI dX0_add_18 (ff_0_26_52 hE) (by decide) ?_
  refine r_iload_n (x := l1) dX0_add_21 rfl ?_
  refine r_iastore dX0_add_22 (ar_53 hE) ?_
  refine r_nmS fun q1 _ => ?_
  refine r_aload_n (x := 52) dX0_add_23 rfl ?_
  refine r_getA dX0_add_24 (fa_0_17_52 hE) ?_
  refine r_aload_n (x := 52) dX0_add_27 rfl ?_
  refine r_getI dX0_add_28 (ff_0_26_52 hE) (by decide) ?_
  refine r_iload_n (x := l2) dX0_add_31 rfl ?_
  refine r_iastore dX0_add_32 (ar_54 hE) ?_
  refine r_nmS fun q2 _ => ?_
  refine r_aload_n (x := 52) dX0_add_33 rfl ?_
  refine r_getA dX0_add_34 (fa_0_20_52 hE) ?_
  refine r_aload_n (x := 52) dX0_add_37 rfl ?_
  refine r_getI dX0_add_38 (ff_0_26_52 hE) (by decide) ?_
  refine r_iload_n (x := l3) dX0_add_41 rfl ?_
  refine r_iastore dX0_add_42 (ar_55 hE) ?_
  refine r_nmS fun q3 _ => ?_
  refine r_aload_n (x := 52) dX0_add_43 rfl ?_
  refine r_getA dX0_add_44 (fa_0_23_52 hE) ?_
  refine r_aload_n (x := 52) dX0_add_47 rfl ?_
  refine r_getI dX0_add_48 (ff_0_26_52 hE) (by decide) ?_
  refine r_iload (x := l4) dX0_add_51 rfl ?_
  refine r_iastore dX0_add_53 (ar_56 hE) ?_
  refine r_nmS fun q4 _ => ?_
  refine r_aload_n (x := 52) dX0_add_54 rfl ?_
  refine r_dup dX0_add_55 rfl ?_
  refine r_getI dX0_add_56 (ff_0_26_52 hE) (by decide) ?_
  refine r_iconst (v := (1 : Int32)) dX0_add_59 rfl ?_
  refine r_iadd dX0_add_60 ?_
  refine r_putI dX0_add_61 (ff_0_26_52 hE) ?_
  refine r_nmS fun q5 _ => ?_
  refine r_aload_n (x := 52) dX0_add_64 rfl ?_
  refine r_iconst (v := (0 : Int32)) dX0_add_65 rfl ?_
  refine r_putI dX0_add_66 (ff_0_30_52 hE) ?_
  refine r_nmS fun q6 _ => ?_
  exact r_return dX0_add_69 rfl rfl
def f_X0_add (q : SS) (a1 : Int32) (a2 : Int32) (a3 : Int32) (a4 : Int32) : Option SS :=
  if (q.1 52 5) < (40 : Int32) then
  (b_X0_add_13 q a1 a2 a3 a4)
  else
  ((f_X0_forgetOldest q).bind fun r7 =>
  b_X0_add_13 r7 a1 a2 a3 a4)
theorem e_X0_add {E : EE} (hE : GE E) (q : SS) (a1 : Int32) (a2 : Int32) (a3 : Int32) (a4 : Int32) : R E (κV E) 2 3 0 [(0, .ref 52), (1, .int a1), (2, .int a2), (3, .int a3), (4, .int a4)] [] q (f_X0_add q a1 a2 a3 a4) := by
  unfold f_X0_add
  refine r_aload_n (x := 52) dX0_add_0 rfl ?_
  refine r_getI dX0_add_1 (ff_0_26_52 hE) (by decide) ?_
  refine r_bipush (v := (40 : Int32)) dX0_add_4 rfl ?_
  refine r_icmp_lt (t := 13) dX0_add_6 rfl (fun h8 => ?_) (fun h8 => ?_)
  · exact r_sub (L' := [(0, .ref 52), (1, .int a1), (2, .int a2), (3, .int a3), (4, .int a4)]) (sub_c rfl (sub_c rfl (sub_c rfl (sub_c rfl (sub_c rfl sub_n))))) (rb_X0_add_13 hE q a1 a2 a3 a4)
  · refine r_aload_n (x := 52) dX0_add_9 rfl ?_
    refine r_callV (k := 0) (idx := 33) (y := 4) (as := [.ref 52]) (rest := []) (L0 := [(0, .ref 52)]) dX0_add_10 rfl rfl rfl rfl rfl (vok_v (ob_52 hE) rfl) rfl (r_dep (by decide) (e_X0_forgetOldest hE q)) (fun r7 => ?_)
    exact r_sub (L' := [(0, .ref 52), (1, .int a1), (2, .int a2), (3, .int a3), (4, .int a4)]) (sub_c rfl (sub_c rfl (sub_c rfl (sub_c rfl (sub_c rfl sub_n))))) (rb_X0_add_13 hE r7 a1 a2 a3 a4)
def f_X11_mend (q : SS) (a1 : Int32) (a2 : Int32) (a3 : Int32) : Option (Int32 × SS) :=
  (f_X10_hasNumber q a2 a1).bind fun r1 =>
  if r1 = 0 then
  (some ((-1 : Int32), q))
  else
  ((f_X10_mayBe q a2 a3).bind fun r2 =>
  if r2 = 0 then
  (some ((-1 : Int32), q))
  else
  ((f_X10_get q a2 a1).bind fun r3 =>
  if r3 = a3 then
  (some (r3, q))
  else
  ((f_X0_add q a2 a1 r3 a3).bind fun r4 =>
  (f_X10_set r4 a2 a1 a3).bind fun r5 =>
  some (r3, r5))))
theorem e_X11_mend {E : EE} (hE : GE E) (q : SS) (a1 : Int32) (a2 : Int32) (a3 : Int32) : R E (κI E) 3 143 0 [(0, .ref 0), (1, .int a1), (2, .int a2), (3, .int a3)] [] q (f_X11_mend q a1 a2 a3) := by
  unfold f_X11_mend
  refine r_aload_n (x := 0) dX11_mend_0 rfl ?_
  refine r_getA dX11_mend_1 (fa_11_10_0 hE) ?_
  refine r_iload_n (x := a2) dX11_mend_4 rfl ?_
  refine r_iload_n (x := a1) dX11_mend_5 rfl ?_
  refine r_calli (k := 0) (idx := 126) (y := 132) (as := [.ref 1, .int a2, .int a1]) (rest := []) (L0 := [(0, .ref 1), (1, .int a2), (2, .int a1)]) dX11_mend_6 rfl rfl rfl rfl rfl (vok_v (ob_1 hE) rfl) rfl (r_dep (by decide) (e_X10_hasNumber hE q a2 a1)) (fun r1 => ?_)
  refine r_if_eq (t := 24) dX11_mend_9 rfl (fun h8 => ?_) (fun h8 => ?_)
  · refine r_iconst (v := (-1 : Int32)) dX11_mend_24 rfl ?_
    exact r_ireturn dX11_mend_25 rfl rfl
  · refine r_aload_n (x := 0) dX11_mend_12 rfl ?_
    refine r_getA dX11_mend_13 (fa_11_10_0 hE) ?_
    refine r_iload_n (x := a2) dX11_mend_16 rfl ?_
    refine r_iload_n (x := a3) dX11_mend_17 rfl ?_
    refine r_calli (k := 0) (idx := 94) (y := 133) (as := [.ref 1, .int a2, .int a3]) (rest := []) (L0 := [(0, .ref 1), (1, .int a2), (2, .int a3)]) dX11_mend_18 rfl rfl rfl rfl rfl (vok_v (ob_1 hE) rfl) rfl (r_dep (by decide) (e_X10_mayBe hE q a2 a3)) (fun r2 => ?_)
    refine r_if_ne (t := 26) dX11_mend_21 rfl (fun h7 => ?_) (fun h7 => ?_)
    · refine r_iconst (v := (-1 : Int32)) dX11_mend_24 rfl ?_
      exact r_ireturn dX11_mend_25 rfl rfl
    · refine r_aload_n (x := 0) dX11_mend_26 rfl ?_
      refine r_getA dX11_mend_27 (fa_11_10_0 hE) ?_
      refine r_iload_n (x := a2) dX11_mend_30 rfl ?_
      refine r_iload_n (x := a1) dX11_mend_31 rfl ?_
      refine r_calli (k := 0) (idx := 129) (y := 134) (as := [.ref 1, .int a2, .int a1]) (rest := []) (L0 := [(0, .ref 1), (1, .int a2), (2, .int a1)]) dX11_mend_32 rfl rfl rfl rfl rfl (vok_v (ob_1 hE) rfl) rfl (r_dep (by decide) (e_X10_get hE q a2 a1)) (fun r3 => ?_)
      refine r_istore (L2 := [(0, .ref 0), (1, .int a1), (2, .int a2), (3, .int a3), (4, .int r3)]) dX11_mend_35 rfl rfl ?_
      refine r_iload (x := r3) dX11_mend_37 rfl ?_
      refine r_iload_n (x := a3) dX11_mend_39 rfl ?_
      refine r_icmp_eq (t := 65) dX11_mend_40 rfl (fun h6 => ?_) (fun h6 => ?_)
      · refine r_iload (x := r3) dX11_mend_65 rfl ?_
        exact r_ireturn dX11_mend_67 rfl rfl
      · refine r_aload_n (x := 0) dX11_mend_43 rfl ?_
        refine r_getA dX11_mend_44 (fa_11_83_0 hE) ?_
        refine r_iload_n (x := a2) dX11_mend_47 rfl ?_
        refine r_iload_n (x := a1) dX11_mend_48 rfl ?_
        refine r_iload (x := r3) dX11_mend_49 rfl ?_
        refine r_iload_n (x := a3) dX11_mend_51 rfl ?_
        refine r_callV (k := 0) (idx := 132) (y := 3) (as := [.ref 52, .int a2, .int a1, .int r3, .int a3]) (rest := []) (L0 := [(0, .ref 52), (1, .int a2), (2, .int a1), (3, .int r3), (4, .int a3)]) dX11_mend_52 rfl rfl rfl rfl rfl (vok_v (ob_52 hE) rfl) rfl (r_dep (by decide) (e_X0_add hE q a2 a1 r3 a3)) (fun r4 => ?_)
        refine r_aload_n (x := 0) dX11_mend_55 rfl ?_
        refine r_getA dX11_mend_56 (fa_11_10_0 hE) ?_
        refine r_iload_n (x := a2) dX11_mend_59 rfl ?_
        refine r_iload_n (x := a1) dX11_mend_60 rfl ?_
        refine r_iload_n (x := a3) dX11_mend_61 rfl ?_
        refine r_callV (k := 0) (idx := 136) (y := 135) (as := [.ref 1, .int a2, .int a1, .int a3]) (rest := []) (L0 := [(0, .ref 1), (1, .int a2), (2, .int a1), (3, .int a3)]) dX11_mend_62 rfl rfl rfl rfl rfl (vok_v (ob_1 hE) rfl) rfl (r_dep (by decide) (e_X10_set hE r4 a2 a1 a3)) (fun r5 => ?_)
        refine r_iload (x := r3) dX11_mend_65 rfl ?_
        exact r_ireturn dX11_mend_67 rfl rfl
def f_X12_mayHave (q : SS) (a1 : Int32) (a2 : Int32) : Option Int32 :=
  sw a1 [(0, ((f_X12_in q a2 (0 : Int32) (12 : Int32)).bind fun r2 =>
  if r2 = 0 ∨ r2 = 1 then some r2 else none)), (1, ((f_X12_in q a2 (0 : Int32) (1 : Int32)).bind fun r4 =>
  if r4 = 0 ∨ r4 = 1 then some r4 else none)), (2, ((f_X12_in q a2 (0 : Int32) (99 : Int32)).bind fun r6 =>
  if r6 = 0 ∨ r6 = 1 then some r6 else none)), (3, ((f_X12_in q a2 (0 : Int32) (9 : Int32)).bind fun r8 =>
  if r8 = 0 ∨ r8 = 1 then some r8 else none)), (4, ((f_X12_isOne q a2).bind fun r10 =>
  if r10 = 0 ∨ r10 = 1 then some r10 else none)), (5, ((f_X12_in q a2 (0 : Int32) (1 : Int32)).bind fun r12 =>
  if r12 = 0 ∨ r12 = 1 then some r12 else none)), (6, ((f_X12_in q a2 (0 : Int32) (4 : Int32)).bind fun r14 =>
  if r14 = 0 ∨ r14 = 1 then some r14 else none)), (7, ((f_X12_in q a2 (0 : Int32) (11 : Int32)).bind fun r16 =>
  if r16 = 0 ∨ r16 = 1 then some r16 else none))]
  ((f_X12_in q a2 (0 : Int32) (9 : Int32)).bind fun r17 =>
  if r17 = 0 ∨ r17 = 1 then some r17 else none)
theorem e_X12_mayHave {E : EE} (hE : GE E) (q : SS) (a1 : Int32) (a2 : Int32) : R E (κi E q) 2 204 0 [(0, .ref 60), (1, .int a1), (2, .int a2)] [] q (f_X12_mayHave q a1 a2) := by
  unfold f_X12_mayHave
  refine r_iload_n (x := a1) dX12_mayHave_0 rfl ?_
  refine r_sw1 (fun h1 => ?_) (fun h1 => ?_)
  · refine r_jmp (t := 48) dX12_mayHave_1 rfl (by rw [h1]; rfl) ?_
    refine r_iload_n (x := a2) dX12_mayHave_48 rfl ?_
    refine r_iconst (v := (0 : Int32)) dX12_mayHave_49 rfl ?_
    refine r_bipush (v := (12 : Int32)) dX12_mayHave_50 rfl ?_
    refine r_calli (k := 2) (idx := 118) (y := 189) (as := [.int a2, .int (0 : Int32), .int (12 : Int32)]) (rest := []) (L0 := [(0, .int a2), (1, .int (0 : Int32)), (2, .int (12 : Int32))]) dX12_mayHave_52 rfl rfl rfl rfl rfl vok_s rfl (r_dep (by decide) (e_X12_in hE q a2 (0 : Int32) (12 : Int32))) (fun r2 => ?_)
    exact r_zreturn dX12_mayHave_55 rfl rfl
  refine r_sw1 (fun h3 => ?_) (fun h3 => ?_)
  · refine r_jmp (t := 56) dX12_mayHave_1 rfl (by rw [h3]; rfl) ?_
    refine r_iload_n (x := a2) dX12_mayHave_56 rfl ?_
    refine r_iconst (v := (0 : Int32)) dX12_mayHave_57 rfl ?_
    refine r_iconst (v := (1 : Int32)) dX12_mayHave_58 rfl ?_
    refine r_calli (k := 2) (idx := 118) (y := 189) (as := [.int a2, .int (0 : Int32), .int (1 : Int32)]) (rest := []) (L0 := [(0, .int a2), (1, .int (0 : Int32)), (2, .int (1 : Int32))]) dX12_mayHave_59 rfl rfl rfl rfl rfl vok_s rfl (r_dep (by decide) (e_X12_in hE q a2 (0 : Int32) (1 : Int32))) (fun r4 => ?_)
    exact r_zreturn dX12_mayHave_62 rfl rfl
  refine r_sw1 (fun h5 => ?_) (fun h5 => ?_)
  · refine r_jmp (t := 63) dX12_mayHave_1 rfl (by rw [h5]; rfl) ?_
    refine r_iload_n (x := a2) dX12_mayHave_63 rfl ?_
    refine r_iconst (v := (0 : Int32)) dX12_mayHave_64 rfl ?_
    refine r_bipush (v := (99 : Int32)) dX12_mayHave_65 rfl ?_
    refine r_calli (k := 2) (idx := 118) (y := 189) (as := [.int a2, .int (0 : Int32), .int (99 : Int32)]) (rest := []) (L0 := [(0, .int a2), (1, .int (0 : Int32)), (2, .int (99 : Int32))]) dX12_mayHave_67 rfl rfl rfl rfl rfl vok_s rfl (r_dep (by decide) (e_X12_in hE q a2 (0 : Int32) (99 : Int32))) (fun r6 => ?_)
    exact r_zreturn dX12_mayHave_70 rfl rfl
  refine r_sw1 (fun h7 => ?_) (fun h7 => ?_)
  · refine r_jmp (t := 71) dX12_mayHave_1 rfl (by rw [h7]; rfl) ?_
    refine r_iload_n (x := a2) dX12_mayHave_71 rfl ?_
    refine r_iconst (v := (0 : Int32)) dX12_mayHave_72 rfl ?_
    refine r_bipush (v := (9 : Int32)) dX12_mayHave_73 rfl ?_
    refine r_calli (k := 2) (idx := 118) (y := 189) (as := [.int a2, .int (0 : Int32), .int (9 : Int32)]) (rest := []) (L0 := [(0, .int a2), (1, .int (0 : Int32)), (2, .int (9 : Int32))]) dX12_mayHave_75 rfl rfl rfl rfl rfl vok_s rfl (r_dep (by decide) (e_X12_in hE q a2 (0 : Int32) (9 : Int32))) (fun r8 => ?_)
    exact r_zreturn dX12_mayHave_78 rfl rfl
  refine r_sw1 (fun h9 => ?_) (fun h9 => ?_)
  · refine r_jmp (t := 79) dX12_mayHave_1 rfl (by rw [h9]; rfl) ?_
    refine r_aload_n (x := 60) dX12_mayHave_79 rfl ?_
    refine r_iload_n (x := a2) dX12_mayHave_80 rfl ?_
    refine r_calli (k := 0) (idx := 125) (y := 191) (as := [.ref 60, .int a2]) (rest := []) (L0 := [(0, .ref 60), (1, .int a2)]) dX12_mayHave_81 rfl rfl rfl rfl rfl (vok_v (ob_60 hE) rfl) rfl (r_dep (by decide) (e_X12_isOne hE q a2)) (fun r10 => ?_)
    exact r_zreturn dX12_mayHave_84 rfl rfl
  refine r_sw1 (fun h11 => ?_) (fun h11 => ?_)
  · refine r_jmp (t := 85) dX12_mayHave_1 rfl (by rw [h11]; rfl) ?_
    refine r_iload_n (x := a2) dX12_mayHave_85 rfl ?_
    refine r_iconst (v := (0 : Int32)) dX12_mayHave_86 rfl ?_
    refine r_iconst (v := (1 : Int32)) dX12_mayHave_87 rfl ?_
    refine r_calli (k := 2) (idx := 118) (y := 189) (as := [.int a2, .int (0 : Int32), .int (1 : Int32)]) (rest := []) (L0 := [(0, .int a2), (1, .int (0 : Int32)), (2, .int (1 : Int32))]) dX12_mayHave_88 rfl rfl rfl rfl rfl vok_s rfl (r_dep (by decide) (e_X12_in hE q a2 (0 : Int32) (1 : Int32))) (fun r12 => ?_)
    exact r_zreturn dX12_mayHave_91 rfl rfl
  refine r_sw1 (fun h13 => ?_) (fun h13 => ?_)
  · refine r_jmp (t := 92) dX12_mayHave_1 rfl (by rw [h13]; rfl) ?_
    refine r_iload_n (x := a2) dX12_mayHave_92 rfl ?_
    refine r_iconst (v := (0 : Int32)) dX12_mayHave_93 rfl ?_
    refine r_iconst (v := (4 : Int32)) dX12_mayHave_94 rfl ?_
    refine r_calli (k := 2) (idx := 118) (y := 189) (as := [.int a2, .int (0 : Int32), .int (4 : Int32)]) (rest := []) (L0 := [(0, .int a2), (1, .int (0 : Int32)), (2, .int (4 : Int32))]) dX12_mayHave_95 rfl rfl rfl rfl rfl vok_s rfl (r_dep (by decide) (e_X12_in hE q a2 (0 : Int32) (4 : Int32))) (fun r14 => ?_)
    exact r_zreturn dX12_mayHave_98 rfl rfl
  refine r_sw1 (fun h15 => ?_) (fun h15 => ?_)
  · refine r_jmp (t := 99) dX12_mayHave_1 rfl (by rw [h15]; rfl) ?_
    refine r_iload_n (x := a2) dX12_mayHave_99 rfl ?_
    refine r_iconst (v := (0 : Int32)) dX12_mayHave_100 rfl ?_
    refine r_bipush (v := (11 : Int32)) dX12_mayHave_101 rfl ?_
    refine r_calli (k := 2) (idx := 118) (y := 189) (as := [.int a2, .int (0 : Int32), .int (11 : Int32)]) (rest := []) (L0 := [(0, .int a2), (1, .int (0 : Int32)), (2, .int (11 : Int32))]) dX12_mayHave_103 rfl rfl rfl rfl rfl vok_s rfl (r_dep (by decide) (e_X12_in hE q a2 (0 : Int32) (11 : Int32))) (fun r16 => ?_)
    exact r_zreturn dX12_mayHave_106 rfl rfl
  refine r_jmp (t := 107) dX12_mayHave_1 rfl ?_ ?_
  · have h18 := sw_lo (v := a1.toInt) 0
    have h18 := sw_st h18 h1
    have h18 := sw_st h18 h3
    have h18 := sw_st h18 h5
    have h18 := sw_st h18 h7
    have h18 := sw_st h18 h9
    have h18 := sw_st h18 h11
    have h18 := sw_st h18 h13
    have h18 := sw_st h18 h15
    exact sw_df h18 (by decide) rfl
  refine r_iload_n (x := a2) dX12_mayHave_107 rfl ?_
  refine r_iconst (v := (0 : Int32)) dX12_mayHave_108 rfl ?_
  refine r_bipush (v := (9 : Int32)) dX12_mayHave_109 rfl ?_
  refine r_calli (k := 2) (idx := 118) (y := 189) (as := [.int a2, .int (0 : Int32), .int (9 : Int32)]) (rest := []) (L0 := [(0, .int a2), (1, .int (0 : Int32)), (2, .int (9 : Int32))]) dX12_mayHave_111 rfl rfl rfl rfl rfl vok_s rfl (r_dep (by decide) (e_X12_in hE q a2 (0 : Int32) (9 : Int32))) (fun r17 => ?_)
  exact r_zreturn dX12_mayHave_114 rfl rfl
def b_X12_changes_121 (q : SS) (l1 : Int32) (l2 : Int32) (l3 : Int32) (l4 : Int32) : Option (Int32 × SS) :=
  if vin (q.1 60 11) 40 then
  nm (sI q 69 (q.1 60 11).toNatClampNeg l1) fun q4 =>
  if vin (q4.1 60 11) 40 then
  nm (sI q4 70 (q4.1 60 11).toNatClampNeg l2) fun q5 =>
  if vin (q5.1 60 11) 40 then
  nm (sI q5 71 (q5.1 60 11).toNatClampNeg l4) fun q6 =>
  if vin (q6.1 60 11) 40 then
  nm (sI q6 72 (q6.1 60 11).toNatClampNeg l3) fun q7 =>
  nm (sI q7 60 11 ((q7.1 60 11) + (1 : Int32))) fun q8 =>
  (f_X12_lays q8 l1 l2 l3).bind fun r9 =>
  some (l4, r9)
  else none
  else none
  else none
  else none
theorem rb_X12_changes_121 {E : EE} (hE : GE E) (q : SS) (l1 : Int32) (l2 : Int32) (l3 : Int32) (l4 : Int32) : R E (κI E) 1 200 121 [(0, .ref 60), (1, .int l1), (2, .int l2), (3, .int l3), (4, .int l4)] [] q (b_X12_changes_121 q l1 l2 l3 l4) := by
  unfold b_X12_changes_121
  refine r_aload_n (x := 60) dX12_changes_121 rfl ?_
  refine r_getA dX12_changes_122 (fa_12_36_60 hE) ?_
  refine r_aload_n (x := 60) dX12_changes_125 rfl ?_
  refine r_getI dX12_changes_126 (ff_12_149_60 hE) (by decide) ?_
  refine r_iload_n (x := l1) dX12_changes_129 rfl ?_
  refine r_iastore dX12_changes_130 (ar_69 hE) ?_
  refine r_nmS fun q4 _ => ?_
  refine r_aload_n (x := 60) dX12_changes_131 rfl ?_
  refine r_getA dX12_changes_132 (fa_12_39_60 hE) ?_
  refine r_aload_n (x := 60) dX12_changes_135 rfl ?_
  refine r_getI dX12_changes_136 (ff_12_149_60 hE) (by decide) ?_
  refine r_iload_n (x := l2) dX12_changes_139 rfl ?_
  refine r_iastore dX12_changes_140 (ar_70 hE) ?_
  refine r_nmS fun q5 _ => ?_
  refine r_aload_n (x := 60) dX12_changes_141 rfl ?_
  refine r_getA dX12_changes_142 (fa_12_42_60 hE) ?_
  refine r_aload_n (x := 60) dX12_changes_145 rfl ?_
  refine r_getI dX12_changes_146 (ff_12_149_60 hE) (by decide) ?_
  refine r_iload (x := l4) dX12_changes_149 rfl ?_
  refine r_iastore dX12_changes_151 (ar_71 hE) ?_
  refine r_nmS fun q6 _ => ?_
  refine r_aload_n (x := 60) dX12_changes_152 rfl ?_
  refine r_getA dX12_changes_153 (fa_12_45_60 hE) ?_
  refine r_aload_n (x := 60) dX12_changes_156 rfl ?_
  refine r_getI dX12_changes_157 (ff_12_149_60 hE) (by decide) ?_
  refine r_iload_n (x := l3) dX12_changes_160 rfl ?_
  refine r_iastore dX12_changes_161 (ar_72 hE) ?_
  refine r_nmS fun q7 _ => ?_
  refine r_aload_n (x := 60) dX12_changes_162 rfl ?_
  refine r_dup dX12_changes_163 rfl ?_
  refine r_getI dX12_changes_164 (ff_12_149_60 hE) (by decide) ?_
  refine r_iconst (v := (1 : Int32)) dX12_changes_167 rfl ?_
  refine r_iadd dX12_changes_168 ?_
  refine r_putI dX12_changes_169 (ff_12_149_60 hE) ?_
  refine r_nmS fun q8 _ => ?_
  refine r_aload_n (x := 60) dX12_changes_172 rfl ?_
  refine r_iload_n (x := l1) dX12_changes_173 rfl ?_
  refine r_iload_n (x := l2) dX12_changes_174 rfl ?_
  refine r_iload_n (x := l3) dX12_changes_175 rfl ?_
  refine r_callV (k := 0) (idx := 152) (y := 199) (as := [.ref 60, .int l1, .int l2, .int l3]) (rest := []) (L0 := [(0, .ref 60), (1, .int l1), (2, .int l2), (3, .int l3)]) dX12_changes_176 rfl rfl rfl rfl rfl (vok_v (ob_60 hE) rfl) rfl (r_dep (by decide) (e_X12_lays hE q8 l1 l2 l3)) (fun r9 => ?_)
  refine r_iload (x := l4) dX12_changes_179 rfl ?_
  exact r_ireturn dX12_changes_181 rfl rfl
def b_X12_changes_34 : SS → Int32 → Int32 → Int32 → Int32 → Int32 → Option (Int32 × SS) :=
  fx6 (fun (rec_34 : SS → Int32 → Int32 → Int32 → Int32 → Int32 → Option (Int32 × SS)) (q : SS) (l1 : Int32) (l2 : Int32) (l3 : Int32) (l4 : Int32) (l5 : Int32) =>
  if (40 : Int32) ≤ l5 then
  (nm (sI q 60 11 ((q.1 60 11) - (1 : Int32))) fun q3 =>
  b_X12_changes_121 q3 l1 l2 l3 l4)
  else
  (if vin l5 40 then
  if vin (l5 - (1 : Int32)) 40 then
  nm (sI q 69 (l5 - (1 : Int32)).toNatClampNeg (q.1 69 l5.toNatClampNeg)) fun q10 =>
  if vin l5 40 then
  if vin (l5 - (1 : Int32)) 40 then
  nm (sI q10 70 (l5 - (1 : Int32)).toNatClampNeg (q10.1 70 l5.toNatClampNeg)) fun q11 =>
  if vin l5 40 then
  if vin (l5 - (1 : Int32)) 40 then
  nm (sI q11 71 (l5 - (1 : Int32)).toNatClampNeg (q11.1 71 l5.toNatClampNeg)) fun q12 =>
  if vin l5 40 then
  if vin (l5 - (1 : Int32)) 40 then
  nm (sI q12 72 (l5 - (1 : Int32)).toNatClampNeg (q12.1 72 l5.toNatClampNeg)) fun q13 =>
  rec_34 q13 l1 l2 l3 l4 (l5 + (1 : Int32))
  else none
  else none
  else none
  else none
  else none
  else none
  else none
  else none)) FU
theorem rb_X12_changes_34 {E : EE} (hE : GE E) (q : SS) (l1 : Int32) (l2 : Int32) (l3 : Int32) (l4 : Int32) (l5 : Int32) : R E (κI E) 1 200 34 [(0, .ref 60), (1, .int l1), (2, .int l2), (3, .int l3), (4, .int l4), (5, .int l5)] [] q (b_X12_changes_34 q l1 l2 l3 l4 l5) := by
  unfold b_X12_changes_34
  refine fx6_ok (P := fun q l1 l2 l3 l4 l5 o => R E (κI E) 1 200 34 [(0, .ref 60), (1, .int l1), (2, .int l2), (3, .int l3), (4, .int l4), (5, .int l5)] [] q o) (fun _ _ _ _ _ _ => r_no) (fun rec_34 hrec_34 q l1 l2 l3 l4 l5 => ?_) _ _ _ _ _ _ _
  refine r_iload (x := l5) dX12_changes_34 rfl ?_
  refine r_bipush (v := (40 : Int32)) dX12_changes_36 rfl ?_
  refine r_icmp_ge (t := 111) dX12_changes_38 rfl (fun h14 => ?_) (fun h14 => ?_)
  · refine r_aload_n (x := 60) dX12_changes_111 rfl ?_
    refine r_dup dX12_changes_112 rfl ?_
    refine r_getI dX12_changes_113 (ff_12_149_60 hE) (by decide) ?_
    refine r_iconst (v := (1 : Int32)) dX12_changes_116 rfl ?_
    refine r_isub dX12_changes_117 ?_
    refine r_putI dX12_changes_118 (ff_12_149_60 hE) ?_
    refine r_nmS fun q3 _ => ?_
    exact r_sub (L' := [(0, .ref 60), (1, .int l1), (2, .int l2), (3, .int l3), (4, .int l4)]) (sub_c rfl (sub_c rfl (sub_c rfl (sub_c rfl (sub_c rfl sub_n))))) (rb_X12_changes_121 hE q3 l1 l2 l3 l4)
  · refine r_aload_n (x := 60) dX12_changes_41 rfl ?_
    refine r_getA dX12_changes_42 (fa_12_36_60 hE) ?_
    refine r_iload (x := l5) dX12_changes_45 rfl ?_
    refine r_iconst (v := (1 : Int32)) dX12_changes_47 rfl ?_
    refine r_isub dX12_changes_48 ?_
    refine r_aload_n (x := 60) dX12_changes_49 rfl ?_
    refine r_getA dX12_changes_50 (fa_12_36_60 hE) ?_
    refine r_iload (x := l5) dX12_changes_53 rfl ?_
    refine r_iaload dX12_changes_55 (ar_69 hE) ?_
    refine r_iastore dX12_changes_56 (ar_69 hE) ?_
    refine r_nmS fun q10 _ => ?_
    refine r_aload_n (x := 60) dX12_changes_57 rfl ?_
    refine r_getA dX12_changes_58 (fa_12_39_60 hE) ?_
    refine r_iload (x := l5) dX12_changes_61 rfl ?_
    refine r_iconst (v := (1 : Int32)) dX12_changes_63 rfl ?_
    refine r_isub dX12_changes_64 ?_
    refine r_aload_n (x := 60) dX12_changes_65 rfl ?_
    refine r_getA dX12_changes_66 (fa_12_39_60 hE) ?_
    refine r_iload (x := l5) dX12_changes_69 rfl ?_
    refine r_iaload dX12_changes_71 (ar_70 hE) ?_
    refine r_iastore dX12_changes_72 (ar_70 hE) ?_
    refine r_nmS fun q11 _ => ?_
    refine r_aload_n (x := 60) dX12_changes_73 rfl ?_
    refine r_getA dX12_changes_74 (fa_12_42_60 hE) ?_
    refine r_iload (x := l5) dX12_changes_77 rfl ?_
    refine r_iconst (v := (1 : Int32)) dX12_changes_79 rfl ?_
    refine r_isub dX12_changes_80 ?_
    refine r_aload_n (x := 60) dX12_changes_81 rfl ?_
    refine r_getA dX12_changes_82 (fa_12_42_60 hE) ?_
    refine r_iload (x := l5) dX12_changes_85 rfl ?_
    refine r_iaload dX12_changes_87 (ar_71 hE) ?_
    refine r_iastore dX12_changes_88 (ar_71 hE) ?_
    refine r_nmS fun q12 _ => ?_
    refine r_aload_n (x := 60) dX12_changes_89 rfl ?_
    refine r_getA dX12_changes_90 (fa_12_45_60 hE) ?_
    refine r_iload (x := l5) dX12_changes_93 rfl ?_
    refine r_iconst (v := (1 : Int32)) dX12_changes_95 rfl ?_
    refine r_isub dX12_changes_96 ?_
    refine r_aload_n (x := 60) dX12_changes_97 rfl ?_
    refine r_getA dX12_changes_98 (fa_12_45_60 hE) ?_
    refine r_iload (x := l5) dX12_changes_101 rfl ?_
    refine r_iaload dX12_changes_103 (ar_72 hE) ?_
    refine r_iastore dX12_changes_104 (ar_72 hE) ?_
    refine r_nmS fun q13 _ => ?_
    refine r_iinc (x := l5) (v := (l5 + (1 : Int32))) (L2 := [(0, .ref 60), (1, .int l1), (2, .int l2), (3, .int l3), (4, .int l4), (5, .int (l5 + (1 : Int32)))]) dX12_changes_105 rfl rfl rfl rfl ?_
    refine r_goto (t := 34) dX12_changes_108 rfl ?_
    exact r_sub (L' := [(0, .ref 60), (1, .int l1), (2, .int l2), (3, .int l3), (4, .int l4), (5, .int (l5 + (1 : Int32)))]) (sub_c rfl (sub_c rfl (sub_c rfl (sub_c rfl (sub_c rfl (sub_c rfl sub_n)))))) (hrec_34 q13 l1 l2 l3 l4 (l5 + (1 : Int32)))
def f_X12_changes (q : SS) (a1 : Int32) (a2 : Int32) (a3 : Int32) : Option (Int32 × SS) :=
  (f_X12_valueAt q a1 a2).bind fun r1 =>
  if r1 = a3 then
  (some (r1, q))
  else
  (nm (sI q 60 12 (0 : Int32)) fun q2 =>
  if (q2.1 60 11) = (40 : Int32) then
  (b_X12_changes_34 q2 a1 a2 a3 r1 (1 : Int32))
  else
  (b_X12_changes_121 q2 a1 a2 a3 r1))
theorem e_X12_changes {E : EE} (hE : GE E) (q : SS) (a1 : Int32) (a2 : Int32) (a3 : Int32) : R E (κI E) 1 200 0 [(0, .ref 60), (1, .int a1), (2, .int a2), (3, .int a3)] [] q (f_X12_changes q a1 a2 a3) := by
  unfold f_X12_changes
  refine r_aload_n (x := 60) dX12_changes_0 rfl ?_
  refine r_iload_n (x := a1) dX12_changes_1 rfl ?_
  refine r_iload_n (x := a2) dX12_changes_2 rfl ?_
  refine r_calli (k := 0) (idx := 142) (y := 198) (as := [.ref 60, .int a1, .int a2]) (rest := []) (L0 := [(0, .ref 60), (1, .int a1), (2, .int a2)]) dX12_changes_3 rfl rfl rfl rfl rfl (vok_v (ob_60 hE) rfl) rfl (r_dep (by decide) (e_X12_valueAt hE q a1 a2)) (fun r1 => ?_)
  refine r_istore (L2 := [(0, .ref 60), (1, .int a1), (2, .int a2), (3, .int a3), (4, .int r1)]) dX12_changes_6 rfl rfl ?_
  refine r_iload (x := r1) dX12_changes_8 rfl ?_
  refine r_iload_n (x := a3) dX12_changes_10 rfl ?_
  refine r_icmp_ne (t := 17) dX12_changes_11 rfl (fun h16 => ?_) (fun h16 => ?_)
  · refine r_iload (x := r1) dX12_changes_14 rfl ?_
    exact r_ireturn dX12_changes_16 rfl rfl
  · refine r_aload_n (x := 60) dX12_changes_17 rfl ?_
    refine r_iconst (v := (0 : Int32)) dX12_changes_18 rfl ?_
    refine r_putI dX12_changes_19 (ff_12_146_60 hE) ?_
    refine r_nmS fun q2 _ => ?_
    refine r_aload_n (x := 60) dX12_changes_22 rfl ?_
    refine r_getI dX12_changes_23 (ff_12_149_60 hE) (by decide) ?_
    refine r_bipush (v := (40 : Int32)) dX12_changes_26 rfl ?_
    refine r_icmp_ne (t := 121) dX12_changes_28 rfl (fun h15 => ?_) (fun h15 => ?_)
    · refine r_iconst (v := (1 : Int32)) dX12_changes_31 rfl ?_
      refine r_istore (L2 := [(0, .ref 60), (1, .int a1), (2, .int a2), (3, .int a3), (4, .int r1), (5, .int (1 : Int32))]) dX12_changes_32 rfl rfl ?_
      exact r_sub (L' := [(0, .ref 60), (1, .int a1), (2, .int a2), (3, .int a3), (4, .int r1), (5, .int (1 : Int32))]) (sub_c rfl (sub_c rfl (sub_c rfl (sub_c rfl (sub_c rfl (sub_c rfl sub_n)))))) (rb_X12_changes_34 hE q2 a1 a2 a3 r1 (1 : Int32))
    · exact r_sub (L' := [(0, .ref 60), (1, .int a1), (2, .int a2), (3, .int a3), (4, .int r1)]) (sub_c rfl (sub_c rfl (sub_c rfl (sub_c rfl (sub_c rfl sub_n))))) (rb_X12_changes_121 hE q2 a1 a2 a3 r1)

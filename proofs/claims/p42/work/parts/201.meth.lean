def f_X7_set (q : SS) (a1 : Int32) (a2 : Int32) (a3 : Int64) : Option SS :=
  (f_X7_isRow q a1).bind fun r1 =>
  if r1 = 0 then
  (some q)
  else
  ((f_X7_hasPlaces q a1 a2 (1 : Int32)).bind fun r2 =>
  if r2 = 0 then
  (some q)
  else
  (if vin a1 6 then
  if vin a1 6 then
  (f_X7_lowestBits q (q.1 27 a1.toNatClampNeg) a3).bind fun r4 =>
  if vin a2 60 then
  nm (sL q (31 + a1.toNatClampNeg) a2.toNatClampNeg r4) fun q5 =>
  some q5
  else none
  else none
  else none))
theorem e_X7_set {E : EE} (hE : GE E) (q : SS) (a1 : Int32) (a2 : Int32) (a3 : Int64) : R E (κV E) 4 93 0 [(0, .ref 26), (1, .int a1), (2, .int a2), (3, .long a3)] [] q (f_X7_set q a1 a2 a3) := by
  unfold f_X7_set
  refine r_aload_n (x := 26) dX7_set_0 rfl ?_
  refine r_iload_n (x := a1) dX7_set_1 rfl ?_
  refine r_calli (k := 0) (idx := 33) (y := 81) (as := [.ref 26, .int a1]) (rest := []) (L0 := [(0, .ref 26), (1, .int a1)]) dX7_set_2 rfl rfl rfl rfl rfl (vok_v (ob_26 hE) rfl) rfl (r_dep (by decide) (e_X7_isRow hE q a1)) (fun r1 => ?_)
  refine r_if_eq (t := 36) dX7_set_5 rfl (fun h7 => ?_) (fun h7 => ?_)
  · exact r_return dX7_set_36 rfl rfl
  · refine r_aload_n (x := 26) dX7_set_8 rfl ?_
    refine r_iload_n (x := a1) dX7_set_9 rfl ?_
    refine r_iload_n (x := a2) dX7_set_10 rfl ?_
    refine r_iconst (v := (1 : Int32)) dX7_set_11 rfl ?_
    refine r_calli (k := 0) (idx := 43) (y := 88) (as := [.ref 26, .int a1, .int a2, .int (1 : Int32)]) (rest := []) (L0 := [(0, .ref 26), (1, .int a1), (2, .int a2), (3, .int (1 : Int32))]) dX7_set_12 rfl rfl rfl rfl rfl (vok_v (ob_26 hE) rfl) rfl (r_dep (by decide) (e_X7_hasPlaces hE q a1 a2 (1 : Int32))) (fun r2 => ?_)
    refine r_if_eq (t := 36) dX7_set_15 rfl (fun h6 => ?_) (fun h6 => ?_)
    · exact r_return dX7_set_36 rfl rfl
    · refine r_aload_n (x := 26) dX7_set_18 rfl ?_
      refine r_getA dX7_set_19 (fa_7_23_26 hE) ?_
      refine r_iload_n (x := a1) dX7_set_22 rfl ?_
      refine r_aaload dX7_set_23 (ar_30 hE) (by decide) (rv_30 hE) (fun h3 => ?_)
      refine r_iload_n (x := a2) dX7_set_24 rfl ?_
      refine r_aload_n (x := 26) dX7_set_25 rfl ?_
      refine r_getA dX7_set_26 (fa_7_11_26 hE) ?_
      refine r_iload_n (x := a1) dX7_set_29 rfl ?_
      refine r_iaload dX7_set_30 (ar_27 hE) ?_
      refine r_lload_n (x := a3) dX7_set_31 rfl ?_
      refine r_calll (k := 2) (idx := 50) (y := 94) (as := [.int (q.1 27 a1.toNatClampNeg), .long a3]) (rest := [.int a2, .ref (31 + a1.toNatClampNeg)]) (L0 := [(0, .int (q.1 27 a1.toNatClampNeg)), (1, .long a3)]) dX7_set_32 rfl rfl rfl rfl rfl vok_s rfl (r_dep (by decide) (e_X7_lowestBits hE q (q.1 27 a1.toNatClampNeg) a3)) (fun r4 => ?_)
      refine r_lastore dX7_set_35 (aw_31 hE (vin_lt h3)) ?_
      refine r_nmS fun q5 _ => ?_
      exact r_return dX7_set_36 rfl rfl
def f_X11_put (q : SS) (a1 : Int32) (a2 : Int32) (a3 : Int64) : Option (Int32 × SS) :=
  (f_X7_refusalOfElement q a1 a2).bind fun r1 =>
  if r1 = 0 then
  ((f_X7_set q a1 a2 a3).bind fun r2 =>
  some ((1 : Int32), r2))
  else
  (some (r1, q))
theorem e_X11_put {E : EE} (hE : GE E) (q : SS) (a1 : Int32) (a2 : Int32) (a3 : Int64) : R E (κI E) 5 183 0 [(0, .ref 0), (1, .int a1), (2, .int a2), (3, .long a3)] [] q (f_X11_put q a1 a2 a3) := by
  unfold f_X11_put
  refine r_aload_n (x := 0) dX11_put_0 rfl ?_
  refine r_getA dX11_put_1 (fa_11_42_0 hE) ?_
  refine r_iload_n (x := a1) dX11_put_4 rfl ?_
  refine r_iload_n (x := a2) dX11_put_5 rfl ?_
  refine r_calli (k := 0) (idx := 365) (y := 86) (as := [.ref 26, .int a1, .int a2]) (rest := []) (L0 := [(0, .ref 26), (1, .int a1), (2, .int a2)]) dX11_put_6 rfl rfl rfl rfl rfl (vok_v (ob_26 hE) rfl) rfl (r_dep (by decide) (e_X7_refusalOfElement hE q a1 a2)) (fun r1 => ?_)
  refine r_istore (L2 := [(0, .ref 0), (1, .int a1), (2, .int a2), (3, .long a3), (5, .int r1)]) dX11_put_9 rfl rfl ?_
  refine r_iload (x := r1) dX11_put_11 rfl ?_
  refine r_if_eq (t := 19) dX11_put_13 rfl (fun h3 => ?_) (fun h3 => ?_)
  · refine r_aload_n (x := 0) dX11_put_19 rfl ?_
    refine r_getA dX11_put_20 (fa_11_42_0 hE) ?_
    refine r_iload_n (x := a1) dX11_put_23 rfl ?_
    refine r_iload_n (x := a2) dX11_put_24 rfl ?_
    refine r_lload_n (x := a3) dX11_put_25 rfl ?_
    refine r_callV (k := 0) (idx := 368) (y := 93) (as := [.ref 26, .int a1, .int a2, .long a3]) (rest := []) (L0 := [(0, .ref 26), (1, .int a1), (2, .int a2), (3, .long a3)]) dX11_put_26 rfl rfl rfl rfl rfl (vok_v (ob_26 hE) rfl) rfl (r_dep (by decide) (e_X7_set hE q a1 a2 a3)) (fun r2 => ?_)
    refine r_iconst (v := (1 : Int32)) dX11_put_29 rfl ?_
    exact r_ireturn dX11_put_30 rfl rfl
  · refine r_iload (x := r1) dX11_put_16 rfl ?_
    exact r_ireturn dX11_put_18 rfl rfl
def b_X12_put_95 (q : SS) (s0 : Int64) (s1 : Int32) : Option (Int32 × SS) :=
  if vin s1 360 then
  nm (sL q 91 s1.toNatClampNeg s0) fun q3 =>
  some ((1 : Int32), q3)
  else none
theorem rb_X12_put_95 {E : EE} (hE : GE E) (q : SS) (s0 : Int64) (s1 : Int32) : R E (κI E) 3 292 95 [] [.long s0, .int s1, .ref 91] q (b_X12_put_95 q s0 s1) := by
  unfold b_X12_put_95
  refine r_lastore dX12_put_95 (ar_91 hE) ?_
  refine r_nmS fun q3 _ => ?_
  refine r_iconst (v := (1 : Int32)) dX12_put_96 rfl ?_
  exact r_ireturn dX12_put_97 rfl rfl
def f_X12_put (q : SS) (a1 : Int32) (a2 : Int32) (a3 : Int64) : Option (Int32 × SS) :=
  (f_X12_whyNoPlace q a1 a2).bind fun r1 =>
  if 0 ≤ r1 then
  (if vin a1 6 then
  nm ((-2 : Int32) - (q.1 89 a1.toNatClampNeg)) fun v2 =>
  if v2 = 0 then
  (b_X12_put_95 q (((a3.toInt32).toInt8.toInt32).toInt64) (((60 : Int32) * a1) + a2))
  else
  (if v2 = (1 : Int32) then
  (b_X12_put_95 q (((a3.toInt32).toInt16.toInt32).toInt64) (((60 : Int32) * a1) + a2))
  else
  (if v2 = (2 : Int32) then
  (b_X12_put_95 q ((a3.toInt32).toInt64) (((60 : Int32) * a1) + a2))
  else
  (if v2 = (3 : Int32) then
  (b_X12_put_95 q a3 (((60 : Int32) * a1) + a2))
  else
  (if (lg_cmp a3 (0 : Int64)) = 0 then
  (b_X12_put_95 q (0 : Int64) (((60 : Int32) * a1) + a2))
  else
  (b_X12_put_95 q (1 : Int64) (((60 : Int32) * a1) + a2))))))
  else none)
  else
  (some (r1, q))
theorem e_X12_put {E : EE} (hE : GE E) (q : SS) (a1 : Int32) (a2 : Int32) (a3 : Int64) : R E (κI E) 3 292 0 [(0, .ref 60), (1, .int a1), (2, .int a2), (3, .long a3)] [] q (f_X12_put q a1 a2 a3) := by
  unfold f_X12_put
  refine r_aload_n (x := 60) dX12_put_0 rfl ?_
  refine r_iload_n (x := a1) dX12_put_1 rfl ?_
  refine r_iload_n (x := a2) dX12_put_2 rfl ?_
  refine r_calli (k := 0) (idx := 414) (y := 291) (as := [.ref 60, .int a1, .int a2]) (rest := []) (L0 := [(0, .ref 60), (1, .int a1), (2, .int a2)]) dX12_put_3 rfl rfl rfl rfl rfl (vok_v (ob_60 hE) rfl) rfl (r_dep (by decide) (e_X12_whyNoPlace hE q a1 a2)) (fun r1 => ?_)
  refine r_istore (L2 := [(0, .ref 60), (1, .int a1), (2, .int a2), (3, .long a3), (5, .int r1)]) dX12_put_6 rfl rfl ?_
  refine r_iload (x := r1) dX12_put_8 rfl ?_
  refine r_if_ge (t := 16) dX12_put_10 rfl (fun h9 => ?_) (fun h9 => ?_)
  · refine r_bipush (v := (-2 : Int32)) dX12_put_16 rfl ?_
    refine r_aload_n (x := 60) dX12_put_18 rfl ?_
    refine r_getA dX12_put_19 (fa_12_98_60 hE) ?_
    refine r_iload_n (x := a1) dX12_put_22 rfl ?_
    refine r_iaload dX12_put_23 (ar_89 hE) ?_
    refine r_isub dX12_put_24 ?_
    refine r_nmI fun v2 _ => ?_
    refine r_istore (L2 := [(0, .ref 60), (1, .int a1), (2, .int a2), (3, .long a3), (5, .int r1), (6, .int v2)]) dX12_put_25 rfl rfl ?_
    refine r_aload_n (x := 60) dX12_put_27 rfl ?_
    refine r_getA dX12_put_28 (fa_12_104_60 hE) ?_
    refine r_bipush (v := (60 : Int32)) dX12_put_31 rfl ?_
    refine r_iload_n (x := a1) dX12_put_33 rfl ?_
    refine r_imul dX12_put_34 ?_
    refine r_iload_n (x := a2) dX12_put_35 rfl ?_
    refine r_iadd dX12_put_36 ?_
    refine r_iload (x := v2) dX12_put_37 rfl ?_
    refine r_if_ne (t := 49) dX12_put_39 rfl (fun h8 => ?_) (fun h8 => ?_)
    · refine r_lload_n (x := a3) dX12_put_42 rfl ?_
      refine r_l2i dX12_put_43 ?_
      refine r_i2b dX12_put_44 ?_
      refine r_i2l dX12_put_45 ?_
      refine r_goto (t := 95) dX12_put_46 rfl ?_
      exact r_sub (L' := []) sub_n (rb_X12_put_95 hE q (((a3.toInt32).toInt8.toInt32).toInt64) (((60 : Int32) * a1) + a2))
    · refine r_iload (x := v2) dX12_put_49 rfl ?_
      refine r_iconst (v := (1 : Int32)) dX12_put_51 rfl ?_
      refine r_icmp_ne (t := 62) dX12_put_52 rfl (fun h7 => ?_) (fun h7 => ?_)
      · refine r_lload_n (x := a3) dX12_put_55 rfl ?_
        refine r_l2i dX12_put_56 ?_
        refine r_i2s dX12_put_57 ?_
        refine r_i2l dX12_put_58 ?_
        refine r_goto (t := 95) dX12_put_59 rfl ?_
        exact r_sub (L' := []) sub_n (rb_X12_put_95 hE q (((a3.toInt32).toInt16.toInt32).toInt64) (((60 : Int32) * a1) + a2))
      · refine r_iload (x := v2) dX12_put_62 rfl ?_
        refine r_iconst (v := (2 : Int32)) dX12_put_64 rfl ?_
        refine r_icmp_ne (t := 74) dX12_put_65 rfl (fun h6 => ?_) (fun h6 => ?_)
        · refine r_lload_n (x := a3) dX12_put_68 rfl ?_
          refine r_l2i dX12_put_69 ?_
          refine r_i2l dX12_put_70 ?_
          refine r_goto (t := 95) dX12_put_71 rfl ?_
          exact r_sub (L' := []) sub_n (rb_X12_put_95 hE q ((a3.toInt32).toInt64) (((60 : Int32) * a1) + a2))
        · refine r_iload (x := v2) dX12_put_74 rfl ?_
          refine r_iconst (v := (3 : Int32)) dX12_put_76 rfl ?_
          refine r_icmp_ne (t := 84) dX12_put_77 rfl (fun h5 => ?_) (fun h5 => ?_)
          · refine r_lload_n (x := a3) dX12_put_80 rfl ?_
            refine r_goto (t := 95) dX12_put_81 rfl ?_
            exact r_sub (L' := []) sub_n (rb_X12_put_95 hE q a3 (((60 : Int32) * a1) + a2))
          · refine r_lload_n (x := a3) dX12_put_84 rfl ?_
            refine r_lconst (v := (0 : Int64)) dX12_put_85 rfl ?_
            refine r_lcmp dX12_put_86 ?_
            refine r_if_eq (t := 94) dX12_put_87 rfl (fun h4 => ?_) (fun h4 => ?_)
            · refine r_lconst (v := (0 : Int64)) dX12_put_94 rfl ?_
              exact r_sub (L' := []) sub_n (rb_X12_put_95 hE q (0 : Int64) (((60 : Int32) * a1) + a2))
            · refine r_lconst (v := (1 : Int64)) dX12_put_90 rfl ?_
              refine r_goto (t := 95) dX12_put_91 rfl ?_
              exact r_sub (L' := []) sub_n (rb_X12_put_95 hE q (1 : Int64) (((60 : Int32) * a1) + a2))
  · refine r_iload (x := r1) dX12_put_13 rfl ?_
    exact r_ireturn dX12_put_15 rfl rfl
def b_X7_holdRow_42 : SS → Int32 → Int32 → Int32 → Option SS :=
  fx4 (fun (rec_42 : SS → Int32 → Int32 → Int32 → Option SS) (q : SS) (l1 : Int32) (l3 : Int32) (l4 : Int32) =>
  if l3 ≤ l4 then
  (some q)
  else
  (if vin l1 6 then
  if vin l4 60 then
  nm (sL q (31 + l1.toNatClampNeg) l4.toNatClampNeg (0 : Int64)) fun q6 =>
  rec_42 q6 l1 l3 (l4 + (1 : Int32))
  else none
  else none)) FU
theorem rb_X7_holdRow_42 {E : EE} (hE : GE E) (q : SS) (l1 : Int32) (l3 : Int32) (l4 : Int32) : R E (κV E) 1 91 42 [(0, .ref 26), (1, .int l1), (3, .int l3), (4, .int l4)] [] q (b_X7_holdRow_42 q l1 l3 l4) := by
  unfold b_X7_holdRow_42
  refine fx4_ok (P := fun q l1 l3 l4 o => R E (κV E) 1 91 42 [(0, .ref 26), (1, .int l1), (3, .int l3), (4, .int l4)] [] q o) (fun _ _ _ _ => r_no) (fun rec_42 hrec_42 q l1 l3 l4 => ?_) _ _ _ _ _
  refine r_iload (x := l4) dX7_holdRow_42 rfl ?_
  refine r_iload_n (x := l3) dX7_holdRow_44 rfl ?_
  refine r_icmp_ge (t := 64) dX7_holdRow_45 rfl (fun h7 => ?_) (fun h7 => ?_)
  · exact r_return dX7_holdRow_64 rfl rfl
  · refine r_aload_n (x := 26) dX7_holdRow_48 rfl ?_
    refine r_getA dX7_holdRow_49 (fa_7_23_26 hE) ?_
    refine r_iload_n (x := l1) dX7_holdRow_52 rfl ?_
    refine r_aaload dX7_holdRow_53 (ar_30 hE) (by decide) (rv_30 hE) (fun h5 => ?_)
    refine r_iload (x := l4) dX7_holdRow_54 rfl ?_
    refine r_lconst (v := (0 : Int64)) dX7_holdRow_56 rfl ?_
    refine r_lastore dX7_holdRow_57 (aw_31 hE (vin_lt h5)) ?_
    refine r_nmS fun q6 _ => ?_
    refine r_iinc (x := l4) (v := (l4 + (1 : Int32))) (L2 := [(0, .ref 26), (1, .int l1), (3, .int l3), (4, .int (l4 + (1 : Int32)))]) dX7_holdRow_58 rfl rfl rfl rfl ?_
    refine r_goto (t := 42) dX7_holdRow_61 rfl ?_
    exact r_sub (L' := [(0, .ref 26), (1, .int l1), (3, .int l3), (4, .int (l4 + (1 : Int32)))]) (sub_c rfl (sub_c rfl (sub_c rfl (sub_c rfl sub_n)))) (hrec_42 q6 l1 l3 (l4 + (1 : Int32)))
def f_X7_holdRow (q : SS) (a1 : Int32) (a2 : Int32) (a3 : Int32) : Option SS :=
  (f_X7_isShelf q a1).bind fun r1 =>
  if r1 = 0 then
  (some q)
  else
  ((f_X7_isSort q a2).bind fun r2 =>
  if r2 = 0 then
  (some q)
  else
  (if a3 < 0 then
  (some q)
  else
  (if (60 : Int32) < a3 then
  (some q)
  else
  (if vin a1 6 then
  nm (sI q 27 a1.toNatClampNeg a2) fun q3 =>
  if vin a1 6 then
  nm (sI q3 28 a1.toNatClampNeg a3) fun q4 =>
  b_X7_holdRow_42 q4 a1 a3 (0 : Int32)
  else none
  else none))))
theorem e_X7_holdRow {E : EE} (hE : GE E) (q : SS) (a1 : Int32) (a2 : Int32) (a3 : Int32) : R E (κV E) 1 91 0 [(0, .ref 26), (1, .int a1), (2, .int a2), (3, .int a3)] [] q (f_X7_holdRow q a1 a2 a3) := by
  unfold f_X7_holdRow
  refine r_aload_n (x := 26) dX7_holdRow_0 rfl ?_
  refine r_iload_n (x := a1) dX7_holdRow_1 rfl ?_
  refine r_calli (k := 0) (idx := 26) (y := 79) (as := [.ref 26, .int a1]) (rest := []) (L0 := [(0, .ref 26), (1, .int a1)]) dX7_holdRow_2 rfl rfl rfl rfl rfl (vok_v (ob_26 hE) rfl) rfl (r_dep (by decide) (e_X7_isShelf hE q a1)) (fun r1 => ?_)
  refine r_if_eq (t := 64) dX7_holdRow_5 rfl (fun h11 => ?_) (fun h11 => ?_)
  · exact r_return dX7_holdRow_64 rfl rfl
  · refine r_iload_n (x := a2) dX7_holdRow_8 rfl ?_
    refine r_calli (k := 2) (idx := 30) (y := 78) (as := [.int a2]) (rest := []) (L0 := [(0, .int a2)]) dX7_holdRow_9 rfl rfl rfl rfl rfl vok_s rfl (r_dep (by decide) (e_X7_isSort hE q a2)) (fun r2 => ?_)
    refine r_if_eq (t := 64) dX7_holdRow_12 rfl (fun h10 => ?_) (fun h10 => ?_)
    · exact r_return dX7_holdRow_64 rfl rfl
    · refine r_iload_n (x := a3) dX7_holdRow_15 rfl ?_
      refine r_if_lt (t := 64) dX7_holdRow_16 rfl (fun h9 => ?_) (fun h9 => ?_)
      · exact r_return dX7_holdRow_64 rfl rfl
      · refine r_iload_n (x := a3) dX7_holdRow_19 rfl ?_
        refine r_bipush (v := (60 : Int32)) dX7_holdRow_20 rfl ?_
        refine r_icmp_gt (t := 64) dX7_holdRow_22 rfl (fun h8 => ?_) (fun h8 => ?_)
        · exact r_return dX7_holdRow_64 rfl rfl
        · refine r_aload_n (x := 26) dX7_holdRow_25 rfl ?_
          refine r_getA dX7_holdRow_26 (fa_7_11_26 hE) ?_
          refine r_iload_n (x := a1) dX7_holdRow_29 rfl ?_
          refine r_iload_n (x := a2) dX7_holdRow_30 rfl ?_
          refine r_iastore dX7_holdRow_31 (ar_27 hE) ?_
          refine r_nmS fun q3 _ => ?_
          refine r_aload_n (x := 26) dX7_holdRow_32 rfl ?_
          refine r_getA dX7_holdRow_33 (fa_7_15_26 hE) ?_
          refine r_iload_n (x := a1) dX7_holdRow_36 rfl ?_
          refine r_iload_n (x := a3) dX7_holdRow_37 rfl ?_
          refine r_iastore dX7_holdRow_38 (ar_28 hE) ?_
          refine r_nmS fun q4 _ => ?_
          refine r_iconst (v := (0 : Int32)) dX7_holdRow_39 rfl ?_
          refine r_istore (L2 := [(0, .ref 26), (1, .int a1), (2, .int a2), (3, .int a3), (4, .int (0 : Int32))]) dX7_holdRow_40 rfl rfl ?_
          exact r_sub (L' := [(0, .ref 26), (1, .int a1), (3, .int a3), (4, .int (0 : Int32))]) (sub_c rfl (sub_c rfl (sub_c rfl (sub_c rfl sub_n)))) (rb_X7_holdRow_42 hE q4 a1 a3 (0 : Int32))
def f_X11_row (q : SS) (a1 : Int32) (a2 : Int32) (a3 : Int32) : Option (Int32 × SS) :=
  (f_X7_isShelf q a1).bind fun r1 =>
  if r1 = 0 then
  (some ((-1 : Int32), q))
  else
  ((f_X7_isSort q a2).bind fun r2 =>
  if r2 = 0 then
  (some ((-1 : Int32), q))
  else
  (if a3 ≤ (60 : Int32) then
  (if 0 ≤ a3 then
  ((f_X7_holdRow q a1 a2 a3).bind fun r3 =>
  some ((1 : Int32), r3))
  else
  (some ((-14 : Int32), q)))
  else
  (some ((-1 : Int32), q))))
theorem e_X11_row {E : EE} (hE : GE E) (q : SS) (a1 : Int32) (a2 : Int32) (a3 : Int32) : R E (κI E) 2 182 0 [(0, .ref 0), (1, .int a1), (2, .int a2), (3, .int a3)] [] q (f_X11_row q a1 a2 a3) := by
  unfold f_X11_row
  refine r_aload_n (x := 0) dX11_row_0 rfl ?_
  refine r_getA dX11_row_1 (fa_11_42_0 hE) ?_
  refine r_iload_n (x := a1) dX11_row_4 rfl ?_
  refine r_calli (k := 0) (idx := 106) (y := 79) (as := [.ref 26, .int a1]) (rest := []) (L0 := [(0, .ref 26), (1, .int a1)]) dX11_row_5 rfl rfl rfl rfl rfl (vok_v (ob_26 hE) rfl) rfl (r_dep (by decide) (e_X7_isShelf hE q a1)) (fun r1 => ?_)
  refine r_if_eq (t := 24) dX11_row_8 rfl (fun h7 => ?_) (fun h7 => ?_)
  · refine r_iconst (v := (-1 : Int32)) dX11_row_24 rfl ?_
    exact r_ireturn dX11_row_25 rfl rfl
  · refine r_iload_n (x := a2) dX11_row_11 rfl ?_
    refine r_calli (k := 2) (idx := 359) (y := 78) (as := [.int a2]) (rest := []) (L0 := [(0, .int a2)]) dX11_row_12 rfl rfl rfl rfl rfl vok_s rfl (r_dep (by decide) (e_X7_isSort hE q a2)) (fun r2 => ?_)
    refine r_if_eq (t := 24) dX11_row_15 rfl (fun h6 => ?_) (fun h6 => ?_)
    · refine r_iconst (v := (-1 : Int32)) dX11_row_24 rfl ?_
      exact r_ireturn dX11_row_25 rfl rfl
    · refine r_iload_n (x := a3) dX11_row_18 rfl ?_
      refine r_bipush (v := (60 : Int32)) dX11_row_19 rfl ?_
      refine r_icmp_le (t := 26) dX11_row_21 rfl (fun h5 => ?_) (fun h5 => ?_)
      · refine r_iload_n (x := a3) dX11_row_26 rfl ?_
        refine r_if_ge (t := 33) dX11_row_27 rfl (fun h4 => ?_) (fun h4 => ?_)
        · refine r_aload_n (x := 0) dX11_row_33 rfl ?_
          refine r_getA dX11_row_34 (fa_11_42_0 hE) ?_
          refine r_iload_n (x := a1) dX11_row_37 rfl ?_
          refine r_iload_n (x := a2) dX11_row_38 rfl ?_
          refine r_iload_n (x := a3) dX11_row_39 rfl ?_
          refine r_callV (k := 0) (idx := 362) (y := 91) (as := [.ref 26, .int a1, .int a2, .int a3]) (rest := []) (L0 := [(0, .ref 26), (1, .int a1), (2, .int a2), (3, .int a3)]) dX11_row_40 rfl rfl rfl rfl rfl (vok_v (ob_26 hE) rfl) rfl (r_dep (by decide) (e_X7_holdRow hE q a1 a2 a3)) (fun r3 => ?_)
          refine r_iconst (v := (1 : Int32)) dX11_row_43 rfl ?_
          exact r_ireturn dX11_row_44 rfl rfl
        · refine r_bipush (v := (-14 : Int32)) dX11_row_30 rfl ?_
          exact r_ireturn dX11_row_32 rfl rfl
      · refine r_iconst (v := (-1 : Int32)) dX11_row_24 rfl ?_
        exact r_ireturn dX11_row_25 rfl rfl
def b_X12_row_54 : SS → Int32 → Int32 → Option (Int32 × SS) :=
  fx3 (fun (rec_54 : SS → Int32 → Int32 → Option (Int32 × SS)) (q : SS) (l1 : Int32) (l4 : Int32) =>
  if (((60 : Int32) * l1) + (60 : Int32)) ≤ l4 then
  (some ((1 : Int32), q))
  else
  (if vin l4 360 then
  nm (sL q 91 l4.toNatClampNeg (0 : Int64)) fun q6 =>
  rec_54 q6 l1 (l4 + (1 : Int32))
  else none)) FU
theorem rb_X12_row_54 {E : EE} (hE : GE E) (q : SS) (l1 : Int32) (l4 : Int32) : R E (κI E) 2 290 54 [(0, .ref 60), (1, .int l1), (4, .int l4)] [] q (b_X12_row_54 q l1 l4) := by
  unfold b_X12_row_54
  refine fx3_ok (P := fun q l1 l4 o => R E (κI E) 2 290 54 [(0, .ref 60), (1, .int l1), (4, .int l4)] [] q o) (fun _ _ _ => r_no) (fun rec_54 hrec_54 q l1 l4 => ?_) _ _ _ _
  refine r_iload (x := l4) dX12_row_54 rfl ?_
  refine r_bipush (v := (60 : Int32)) dX12_row_56 rfl ?_
  refine r_iload_n (x := l1) dX12_row_58 rfl ?_
  refine r_imul dX12_row_59 ?_
  refine r_bipush (v := (60 : Int32)) dX12_row_60 rfl ?_
  refine r_iadd dX12_row_62 ?_
  refine r_icmp_ge (t := 80) dX12_row_63 rfl (fun h7 => ?_) (fun h7 => ?_)
  · refine r_iconst (v := (1 : Int32)) dX12_row_80 rfl ?_
    exact r_ireturn dX12_row_81 rfl rfl
  · refine r_aload_n (x := 60) dX12_row_66 rfl ?_
    refine r_getA dX12_row_67 (fa_12_104_60 hE) ?_
    refine r_iload (x := l4) dX12_row_70 rfl ?_
    refine r_lconst (v := (0 : Int64)) dX12_row_72 rfl ?_
    refine r_lastore dX12_row_73 (ar_91 hE) ?_
    refine r_nmS fun q6 _ => ?_
    refine r_iinc (x := l4) (v := (l4 + (1 : Int32))) (L2 := [(0, .ref 60), (1, .int l1), (4, .int (l4 + (1 : Int32)))]) dX12_row_74 rfl rfl rfl rfl ?_
    refine r_goto (t := 54) dX12_row_77 rfl ?_
    exact r_sub (L' := [(0, .ref 60), (1, .int l1), (4, .int (l4 + (1 : Int32)))]) (sub_c rfl (sub_c rfl (sub_c rfl sub_n))) (hrec_54 q6 l1 (l4 + (1 : Int32)))
def f_X12_row (q : SS) (a1 : Int32) (a2 : Int32) (a3 : Int32) : Option (Int32 × SS) :=
  (f_X12_isShelf q a1).bind fun r1 =>
  if r1 = 0 then
  (some ((-1 : Int32), q))
  else
  ((f_X12_in q a2 (0 : Int32) (4 : Int32)).bind fun r2 =>
  if r2 = 0 then
  (some ((-1 : Int32), q))
  else
  (if a3 ≤ (60 : Int32) then
  (if 0 ≤ a3 then
  (if vin a1 6 then
  nm (sI q 89 a1.toNatClampNeg ((-2 : Int32) - a2)) fun q3 =>
  if vin a1 6 then
  nm (sI q3 90 a1.toNatClampNeg a3) fun q4 =>
  nm ((60 : Int32) * a1) fun v5 =>
  b_X12_row_54 q4 a1 v5
  else none
  else none)
  else
  (some ((-14 : Int32), q)))
  else
  (some ((-1 : Int32), q))))
theorem e_X12_row {E : EE} (hE : GE E) (q : SS) (a1 : Int32) (a2 : Int32) (a3 : Int32) : R E (κI E) 2 290 0 [(0, .ref 60), (1, .int a1), (2, .int a2), (3, .int a3)] [] q (f_X12_row q a1 a2 a3) := by
  unfold f_X12_row
  refine r_iload_n (x := a1) dX12_row_0 rfl ?_
  refine r_calli (k := 2) (idx := 137) (y := 288) (as := [.int a1]) (rest := []) (L0 := [(0, .int a1)]) dX12_row_1 rfl rfl rfl rfl rfl vok_s rfl (r_dep (by decide) (e_X12_isShelf hE q a1)) (fun r1 => ?_)
  refine r_if_eq (t := 22) dX12_row_4 rfl (fun h11 => ?_) (fun h11 => ?_)
  · refine r_iconst (v := (-1 : Int32)) dX12_row_22 rfl ?_
    exact r_ireturn dX12_row_23 rfl rfl
  · refine r_iload_n (x := a2) dX12_row_7 rfl ?_
    refine r_iconst (v := (0 : Int32)) dX12_row_8 rfl ?_
    refine r_iconst (v := (4 : Int32)) dX12_row_9 rfl ?_
    refine r_calli (k := 2) (idx := 118) (y := 189) (as := [.int a2, .int (0 : Int32), .int (4 : Int32)]) (rest := []) (L0 := [(0, .int a2), (1, .int (0 : Int32)), (2, .int (4 : Int32))]) dX12_row_10 rfl rfl rfl rfl rfl vok_s rfl (r_dep (by decide) (e_X12_in hE q a2 (0 : Int32) (4 : Int32))) (fun r2 => ?_)
    refine r_if_eq (t := 22) dX12_row_13 rfl (fun h10 => ?_) (fun h10 => ?_)
    · refine r_iconst (v := (-1 : Int32)) dX12_row_22 rfl ?_
      exact r_ireturn dX12_row_23 rfl rfl
    · refine r_iload_n (x := a3) dX12_row_16 rfl ?_
      refine r_bipush (v := (60 : Int32)) dX12_row_17 rfl ?_
      refine r_icmp_le (t := 24) dX12_row_19 rfl (fun h9 => ?_) (fun h9 => ?_)
      · refine r_iload_n (x := a3) dX12_row_24 rfl ?_
        refine r_if_ge (t := 31) dX12_row_25 rfl (fun h8 => ?_) (fun h8 => ?_)
        · refine r_aload_n (x := 60) dX12_row_31 rfl ?_
          refine r_getA dX12_row_32 (fa_12_98_60 hE) ?_
          refine r_iload_n (x := a1) dX12_row_35 rfl ?_
          refine r_bipush (v := (-2 : Int32)) dX12_row_36 rfl ?_
          refine r_iload_n (x := a2) dX12_row_38 rfl ?_
          refine r_isub dX12_row_39 ?_
          refine r_iastore dX12_row_40 (ar_89 hE) ?_
          refine r_nmS fun q3 _ => ?_
          refine r_aload_n (x := 60) dX12_row_41 rfl ?_
          refine r_getA dX12_row_42 (fa_12_101_60 hE) ?_
          refine r_iload_n (x := a1) dX12_row_45 rfl ?_
          refine r_iload_n (x := a3) dX12_row_46 rfl ?_
          refine r_iastore dX12_row_47 (ar_90 hE) ?_
          refine r_nmS fun q4 _ => ?_
          refine r_bipush (v := (60 : Int32)) dX12_row_48 rfl ?_
          refine r_iload_n (x := a1) dX12_row_50 rfl ?_
          refine r_imul dX12_row_51 ?_
          refine r_nmI fun v5 _ => ?_
          refine r_istore (L2 := [(0, .ref 60), (1, .int a1), (2, .int a2), (3, .int a3), (4, .int v5)]) dX12_row_52 rfl rfl ?_
          exact r_sub (L' := [(0, .ref 60), (1, .int a1), (4, .int v5)]) (sub_c rfl (sub_c rfl (sub_c rfl sub_n))) (rb_X12_row_54 hE q4 a1 v5)
        · refine r_bipush (v := (-14 : Int32)) dX12_row_28 rfl ?_
          exact r_ireturn dX12_row_30 rfl rfl
      · refine r_iconst (v := (-1 : Int32)) dX12_row_22 rfl ?_
        exact r_ireturn dX12_row_23 rfl rfl
def f_X7_clear (q : SS) (a1 : Int32) : Option SS :=
  (f_X7_isShelf q a1).bind fun r1 =>
  if r1 = 0 then
  (some q)
  else
  (if vin a1 6 then
  nm (sI q 27 a1.toNatClampNeg (-2 : Int32)) fun q2 =>
  some q2
  else none)
theorem e_X7_clear {E : EE} (hE : GE E) (q : SS) (a1 : Int32) : R E (κV E) 1 89 0 [(0, .ref 26), (1, .int a1)] [] q (f_X7_clear q a1) := by
  unfold f_X7_clear
  refine r_aload_n (x := 26) dX7_clear_0 rfl ?_
  refine r_iload_n (x := a1) dX7_clear_1 rfl ?_
  refine r_calli (k := 0) (idx := 26) (y := 79) (as := [.ref 26, .int a1]) (rest := []) (L0 := [(0, .ref 26), (1, .int a1)]) dX7_clear_2 rfl rfl rfl rfl rfl (vok_v (ob_26 hE) rfl) rfl (r_dep (by decide) (e_X7_isShelf hE q a1)) (fun r1 => ?_)
  refine r_if_eq (t := 16) dX7_clear_5 rfl (fun h3 => ?_) (fun h3 => ?_)
  · exact r_return dX7_clear_16 rfl rfl
  · refine r_aload_n (x := 26) dX7_clear_8 rfl ?_
    refine r_getA dX7_clear_9 (fa_7_11_26 hE) ?_
    refine r_iload_n (x := a1) dX7_clear_12 rfl ?_
    refine r_bipush (v := (-2 : Int32)) dX7_clear_13 rfl ?_
    refine r_iastore dX7_clear_15 (ar_27 hE) ?_
    refine r_nmS fun q2 _ => ?_
    exact r_return dX7_clear_16 rfl rfl
def f_X7_holdBody (q : SS) (a1 : Int32) (a2 : Int32) : Option SS :=
  (f_X7_isShelf q a1).bind fun r1 =>
  if r1 = 0 then
  (some q)
  else
  (if vin a1 6 then
  nm (sI q 27 a1.toNatClampNeg (-1 : Int32)) fun q2 =>
  if vin a1 6 then
  nm (sI q2 29 a1.toNatClampNeg a2) fun q3 =>
  some q3
  else none
  else none)
theorem e_X7_holdBody {E : EE} (hE : GE E) (q : SS) (a1 : Int32) (a2 : Int32) : R E (κV E) 1 90 0 [(0, .ref 26), (1, .int a1), (2, .int a2)] [] q (f_X7_holdBody q a1 a2) := by
  unfold f_X7_holdBody
  refine r_aload_n (x := 26) dX7_holdBody_0 rfl ?_
  refine r_iload_n (x := a1) dX7_holdBody_1 rfl ?_
  refine r_calli (k := 0) (idx := 26) (y := 79) (as := [.ref 26, .int a1]) (rest := []) (L0 := [(0, .ref 26), (1, .int a1)]) dX7_holdBody_2 rfl rfl rfl rfl rfl (vok_v (ob_26 hE) rfl) rfl (r_dep (by decide) (e_X7_isShelf hE q a1)) (fun r1 => ?_)
  refine r_if_eq (t := 22) dX7_holdBody_5 rfl (fun h4 => ?_) (fun h4 => ?_)
  · exact r_return dX7_holdBody_22 rfl rfl
  · refine r_aload_n (x := 26) dX7_holdBody_8 rfl ?_
    refine r_getA dX7_holdBody_9 (fa_7_11_26 hE) ?_
    refine r_iload_n (x := a1) dX7_holdBody_12 rfl ?_
    refine r_iconst (v := (-1 : Int32)) dX7_holdBody_13 rfl ?_
    refine r_iastore dX7_holdBody_14 (ar_27 hE) ?_
    refine r_nmS fun q2 _ => ?_
    refine r_aload_n (x := 26) dX7_holdBody_15 rfl ?_
    refine r_getA dX7_holdBody_16 (fa_7_18_26 hE) ?_
    refine r_iload_n (x := a1) dX7_holdBody_19 rfl ?_
    refine r_iload_n (x := a2) dX7_holdBody_20 rfl ?_
    refine r_iastore dX7_holdBody_21 (ar_29 hE) ?_
    refine r_nmS fun q3 _ => ?_
    exact r_return dX7_holdBody_22 rfl rfl
def b_X11_keep_29 (q : SS) (l1 : Int32) (l2 : Int32) : Option (Int32 × SS) :=
  if l2 = (-1 : Int32) then
  ((f_X7_clear q l1).bind fun r2 =>
  some ((1 : Int32), r2))
  else
  ((f_X7_holdBody q l1 l2).bind fun r3 =>
  some ((1 : Int32), r3))
theorem rb_X11_keep_29 {E : EE} (hE : GE E) (q : SS) (l1 : Int32) (l2 : Int32) : R E (κI E) 2 181 29 [(0, .ref 0), (1, .int l1), (2, .int l2)] [] q (b_X11_keep_29 q l1 l2) := by
  unfold b_X11_keep_29
  refine r_iload_n (x := l2) dX11_keep_29 rfl ?_
  refine r_iconst (v := (-1 : Int32)) dX11_keep_30 rfl ?_
  refine r_icmp_ne (t := 45) dX11_keep_31 rfl (fun h4 => ?_) (fun h4 => ?_)
  · refine r_aload_n (x := 0) dX11_keep_34 rfl ?_
    refine r_getA dX11_keep_35 (fa_11_42_0 hE) ?_
    refine r_iload_n (x := l1) dX11_keep_38 rfl ?_
    refine r_callV (k := 0) (idx := 353) (y := 89) (as := [.ref 26, .int l1]) (rest := []) (L0 := [(0, .ref 26), (1, .int l1)]) dX11_keep_39 rfl rfl rfl rfl rfl (vok_v (ob_26 hE) rfl) rfl (r_dep (by decide) (e_X7_clear hE q l1)) (fun r2 => ?_)
    refine r_goto (t := 54) dX11_keep_42 rfl ?_
    refine r_iconst (v := (1 : Int32)) dX11_keep_54 rfl ?_
    exact r_ireturn dX11_keep_55 rfl rfl
  · refine r_aload_n (x := 0) dX11_keep_45 rfl ?_
    refine r_getA dX11_keep_46 (fa_11_42_0 hE) ?_
    refine r_iload_n (x := l1) dX11_keep_49 rfl ?_
    refine r_iload_n (x := l2) dX11_keep_50 rfl ?_
    refine r_callV (k := 0) (idx := 356) (y := 90) (as := [.ref 26, .int l1, .int l2]) (rest := []) (L0 := [(0, .ref 26), (1, .int l1), (2, .int l2)]) dX11_keep_51 rfl rfl rfl rfl rfl (vok_v (ob_26 hE) rfl) rfl (r_dep (by decide) (e_X7_holdBody hE q l1 l2)) (fun r3 => ?_)
    refine r_iconst (v := (1 : Int32)) dX11_keep_54 rfl ?_
    exact r_ireturn dX11_keep_55 rfl rfl
def f_X11_keep (q : SS) (a1 : Int32) (a2 : Int32) : Option (Int32 × SS) :=
  (f_X7_isShelf q a1).bind fun r1 =>
  if r1 = 0 then
  (some ((-1 : Int32), q))
  else
  (if a2 = (-1 : Int32) then
  (b_X11_keep_29 q a1 a2)
  else
  ((f_X3_isBody q a2).bind fun r5 =>
  if r5 = 0 then
  (some ((-1 : Int32), q))
  else
  (b_X11_keep_29 q a1 a2)))
theorem e_X11_keep {E : EE} (hE : GE E) (q : SS) (a1 : Int32) (a2 : Int32) : R E (κI E) 2 181 0 [(0, .ref 0), (1, .int a1), (2, .int a2)] [] q (f_X11_keep q a1 a2) := by
  unfold f_X11_keep
  refine r_aload_n (x := 0) dX11_keep_0 rfl ?_
  refine r_getA dX11_keep_1 (fa_11_42_0 hE) ?_
  refine r_iload_n (x := a1) dX11_keep_4 rfl ?_
  refine r_calli (k := 0) (idx := 106) (y := 79) (as := [.ref 26, .int a1]) (rest := []) (L0 := [(0, .ref 26), (1, .int a1)]) dX11_keep_5 rfl rfl rfl rfl rfl (vok_v (ob_26 hE) rfl) rfl (r_dep (by decide) (e_X7_isShelf hE q a1)) (fun r1 => ?_)
  refine r_if_eq (t := 27) dX11_keep_8 rfl (fun h8 => ?_) (fun h8 => ?_)
  · refine r_iconst (v := (-1 : Int32)) dX11_keep_27 rfl ?_
    exact r_ireturn dX11_keep_28 rfl rfl
  · refine r_iload_n (x := a2) dX11_keep_11 rfl ?_
    refine r_iconst (v := (-1 : Int32)) dX11_keep_12 rfl ?_
    refine r_icmp_eq (t := 29) dX11_keep_13 rfl (fun h7 => ?_) (fun h7 => ?_)
    · exact r_sub (L' := [(0, .ref 0), (1, .int a1), (2, .int a2)]) (sub_c rfl (sub_c rfl (sub_c rfl sub_n))) (rb_X11_keep_29 hE q a1 a2)
    · refine r_aload_n (x := 0) dX11_keep_16 rfl ?_
      refine r_getA dX11_keep_17 (fa_11_90_0 hE) ?_
      refine r_iload_n (x := a2) dX11_keep_20 rfl ?_
      refine r_calli (k := 0) (idx := 350) (y := 29) (as := [.ref 57, .int a2]) (rest := []) (L0 := [(0, .ref 57), (1, .int a2)]) dX11_keep_21 rfl rfl rfl rfl rfl (vok_v (ob_57 hE) rfl) rfl (r_dep (by decide) (e_X3_isBody hE q a2)) (fun r5 => ?_)
      refine r_if_ne (t := 29) dX11_keep_24 rfl (fun h6 => ?_) (fun h6 => ?_)
      · refine r_iconst (v := (-1 : Int32)) dX11_keep_27 rfl ?_
        exact r_ireturn dX11_keep_28 rfl rfl
      · exact r_sub (L' := [(0, .ref 0), (1, .int a1), (2, .int a2)]) (sub_c rfl (sub_c rfl (sub_c rfl sub_n))) (rb_X11_keep_29 hE q a1 a2)
def f_X12_isBody (q : SS) (a1 : Int32) : Option Int32 :=
  (f_X12_in q a1 (0 : Int32) ((q.1 60 52) - (1 : Int32))).bind fun r1 =>
  if r1 = 0 ∨ r1 = 1 then some r1 else none
theorem e_X12_isBody {E : EE} (hE : GE E) (q : SS) (a1 : Int32) : R E (κi E q) 1 270 0 [(0, .ref 60), (1, .int a1)] [] q (f_X12_isBody q a1) := by
  unfold f_X12_isBody
  refine r_iload_n (x := a1) dX12_isBody_0 rfl ?_
  refine r_iconst (v := (0 : Int32)) dX12_isBody_1 rfl ?_
  refine r_aload_n (x := 60) dX12_isBody_2 rfl ?_
  refine r_getI dX12_isBody_3 (ff_12_365_60 hE) (by decide) ?_
  refine r_iconst (v := (1 : Int32)) dX12_isBody_6 rfl ?_
  refine r_isub dX12_isBody_7 ?_
  refine r_calli (k := 2) (idx := 118) (y := 189) (as := [.int a1, .int (0 : Int32), .int ((q.1 60 52) - (1 : Int32))]) (rest := []) (L0 := [(0, .int a1), (1, .int (0 : Int32)), (2, .int ((q.1 60 52) - (1 : Int32)))]) dX12_isBody_8 rfl rfl rfl rfl rfl vok_s rfl (r_dep (by decide) (e_X12_in hE q a1 (0 : Int32) ((q.1 60 52) - (1 : Int32)))) (fun r1 => ?_)
  exact r_zreturn dX12_isBody_11 rfl rfl
def b_X12_keep_22 (q : SS) (l1 : Int32) (l2 : Int32) : Option (Int32 × SS) :=
  if vin l1 6 then
  nm (sI q 89 l1.toNatClampNeg l2) fun q2 =>
  some ((1 : Int32), q2)
  else none
theorem rb_X12_keep_22 {E : EE} (hE : GE E) (q : SS) (l1 : Int32) (l2 : Int32) : R E (κI E) 2 289 22 [(0, .ref 60), (1, .int l1), (2, .int l2)] [] q (b_X12_keep_22 q l1 l2) := by
  unfold b_X12_keep_22
  refine r_aload_n (x := 60) dX12_keep_22 rfl ?_
  refine r_getA dX12_keep_23 (fa_12_98_60 hE) ?_
  refine r_iload_n (x := l1) dX12_keep_26 rfl ?_
  refine r_iload_n (x := l2) dX12_keep_27 rfl ?_
  refine r_iastore dX12_keep_28 (ar_89 hE) ?_
  refine r_nmS fun q2 _ => ?_
  refine r_iconst (v := (1 : Int32)) dX12_keep_29 rfl ?_
  exact r_ireturn dX12_keep_30 rfl rfl
def f_X12_keep (q : SS) (a1 : Int32) (a2 : Int32) : Option (Int32 × SS) :=
  (f_X12_isShelf q a1).bind fun r1 =>
  if r1 = 0 then
  (some ((-1 : Int32), q))
  else
  (if a2 = (-1 : Int32) then
  (b_X12_keep_22 q a1 a2)
  else
  ((f_X12_isBody q a2).bind fun r3 =>
  if r3 = 0 then
  (some ((-1 : Int32), q))
  else
  (b_X12_keep_22 q a1 a2)))
theorem e_X12_keep {E : EE} (hE : GE E) (q : SS) (a1 : Int32) (a2 : Int32) : R E (κI E) 2 289 0 [(0, .ref 60), (1, .int a1), (2, .int a2)] [] q (f_X12_keep q a1 a2) := by
  unfold f_X12_keep
  refine r_iload_n (x := a1) dX12_keep_0 rfl ?_
  refine r_calli (k := 2) (idx := 137) (y := 288) (as := [.int a1]) (rest := []) (L0 := [(0, .int a1)]) dX12_keep_1 rfl rfl rfl rfl rfl vok_s rfl (r_dep (by decide) (e_X12_isShelf hE q a1)) (fun r1 => ?_)
  refine r_if_eq (t := 20) dX12_keep_4 rfl (fun h6 => ?_) (fun h6 => ?_)
  · refine r_iconst (v := (-1 : Int32)) dX12_keep_20 rfl ?_
    exact r_ireturn dX12_keep_21 rfl rfl
  · refine r_iload_n (x := a2) dX12_keep_7 rfl ?_
    refine r_iconst (v := (-1 : Int32)) dX12_keep_8 rfl ?_
    refine r_icmp_eq (t := 22) dX12_keep_9 rfl (fun h5 => ?_) (fun h5 => ?_)
    · exact r_sub (L' := [(0, .ref 60), (1, .int a1), (2, .int a2)]) (sub_c rfl (sub_c rfl (sub_c rfl sub_n))) (rb_X12_keep_22 hE q a1 a2)
    · refine r_aload_n (x := 60) dX12_keep_12 rfl ?_
      refine r_iload_n (x := a2) dX12_keep_13 rfl ?_
      refine r_calli (k := 0) (idx := 408) (y := 270) (as := [.ref 60, .int a2]) (rest := []) (L0 := [(0, .ref 60), (1, .int a2)]) dX12_keep_14 rfl rfl rfl rfl rfl (vok_v (ob_60 hE) rfl) rfl (r_dep (by decide) (e_X12_isBody hE q a2)) (fun r3 => ?_)
      refine r_if_ne (t := 22) dX12_keep_17 rfl (fun h4 => ?_) (fun h4 => ?_)
      · refine r_iconst (v := (-1 : Int32)) dX12_keep_20 rfl ?_
        exact r_ireturn dX12_keep_21 rfl rfl
      · exact r_sub (L' := [(0, .ref 60), (1, .int a1), (2, .int a2)]) (sub_c rfl (sub_c rfl (sub_c rfl sub_n))) (rb_X12_keep_22 hE q a1 a2)
def f_X3_traced (q : SS)  : Option Int32 :=
  some (jmin (q.1 57 3) (24 : Int32))
theorem e_X3_traced {E : EE} (hE : GE E) (q : SS)  : R E (κi E q) 1 34 0 [(0, .ref 57)] [] q (f_X3_traced q) := by
  unfold f_X3_traced
  refine r_aload_n (x := 57) dX3_traced_0 rfl ?_
  refine r_getI dX3_traced_1 (ff_3_32_57 hE) (by decide) ?_
  refine r_bipush (v := (24 : Int32)) dX3_traced_4 rfl ?_
  refine r_mm (j := 1) (v := (jmin (q.1 57 3) (24 : Int32))) dX3_traced_6 ⟨rfl, rfl, rfl, rfl⟩ rfl rfl ?_
  exact r_ireturn dX3_traced_9 rfl rfl
def f_X3_traceAt (q : SS) (a1 : Int32) : Option Int32 :=
  if a1 < 0 then
  (some (0 : Int32))
  else
  ((f_X3_traced q).bind fun r1 =>
  if r1 ≤ a1 then
  (some (0 : Int32))
  else
  (if vin a1 24 then
  some (q.1 59 a1.toNatClampNeg)
  else none))
theorem e_X3_traceAt {E : EE} (hE : GE E) (q : SS) (a1 : Int32) : R E (κi E q) 2 35 0 [(0, .ref 57), (1, .int a1)] [] q (f_X3_traceAt q a1) := by
  unfold f_X3_traceAt
  refine r_iload_n (x := a1) dX3_traceAt_0 rfl ?_
  refine r_if_lt (t := 21) dX3_traceAt_1 rfl (fun h3 => ?_) (fun h3 => ?_)
  · refine r_iconst (v := (0 : Int32)) dX3_traceAt_21 rfl ?_
    exact r_ireturn dX3_traceAt_22 rfl rfl
  · refine r_iload_n (x := a1) dX3_traceAt_4 rfl ?_
    refine r_aload_n (x := 57) dX3_traceAt_5 rfl ?_
    refine r_calli (k := 0) (idx := 41) (y := 34) (as := [.ref 57]) (rest := [.int a1]) (L0 := [(0, .ref 57)]) dX3_traceAt_6 rfl rfl rfl rfl rfl (vok_v (ob_57 hE) rfl) rfl (r_dep (by decide) (e_X3_traced hE q)) (fun r1 => ?_)
    refine r_icmp_ge (t := 21) dX3_traceAt_9 rfl (fun h2 => ?_) (fun h2 => ?_)
    · refine r_iconst (v := (0 : Int32)) dX3_traceAt_21 rfl ?_
      exact r_ireturn dX3_traceAt_22 rfl rfl
    · refine r_aload_n (x := 57) dX3_traceAt_12 rfl ?_
      refine r_getA dX3_traceAt_13 (fa_3_15_57 hE) ?_
      refine r_iload_n (x := a1) dX3_traceAt_16 rfl ?_
      refine r_iaload dX3_traceAt_17 (ar_59 hE) ?_
      refine r_goto (t := 22) dX3_traceAt_18 rfl ?_
      exact r_ireturn dX3_traceAt_22 rfl rfl
def b_X11_trace_15 (q : SS)  : Option Int32 :=
  some (-1 : Int32)
theorem rb_X11_trace_15 {E : EE} (hE : GE E) (q : SS)  : R E (κi E q) 3 180 15 [] [] q (b_X11_trace_15 q) := by
  unfold b_X11_trace_15
  refine r_iconst (v := (-1 : Int32)) dX11_trace_15 rfl ?_
  refine r_goto (t := 27) dX11_trace_16 rfl ?_
  exact r_ireturn dX11_trace_27 rfl rfl
def f_X11_trace (q : SS) (a1 : Int32) : Option Int32 :=
  if a1 < 0 then
  (b_X11_trace_15 q)
  else
  ((f_X3_traced q).bind fun r1 =>
  if a1 < r1 then
  ((f_X3_traceAt q a1).bind fun r2 =>
  some r2)
  else
  (b_X11_trace_15 q))
theorem e_X11_trace {E : EE} (hE : GE E) (q : SS) (a1 : Int32) : R E (κi E q) 3 180 0 [(0, .ref 0), (1, .int a1)] [] q (f_X11_trace q a1) := by
  unfold f_X11_trace
  refine r_iload_n (x := a1) dX11_trace_0 rfl ?_
  refine r_if_lt (t := 15) dX11_trace_1 rfl (fun h4 => ?_) (fun h4 => ?_)
  · exact r_sub (L' := []) sub_n (rb_X11_trace_15 hE q)
  · refine r_iload_n (x := a1) dX11_trace_4 rfl ?_
    refine r_aload_n (x := 0) dX11_trace_5 rfl ?_
    refine r_getA dX11_trace_6 (fa_11_90_0 hE) ?_
    refine r_calli (k := 0) (idx := 344) (y := 34) (as := [.ref 57]) (rest := [.int a1]) (L0 := [(0, .ref 57)]) dX11_trace_9 rfl rfl rfl rfl rfl (vok_v (ob_57 hE) rfl) rfl (r_dep (by decide) (e_X3_traced hE q)) (fun r1 => ?_)
    refine r_icmp_lt (t := 19) dX11_trace_12 rfl (fun h3 => ?_) (fun h3 => ?_)
    · refine r_aload_n (x := 0) dX11_trace_19 rfl ?_
      refine r_getA dX11_trace_20 (fa_11_90_0 hE) ?_
      refine r_iload_n (x := a1) dX11_trace_23 rfl ?_
      refine r_calli (k := 0) (idx := 347) (y := 35) (as := [.ref 57, .int a1]) (rest := []) (L0 := [(0, .ref 57), (1, .int a1)]) dX11_trace_24 rfl rfl rfl rfl rfl (vok_v (ob_57 hE) rfl) rfl (r_dep (by decide) (e_X3_traceAt hE q a1)) (fun r2 => ?_)
      exact r_ireturn dX11_trace_27 rfl rfl
    · exact r_sub (L' := []) sub_n (rb_X11_trace_15 hE q)
def f_X12_trace (q : SS) (a1 : Int32) : Option Int32 :=
  if a1 < 0 then
  (some (-1 : Int32))
  else
  (if (q.1 60 54) ≤ a1 then
  (some (-1 : Int32))
  else
  (if (24 : Int32) ≤ a1 then
  (some (-1 : Int32))
  else
  (if vin a1 24 then
  some (q.1 88 a1.toNatClampNeg)
  else none)))
theorem e_X12_trace {E : EE} (hE : GE E) (q : SS) (a1 : Int32) : R E (κi E q) 0 272 0 [(0, .ref 60), (1, .int a1)] [] q (f_X12_trace q a1) := by
  unfold f_X12_trace
  refine r_iload_n (x := a1) dX12_trace_0 rfl ?_
  refine r_if_lt (t := 27) dX12_trace_1 rfl (fun h3 => ?_) (fun h3 => ?_)
  · refine r_iconst (v := (-1 : Int32)) dX12_trace_27 rfl ?_
    exact r_ireturn dX12_trace_28 rfl rfl
  · refine r_iload_n (x := a1) dX12_trace_4 rfl ?_
    refine r_aload_n (x := 60) dX12_trace_5 rfl ?_
    refine r_getI dX12_trace_6 (ff_12_368_60 hE) (by decide) ?_
    refine r_icmp_ge (t := 27) dX12_trace_9 rfl (fun h2 => ?_) (fun h2 => ?_)
    · refine r_iconst (v := (-1 : Int32)) dX12_trace_27 rfl ?_
      exact r_ireturn dX12_trace_28 rfl rfl
    · refine r_iload_n (x := a1) dX12_trace_12 rfl ?_
      refine r_bipush (v := (24 : Int32)) dX12_trace_13 rfl ?_
      refine r_icmp_ge (t := 27) dX12_trace_15 rfl (fun h1 => ?_) (fun h1 => ?_)
      · refine r_iconst (v := (-1 : Int32)) dX12_trace_27 rfl ?_
        exact r_ireturn dX12_trace_28 rfl rfl
      · refine r_aload_n (x := 60) dX12_trace_18 rfl ?_
        refine r_getA dX12_trace_19 (fa_12_95_60 hE) ?_
        refine r_iload_n (x := a1) dX12_trace_22 rfl ?_
        refine r_iaload dX12_trace_23 (ar_88 hE) ?_
        refine r_goto (t := 28) dX12_trace_24 rfl ?_
        exact r_ireturn dX12_trace_28 rfl rfl
def b_X3_ownerOf_4 (q : SS) : Int32 → Int32 → Int32 → Option Int32 :=
  fx3 (fun (rec_4 : Int32 → Int32 → Int32 → Option Int32) (l1 : Int32) (l2 : Int32) (l3 : Int32) =>
  if (8 : Int32) ≤ l3 then
  (some (-1 : Int32))
  else
  ((f_X3_isKind q l2).bind fun r1 =>
  if r1 = 0 then
  (some (-1 : Int32))
  else
  (if vin ((l2 * (4 : Int32)) + l1) 32 then
  if (stV 2 ((l2 * (4 : Int32)) + l1).toNatClampNeg) = 0 then
  (if vin l2 8 then
  nm (stV 1 l2.toNatClampNeg) fun v2 =>
  rec_4 l1 v2 (l3 + (1 : Int32))
  else none)
  else
  (some l2)
  else none))) FU
theorem rb_X3_ownerOf_4 {E : EE} (hE : GE E) (q : SS) (l1 : Int32) (l2 : Int32) (l3 : Int32) : R E (κi E q) 1 38 4 [(1, .int l1), (2, .int l2), (3, .int l3)] [] q (b_X3_ownerOf_4 q l1 l2 l3) := by
  unfold b_X3_ownerOf_4
  refine fx3_ok (P := fun l1 l2 l3 o => R E (κi E q) 1 38 4 [(1, .int l1), (2, .int l2), (3, .int l3)] [] q o) (fun _ _ _ => r_no) (fun rec_4 hrec_4 l1 l2 l3 => ?_) _ _ _ _
  refine r_iload_n (x := l3) dX3_ownerOf_4 rfl ?_
  refine r_bipush (v := (8 : Int32)) dX3_ownerOf_5 rfl ?_
  refine r_icmp_ge (t := 43) dX3_ownerOf_7 rfl (fun h5 => ?_) (fun h5 => ?_)
  · refine r_iconst (v := (-1 : Int32)) dX3_ownerOf_43 rfl ?_
    exact r_ireturn dX3_ownerOf_44 rfl rfl
  · refine r_iload_n (x := l2) dX3_ownerOf_10 rfl ?_
    refine r_calli (k := 2) (idx := 18) (y := 27) (as := [.int l2]) (rest := []) (L0 := [(0, .int l2)]) dX3_ownerOf_11 rfl rfl rfl rfl rfl vok_s rfl (r_dep (by decide) (e_X3_isKind hE q l2)) (fun r1 => ?_)
    refine r_if_eq (t := 43) dX3_ownerOf_14 rfl (fun h4 => ?_) (fun h4 => ?_)
    · refine r_iconst (v := (-1 : Int32)) dX3_ownerOf_43 rfl ?_
      exact r_ireturn dX3_ownerOf_44 rfl rfl
    · refine r_gets (j := 2) dX3_ownerOf_17 rfl ?_
      refine r_iload_n (x := l2) dX3_ownerOf_20 rfl ?_
      refine r_iconst (v := (4 : Int32)) dX3_ownerOf_21 rfl ?_
      refine r_imul dX3_ownerOf_22 ?_
      refine r_iload_n (x := l1) dX3_ownerOf_23 rfl ?_
      refine r_iadd dX3_ownerOf_24 ?_
      refine r_stload (n := 32) dX3_ownerOf_25 rfl rfl (by decide) ?_
      refine r_if_eq (t := 31) dX3_ownerOf_26 rfl (fun h3 => ?_) (fun h3 => ?_)
      · refine r_gets (j := 1) dX3_ownerOf_31 rfl ?_
        refine r_iload_n (x := l2) dX3_ownerOf_34 rfl ?_
        refine r_stload (n := 8) dX3_ownerOf_35 rfl rfl (by decide) ?_
        refine r_nmI fun v2 _ => ?_
        refine r_istore_n (L2 := [(1, .int l1), (2, .int v2), (3, .int l3)]) dX3_ownerOf_36 rfl rfl ?_
        refine r_iinc (x := l3) (v := (l3 + (1 : Int32))) (L2 := [(1, .int l1), (2, .int v2), (3, .int (l3 + (1 : Int32)))]) dX3_ownerOf_37 rfl rfl rfl rfl ?_
        refine r_goto (t := 4) dX3_ownerOf_40 rfl ?_
        exact r_sub (L' := [(1, .int l1), (2, .int v2), (3, .int (l3 + (1 : Int32)))]) (sub_c rfl (sub_c rfl (sub_c rfl sub_n))) (hrec_4 l1 v2 (l3 + (1 : Int32)))
      · refine r_iload_n (x := l2) dX3_ownerOf_29 rfl ?_
        exact r_ireturn dX3_ownerOf_30 rfl rfl
def f_X3_ownerOf (q : SS) (a0 : Int32) (a1 : Int32) : Option Int32 :=
  b_X3_ownerOf_4 q a1 a0 (0 : Int32)
theorem e_X3_ownerOf {E : EE} (hE : GE E) (q : SS) (a0 : Int32) (a1 : Int32) : R E (κi E q) 1 38 0 [(0, .int a0), (1, .int a1)] [] q (f_X3_ownerOf q a0 a1) := by
  unfold f_X3_ownerOf
  refine r_iload_n (x := a0) dX3_ownerOf_0 rfl ?_
  refine r_istore_n (L2 := [(0, .int a0), (1, .int a1), (2, .int a0)]) dX3_ownerOf_1 rfl rfl ?_
  refine r_iconst (v := (0 : Int32)) dX3_ownerOf_2 rfl ?_
  refine r_istore_n (L2 := [(0, .int a0), (1, .int a1), (2, .int a0), (3, .int (0 : Int32))]) dX3_ownerOf_3 rfl rfl ?_
  exact r_sub (L' := [(1, .int a1), (2, .int a0), (3, .int (0 : Int32))]) (sub_c rfl (sub_c rfl (sub_c rfl sub_n))) (rb_X3_ownerOf_4 hE q a1 a0 (0 : Int32))
def b_X3_noteBody_19 (q : SS)  : Option SS :=
  nm (sI q 57 3 ((q.1 57 3) + (1 : Int32))) fun q1 =>
  some q1
theorem rb_X3_noteBody_19 {E : EE} (hE : GE E) (q : SS)  : R E (κV E) 0 37 19 [(0, .ref 57)] [] q (b_X3_noteBody_19 q) := by
  unfold b_X3_noteBody_19
  refine r_aload_n (x := 57) dX3_noteBody_19 rfl ?_
  refine r_dup dX3_noteBody_20 rfl ?_
  refine r_getI dX3_noteBody_21 (ff_3_32_57 hE) (by decide) ?_
  refine r_iconst (v := (1 : Int32)) dX3_noteBody_24 rfl ?_
  refine r_iadd dX3_noteBody_25 ?_
  refine r_putI dX3_noteBody_26 (ff_3_32_57 hE) ?_
  refine r_nmS fun q1 _ => ?_
  exact r_return dX3_noteBody_29 rfl rfl
def f_X3_noteBody (q : SS) (a1 : Int32) : Option SS :=
  if (24 : Int32) ≤ (q.1 57 3) then
  (b_X3_noteBody_19 q)
  else
  (if vin (q.1 57 3) 24 then
  nm (sI q 59 (q.1 57 3).toNatClampNeg a1) fun q2 =>
  b_X3_noteBody_19 q2
  else none)
theorem e_X3_noteBody {E : EE} (hE : GE E) (q : SS) (a1 : Int32) : R E (κV E) 0 37 0 [(0, .ref 57), (1, .int a1)] [] q (f_X3_noteBody q a1) := by
  unfold f_X3_noteBody
  refine r_aload_n (x := 57) dX3_noteBody_0 rfl ?_
  refine r_getI dX3_noteBody_1 (ff_3_32_57 hE) (by decide) ?_
  refine r_bipush (v := (24 : Int32)) dX3_noteBody_4 rfl ?_
  refine r_icmp_ge (t := 19) dX3_noteBody_6 rfl (fun h3 => ?_) (fun h3 => ?_)
  · exact r_sub (L' := [(0, .ref 57)]) (sub_c rfl sub_n) (rb_X3_noteBody_19 hE q)
  · refine r_aload_n (x := 57) dX3_noteBody_9 rfl ?_
    refine r_getA dX3_noteBody_10 (fa_3_15_57 hE) ?_
    refine r_aload_n (x := 57) dX3_noteBody_13 rfl ?_
    refine r_getI dX3_noteBody_14 (ff_3_32_57 hE) (by decide) ?_
    refine r_iload_n (x := a1) dX3_noteBody_17 rfl ?_
    refine r_iastore dX3_noteBody_18 (ar_59 hE) ?_
    refine r_nmS fun q2 _ => ?_
    exact r_sub (L' := [(0, .ref 57)]) (sub_c rfl sub_n) (rb_X3_noteBody_19 hE q2)
abbrev GT_X3_perform : Type := (SS → Int32 → Int32 → Int32 → Int32 → Option (Int32 × SS))
def GS_X3_perform (E : EE) (n : Nat) (r : GT_X3_perform) : Prop := (∀ (q : SS) (a1 : Int32) (a2 : Int32) (a3 : Int32) (a4 : Int32), R E (κI E) (2 + n) 39 0 [(0, .ref 57), (1, .int a1), (2, .int a2), (3, .int a3), (4, .int a4)] [] q (r q a1 a2 a3 a4))
def fb_X3_perform (r : GT_X3_perform) (q : SS) (a1 : Int32) (a2 : Int32) (a3 : Int32) (a4 : Int32) : Option (Int32 × SS) :=
  (f_X3_ownerOf q a1 a2).bind fun r1 =>
  if r1 < 0 then
  (some ((0 : Int32), q))
  else
  (if a4 ≤ (40 : Int32) then
  (if vin ((r1 * (4 : Int32)) + a2) 32 then
  nm (stV 2 ((r1 * (4 : Int32)) + a2).toNatClampNeg) fun v2 =>
  (f_X3_kindOf q (q.1 57 4)).bind fun r3 =>
  if vin r1 8 then
  nm (stV 1 r1.toNatClampNeg) fun v4 =>
  nm (a4 + (1 : Int32)) fun v5 =>
  (f_X3_noteBody q v2).bind fun r6 =>
  sw v2 [(1, (some ((a3 + (r6.1 57 4)), r6))), (2, ((r r6 r3 (1 : Int32) a3 v5).bind fun r9 =>
  (r r9.2 r3 (2 : Int32) (1 : Int32) v5).bind fun r10 =>
  some ((r9.1 - r10.1), r10.2))), (10, ((r r6 r3 (0 : Int32) a3 v5).bind fun r12 =>
  some ((r12.1 * (2 : Int32)), r12.2))), (11, (some ((a3 ^^^ (r6.1 57 4)), r6))), (20, ((r r6 v4 (0 : Int32) a3 v5).bind fun r15 =>
  some ((r15.1 + (3 : Int32)), r15.2))), (30, ((r r6 v4 (1 : Int32) a3 v5).bind fun r17 =>
  some ((-r17.1), r17.2))), (40, ((r r6 v4 (2 : Int32) a3 v5).bind fun r19 =>
  some ((r19.1 * (3 : Int32)), r19.2))), (41, ((r r6 v4 (1 : Int32) (a3 + (1 : Int32)) v5).bind fun r21 =>
  some (r21.1, r21.2))), (50, ((r r6 v4 (3 : Int32) a3 v5).bind fun r23 =>
  some ((r23.1 ^^^ (5 : Int32)), r23.2))), (60, ((r r6 v4 (2 : Int32) a3 v5).bind fun r25 =>
  (r r25.2 r3 (0 : Int32) (2 : Int32) v5).bind fun r26 =>
  some ((r25.1 - r26.1), r26.2))), (61, ((r r6 v4 (3 : Int32) a3 v5).bind fun r28 =>
  some ((r28.1 + (1 : Int32)), r28.2))), (70, ((r r6 v4 (0 : Int32) a3 v5).bind fun r30 =>
  some ((r30.1 * (2 : Int32)), r30.2))), (80, ((r r6 v4 (1 : Int32) a3 v5).bind fun r32 =>
  (r r32.2 r3 (2 : Int32) (2 : Int32) v5).bind fun r33 =>
  some ((r32.1 + r33.1), r33.2))), (81, ((r r6 v4 (0 : Int32) a3 v5).bind fun r35 =>
  some ((r35.1 - (1 : Int32)), r35.2)))]
  (some ((0 : Int32), r6))
  else none
  else none)
  else
  (some ((0 : Int32), q)))
theorem eb_X3_perform {E : EE} (hE : GE E) {r : GT_X3_perform} (n : Nat) (hr : GS_X3_perform E n r) (q : SS) (a1 : Int32) (a2 : Int32) (a3 : Int32) (a4 : Int32) : R E (κI E) (2 + n + 1) 39 0 [(0, .ref 57), (1, .int a1), (2, .int a2), (3, .int a3), (4, .int a4)] [] q (fb_X3_perform r q a1 a2 a3 a4) := by
  unfold fb_X3_perform
  refine r_iload_n (x := a1) dX3_perform_0 rfl ?_
  refine r_iload_n (x := a2) dX3_perform_1 rfl ?_
  refine r_calli (k := 2) (idx := 59) (y := 38) (as := [.int a1, .int a2]) (rest := []) (L0 := [(0, .int a1), (1, .int a2)]) dX3_perform_2 rfl rfl rfl rfl rfl vok_s rfl (r_dep (by omega) (e_X3_ownerOf hE q a1 a2)) (fun r1 => ?_)
  refine r_istore (L2 := [(0, .ref 57), (1, .int a1), (2, .int a2), (3, .int a3), (4, .int a4), (5, .int r1)]) dX3_perform_5 rfl rfl ?_
  refine r_iload (x := r1) dX3_perform_7 rfl ?_
  refine r_if_lt (t := 19) dX3_perform_9 rfl (fun h37 => ?_) (fun h37 => ?_)
  · refine r_iconst (v := (0 : Int32)) dX3_perform_19 rfl ?_
    exact r_ireturn dX3_perform_20 rfl rfl
  · refine r_iload (x := a4) dX3_perform_12 rfl ?_
    refine r_bipush (v := (40 : Int32)) dX3_perform_14 rfl ?_
    refine r_icmp_le (t := 21) dX3_perform_16 rfl (fun h36 => ?_) (fun h36 => ?_)
    · refine r_gets (j := 2) dX3_perform_21 rfl ?_
      refine r_iload (x := r1) dX3_perform_24 rfl ?_
      refine r_iconst (v := (4 : Int32)) dX3_perform_26 rfl ?_
      refine r_imul dX3_perform_27 ?_
      refine r_iload_n (x := a2) dX3_perform_28 rfl ?_
      refine r_iadd dX3_perform_29 ?_
      refine r_stload (n := 32) dX3_perform_30 rfl rfl (by decide) ?_
      refine r_nmI fun v2 _ => ?_
      refine r_istore (L2 := [(0, .ref 57), (1, .int a1), (2, .int a2), (3, .int a3), (4, .int a4), (5, .int r1), (6, .int v2)]) dX3_perform_31 rfl rfl ?_
      refine r_aload_n (x := 57) dX3_perform_33 rfl ?_
      refine r_aload_n (x := 57) dX3_perform_34 rfl ?_
      refine r_getI dX3_perform_35 (ff_3_45_57 hE) (by decide) ?_
      refine r_calli (k := 0) (idx := 48) (y := 30) (as := [.ref 57, .int (q.1 57 4)]) (rest := []) (L0 := [(0, .ref 57), (1, .int (q.1 57 4))]) dX3_perform_38 rfl rfl rfl rfl rfl (vok_v (ob_57 hE) rfl) rfl (r_dep (by omega) (e_X3_kindOf hE q (q.1 57 4))) (fun r3 => ?_)
      refine r_istore (L2 := [(0, .ref 57), (1, .int a1), (2, .int a2), (3, .int a3), (4, .int a4), (5, .int r1), (6, .int v2), (7, .int r3)]) dX3_perform_41 rfl rfl ?_
      refine r_gets (j := 1) dX3_perform_43 rfl ?_
      refine r_iload (x := r1) dX3_perform_46 rfl ?_
      refine r_stload (n := 8) dX3_perform_48 rfl rfl (by decide) ?_
      refine r_nmI fun v4 _ => ?_
      refine r_istore (L2 := [(0, .ref 57), (1, .int a1), (2, .int a2), (3, .int a3), (4, .int a4), (5, .int r1), (6, .int v2), (7, .int r3), (8, .int v4)]) dX3_perform_49 rfl rfl ?_
      refine r_iload (x := a4) dX3_perform_51 rfl ?_
      refine r_iconst (v := (1 : Int32)) dX3_perform_53 rfl ?_
      refine r_iadd dX3_perform_54 ?_
      refine r_nmI fun v5 _ => ?_
      refine r_istore (L2 := [(0, .ref 57), (1, .int a1), (2, .int a2), (3, .int a3), (4, .int a4), (5, .int r1), (6, .int v2), (7, .int r3), (8, .int v4), (9, .int v5)]) dX3_perform_55 rfl rfl ?_
      refine r_aload_n (x := 57) dX3_perform_57 rfl ?_
      refine r_iload (x := v2) dX3_perform_58 rfl ?_
      refine r_callV (k := 0) (idx := 62) (y := 37) (as := [.ref 57, .int v2]) (rest := []) (L0 := [(0, .ref 57), (1, .int v2)]) dX3_perform_60 rfl rfl rfl rfl rfl (vok_v (ob_57 hE) rfl) rfl (r_dep (by omega) (e_X3_noteBody hE q v2)) (fun r6 => ?_)
      refine r_iload (x := v2) dX3_perform_63 rfl ?_
      refine r_sw1 (fun h7 => ?_) (fun h7 => ?_)
      · refine r_jmp (t := 188) dX3_perform_65 rfl (by rw [h7]; rfl) ?_
        refine r_iload_n (x := a3) dX3_perform_188 rfl ?_
        refine r_aload_n (x := 57) dX3_perform_189 rfl ?_
        refine r_getI dX3_perform_190 (ff_3_45_57 hE) (by decide) ?_
        refine r_iadd dX3_perform_193 ?_
        exact r_ireturn dX3_perform_194 rfl rfl
      refine r_sw1 (fun h8 => ?_) (fun h8 => ?_)
      · refine r_jmp (t := 195) dX3_perform_65 rfl (by rw [h8]; rfl) ?_
        refine r_aload_n (x := 57) dX3_perform_195 rfl ?_
        refine r_iload (x := r3) dX3_perform_196 rfl ?_
        refine r_iconst (v := (1 : Int32)) dX3_perform_198 rfl ?_
        refine r_iload_n (x := a3) dX3_perform_199 rfl ?_
        refine r_iload (x := v5) dX3_perform_200 rfl ?_
        refine r_callI (k := 2) (idx := 52) (y := 39) (as := [.ref 57, .int r3, .int (1 : Int32), .int a3, .int v5]) (rest := []) (L0 := [(0, .ref 57), (1, .int r3), (2, .int (1 : Int32)), (3, .int a3), (4, .int v5)]) dX3_perform_202 rfl rfl rfl rfl rfl vok_s rfl (hr r6 r3 (1 : Int32) a3 v5) (fun r9 => ?_)
        refine r_aload_n (x := 57) dX3_perform_205 rfl ?_
        refine r_iload (x := r3) dX3_perform_206 rfl ?_
        refine r_iconst (v := (2 : Int32)) dX3_perform_208 rfl ?_
        refine r_iconst (v := (1 : Int32)) dX3_perform_209 rfl ?_
        refine r_iload (x := v5) dX3_perform_210 rfl ?_
        refine r_callI (k := 2) (idx := 52) (y := 39) (as := [.ref 57, .int r3, .int (2 : Int32), .int (1 : Int32), .int v5]) (rest := [.int r9.1]) (L0 := [(0, .ref 57), (1, .int r3), (2, .int (2 : Int32)), (3, .int (1 : Int32)), (4, .int v5)]) dX3_perform_212 rfl rfl rfl rfl rfl vok_s rfl (hr r9.2 r3 (2 : Int32) (1 : Int32) v5) (fun r10 => ?_)
        refine r_isub dX3_perform_215 ?_
        exact r_ireturn dX3_perform_216 rfl rfl
      refine r_sw1 (fun h11 => ?_) (fun h11 => ?_)
      · refine r_jmp (t := 217) dX3_perform_65 rfl (by rw [h11]; rfl) ?_
        refine r_aload_n (x := 57) dX3_perform_217 rfl ?_
        refine r_iload (x := r3) dX3_perform_218 rfl ?_
        refine r_iconst (v := (0 : Int32)) dX3_perform_220 rfl ?_
        refine r_iload_n (x := a3) dX3_perform_221 rfl ?_
        refine r_iload (x := v5) dX3_perform_222 rfl ?_
        refine r_callI (k := 2) (idx := 52) (y := 39) (as := [.ref 57, .int r3, .int (0 : Int32), .int a3, .int v5]) (rest := []) (L0 := [(0, .ref 57), (1, .int r3), (2, .int (0 : Int32)), (3, .int a3), (4, .int v5)]) dX3_perform_224 rfl rfl rfl rfl rfl vok_s rfl (hr r6 r3 (0 : Int32) a3 v5) (fun r12 => ?_)
        refine r_iconst (v := (2 : Int32)) dX3_perform_227 rfl ?_
        refine r_imul dX3_perform_228 ?_
        exact r_ireturn dX3_perform_229 rfl rfl
      refine r_sw1 (fun h13 => ?_) (fun h13 => ?_)
      · refine r_jmp (t := 230) dX3_perform_65 rfl (by rw [h13]; rfl) ?_
        refine r_iload_n (x := a3) dX3_perform_230 rfl ?_
        refine r_aload_n (x := 57) dX3_perform_231 rfl ?_
        refine r_getI dX3_perform_232 (ff_3_45_57 hE) (by decide) ?_
        refine r_ixor dX3_perform_235 ?_
        exact r_ireturn dX3_perform_236 rfl rfl
      refine r_sw1 (fun h14 => ?_) (fun h14 => ?_)
      · refine r_jmp (t := 237) dX3_perform_65 rfl (by rw [h14]; rfl) ?_
        refine r_aload_n (x := 57) dX3_perform_237 rfl ?_
        refine r_iload (x := v4) dX3_perform_238 rfl ?_
        refine r_iconst (v := (0 : Int32)) dX3_perform_240 rfl ?_
        refine r_iload_n (x := a3) dX3_perform_241 rfl ?_
        refine r_iload (x := v5) dX3_perform_242 rfl ?_
        refine r_callI (k := 2) (idx := 52) (y := 39) (as := [.ref 57, .int v4, .int (0 : Int32), .int a3, .int v5]) (rest := []) (L0 := [(0, .ref 57), (1, .int v4), (2, .int (0 : Int32)), (3, .int a3), (4, .int v5)]) dX3_perform_244 rfl rfl rfl rfl rfl vok_s rfl (hr r6 v4 (0 : Int32) a3 v5) (fun r15 => ?_)
        refine r_iconst (v := (3 : Int32)) dX3_perform_247 rfl ?_
        refine r_iadd dX3_perform_248 ?_
        exact r_ireturn dX3_perform_249 rfl rfl
      refine r_sw1 (fun h16 => ?_) (fun h16 => ?_)
      · refine r_jmp (t := 250) dX3_perform_65 rfl (by rw [h16]; rfl) ?_
        refine r_aload_n (x := 57) dX3_perform_250 rfl ?_
        refine r_iload (x := v4) dX3_perform_251 rfl ?_
        refine r_iconst (v := (1 : Int32)) dX3_perform_253 rfl ?_
        refine r_iload_n (x := a3) dX3_perform_254 rfl ?_
        refine r_iload (x := v5) dX3_perform_255 rfl ?_
        refine r_callI (k := 2) (idx := 52) (y := 39) (as := [.ref 57, .int v4, .int (1 : Int32), .int a3, .int v5]) (rest := []) (L0 := [(0, .ref 57), (1, .int v4), (2, .int (1 : Int32)), (3, .int a3), (4, .int v5)]) dX3_perform_257 rfl rfl rfl rfl rfl vok_s rfl (hr r6 v4 (1 : Int32) a3 v5) (fun r17 => ?_)
        refine r_ineg dX3_perform_260 ?_
        exact r_ireturn dX3_perform_261 rfl rfl
      refine r_sw1 (fun h18 => ?_) (fun h18 => ?_)
      · refine r_jmp (t := 262) dX3_perform_65 rfl (by rw [h18]; rfl) ?_
        refine r_aload_n (x := 57) dX3_perform_262 rfl ?_
        refine r_iload (x := v4) dX3_perform_263 rfl ?_
        refine r_iconst (v := (2 : Int32)) dX3_perform_265 rfl ?_
        refine r_iload_n (x := a3) dX3_perform_266 rfl ?_
        refine r_iload (x := v5) dX3_perform_267 rfl ?_
        refine r_callI (k := 2) (idx := 52) (y := 39) (as := [.ref 57, .int v4, .int (2 : Int32), .int a3, .int v5]) (rest := []) (L0 := [(0, .ref 57), (1, .int v4), (2, .int (2 : Int32)), (3, .int a3), (4, .int v5)]) dX3_perform_269 rfl rfl rfl rfl rfl vok_s rfl (hr r6 v4 (2 : Int32) a3 v5) (fun r19 => ?_)
        refine r_iconst (v := (3 : Int32)) dX3_perform_272 rfl ?_
        refine r_imul dX3_perform_273 ?_
        exact r_ireturn dX3_perform_274 rfl rfl
      refine r_sw1 (fun h20 => ?_) (fun h20 => ?_)
      · refine r_jmp (t := 275) dX3_perform_65 rfl (by rw [h20]; rfl) ?_
        refine r_aload_n (x := 57) dX3_perform_275 rfl ?_
        refine r_iload (x := v4) dX3_perform_276 rfl ?_
        refine r_iconst (v := (1 : Int32)) dX3_perform_278 rfl ?_
        refine r_iload_n (x := a3) dX3_perform_279 rfl ?_
        refine r_iconst (v := (1 : Int32)) dX3_perform_280 rfl ?_
        refine r_iadd dX3_perform_281 ?_
        refine r_iload (x := v5) dX3_perform_282 rfl ?_
        refine r_callI (k := 2) (idx := 52) (y := 39) (as := [.ref 57, .int v4, .int (1 : Int32), .int (a3 + (1 : Int32)), .int v5]) (rest := []) (L0 := [(0, .ref 57), (1, .int v4), (2, .int (1 : Int32)), (3, .int (a3 + (1 : Int32))), (4, .int v5)]) dX3_perform_284 rfl rfl rfl rfl rfl vok_s rfl (hr r6 v4 (1 : Int32) (a3 + (1 : Int32)) v5) (fun r21 => ?_)
        exact r_ireturn dX3_perform_287 rfl rfl
      refine r_sw1 (fun h22 => ?_) (fun h22 => ?_)
      · refine r_jmp (t := 288) dX3_perform_65 rfl (by rw [h22]; rfl) ?_
        refine r_aload_n (x := 57) dX3_perform_288 rfl ?_
        refine r_iload (x := v4) dX3_perform_289 rfl ?_
        refine r_iconst (v := (3 : Int32)) dX3_perform_291 rfl ?_
        refine r_iload_n (x := a3) dX3_perform_292 rfl ?_
        refine r_iload (x := v5) dX3_perform_293 rfl ?_
        refine r_callI (k := 2) (idx := 52) (y := 39) (as := [.ref 57, .int v4, .int (3 : Int32), .int a3, .int v5]) (rest := []) (L0 := [(0, .ref 57), (1, .int v4), (2, .int (3 : Int32)), (3, .int a3), (4, .int v5)]) dX3_perform_295 rfl rfl rfl rfl rfl vok_s rfl (hr r6 v4 (3 : Int32) a3 v5) (fun r23 => ?_)
        refine r_iconst (v := (5 : Int32)) dX3_perform_298 rfl ?_
        refine r_ixor dX3_perform_299 ?_
        exact r_ireturn dX3_perform_300 rfl rfl
      refine r_sw1 (fun h24 => ?_) (fun h24 => ?_)
      · refine r_jmp (t := 301) dX3_perform_65 rfl (by rw [h24]; rfl) ?_
        refine r_aload_n (x := 57) dX3_perform_301 rfl ?_
        refine r_iload (x := v4) dX3_perform_302 rfl ?_
        refine r_iconst (v := (2 : Int32)) dX3_perform_304 rfl ?_
        refine r_iload_n (x := a3) dX3_perform_305 rfl ?_
        refine r_iload (x := v5) dX3_perform_306 rfl ?_
        refine r_callI (k := 2) (idx := 52) (y := 39) (as := [.ref 57, .int v4, .int (2 : Int32), .int a3, .int v5]) (rest := []) (L0 := [(0, .ref 57), (1, .int v4), (2, .int (2 : Int32)), (3, .int a3), (4, .int v5)]) dX3_perform_308 rfl rfl rfl rfl rfl vok_s rfl (hr r6 v4 (2 : Int32) a3 v5) (fun r25 => ?_)
        refine r_aload_n (x := 57) dX3_perform_311 rfl ?_
        refine r_iload (x := r3) dX3_perform_312 rfl ?_
        refine r_iconst (v := (0 : Int32)) dX3_perform_314 rfl ?_
        refine r_iconst (v := (2 : Int32)) dX3_perform_315 rfl ?_
        refine r_iload (x := v5) dX3_perform_316 rfl ?_
        refine r_callI (k := 2) (idx := 52) (y := 39) (as := [.ref 57, .int r3, .int (0 : Int32), .int (2 : Int32), .int v5]) (rest := [.int r25.1]) (L0 := [(0, .ref 57), (1, .int r3), (2, .int (0 : Int32)), (3, .int (2 : Int32)), (4, .int v5)]) dX3_perform_318 rfl rfl rfl rfl rfl vok_s rfl (hr r25.2 r3 (0 : Int32) (2 : Int32) v5) (fun r26 => ?_)
        refine r_isub dX3_perform_321 ?_
        exact r_ireturn dX3_perform_322 rfl rfl
      refine r_sw1 (fun h27 => ?_) (fun h27 => ?_)
      · refine r_jmp (t := 323) dX3_perform_65 rfl (by rw [h27]; rfl) ?_
        refine r_aload_n (x := 57) dX3_perform_323 rfl ?_
        refine r_iload (x := v4) dX3_perform_324 rfl ?_
        refine r_iconst (v := (3 : Int32)) dX3_perform_326 rfl ?_
        refine r_iload_n (x := a3) dX3_perform_327 rfl ?_
        refine r_iload (x := v5) dX3_perform_328 rfl ?_
        refine r_callI (k := 2) (idx := 52) (y := 39) (as := [.ref 57, .int v4, .int (3 : Int32), .int a3, .int v5]) (rest := []) (L0 := [(0, .ref 57), (1, .int v4), (2, .int (3 : Int32)), (3, .int a3), (4, .int v5)]) dX3_perform_330 rfl rfl rfl rfl rfl vok_s rfl (hr r6 v4 (3 : Int32) a3 v5) (fun r28 => ?_)
        refine r_iconst (v := (1 : Int32)) dX3_perform_333 rfl ?_
        refine r_iadd dX3_perform_334 ?_
        exact r_ireturn dX3_perform_335 rfl rfl
      refine r_sw1 (fun h29 => ?_) (fun h29 => ?_)
      · refine r_jmp (t := 336) dX3_perform_65 rfl (by rw [h29]; rfl) ?_
        refine r_aload_n (x := 57) dX3_perform_336 rfl ?_
        refine r_iload (x := v4) dX3_perform_337 rfl ?_
        refine r_iconst (v := (0 : Int32)) dX3_perform_339 rfl ?_
        refine r_iload_n (x := a3) dX3_perform_340 rfl ?_
        refine r_iload (x := v5) dX3_perform_341 rfl ?_
        refine r_callI (k := 2) (idx := 52) (y := 39) (as := [.ref 57, .int v4, .int (0 : Int32), .int a3, .int v5]) (rest := []) (L0 := [(0, .ref 57), (1, .int v4), (2, .int (0 : Int32)), (3, .int a3), (4, .int v5)]) dX3_perform_343 rfl rfl rfl rfl rfl vok_s rfl (hr r6 v4 (0 : Int32) a3 v5) (fun r30 => ?_)
        refine r_iconst (v := (2 : Int32)) dX3_perform_346 rfl ?_
        refine r_imul dX3_perform_347 ?_
        exact r_ireturn dX3_perform_348 rfl rfl
      refine r_sw1 (fun h31 => ?_) (fun h31 => ?_)
      · refine r_jmp (t := 349) dX3_perform_65 rfl (by rw [h31]; rfl) ?_
        refine r_aload_n (x := 57) dX3_perform_349 rfl ?_
        refine r_iload (x := v4) dX3_perform_350 rfl ?_
        refine r_iconst (v := (1 : Int32)) dX3_perform_352 rfl ?_
        refine r_iload_n (x := a3) dX3_perform_353 rfl ?_
        refine r_iload (x := v5) dX3_perform_354 rfl ?_
        refine r_callI (k := 2) (idx := 52) (y := 39) (as := [.ref 57, .int v4, .int (1 : Int32), .int a3, .int v5]) (rest := []) (L0 := [(0, .ref 57), (1, .int v4), (2, .int (1 : Int32)), (3, .int a3), (4, .int v5)]) dX3_perform_356 rfl rfl rfl rfl rfl vok_s rfl (hr r6 v4 (1 : Int32) a3 v5) (fun r32 => ?_)
        refine r_aload_n (x := 57) dX3_perform_359 rfl ?_
        refine r_iload (x := r3) dX3_perform_360 rfl ?_
        refine r_iconst (v := (2 : Int32)) dX3_perform_362 rfl ?_
        refine r_iconst (v := (2 : Int32)) dX3_perform_363 rfl ?_
        refine r_iload (x := v5) dX3_perform_364 rfl ?_
        refine r_callI (k := 2) (idx := 52) (y := 39) (as := [.ref 57, .int r3, .int (2 : Int32), .int (2 : Int32), .int v5]) (rest := [.int r32.1]) (L0 := [(0, .ref 57), (1, .int r3), (2, .int (2 : Int32)), (3, .int (2 : Int32)), (4, .int v5)]) dX3_perform_366 rfl rfl rfl rfl rfl vok_s rfl (hr r32.2 r3 (2 : Int32) (2 : Int32) v5) (fun r33 => ?_)
        refine r_iadd dX3_perform_369 ?_
        exact r_ireturn dX3_perform_370 rfl rfl
      refine r_sw1 (fun h34 => ?_) (fun h34 => ?_)
      · refine r_jmp (t := 371) dX3_perform_65 rfl (by rw [h34]; rfl) ?_
        refine r_aload_n (x := 57) dX3_perform_371 rfl ?_
        refine r_iload (x := v4) dX3_perform_372 rfl ?_
        refine r_iconst (v := (0 : Int32)) dX3_perform_374 rfl ?_
        refine r_iload_n (x := a3) dX3_perform_375 rfl ?_
        refine r_iload (x := v5) dX3_perform_376 rfl ?_
        refine r_callI (k := 2) (idx := 52) (y := 39) (as := [.ref 57, .int v4, .int (0 : Int32), .int a3, .int v5]) (rest := []) (L0 := [(0, .ref 57), (1, .int v4), (2, .int (0 : Int32)), (3, .int a3), (4, .int v5)]) dX3_perform_378 rfl rfl rfl rfl rfl vok_s rfl (hr r6 v4 (0 : Int32) a3 v5) (fun r35 => ?_)
        refine r_iconst (v := (1 : Int32)) dX3_perform_381 rfl ?_
        refine r_isub dX3_perform_382 ?_
        exact r_ireturn dX3_perform_383 rfl rfl
      refine r_jmp (t := 384) dX3_perform_65 rfl ?_ ?_
      · exact sw_lk rfl (nq_c h7 (nq_c h8 (nq_c h11 (nq_c h13 (nq_c h14 (nq_c h16 (nq_c h18 (nq_c h20 (nq_c h22 (nq_c h24 (nq_c h27 (nq_c h29 (nq_c h31 (nq_c h34 nq_n)))))))))))))) rfl
      refine r_iconst (v := (0 : Int32)) dX3_perform_384 rfl ?_
      exact r_ireturn dX3_perform_385 rfl rfl
    · refine r_iconst (v := (0 : Int32)) dX3_perform_19 rfl ?_
      exact r_ireturn dX3_perform_20 rfl rfl
def g_X3_perform : Nat → GT_X3_perform
  | 0 => (fun _ _ _ _ _ => none)
  | n + 1 => (fb_X3_perform (g_X3_perform n))
theorem gs_X3_perform {E : EE} (hE : GE E) : ∀ n, GS_X3_perform E n (g_X3_perform n)
  | 0 => fun _ _ _ _ _ => r_no
  | n + 1 => eb_X3_perform hE n (gs_X3_perform hE n)
def f_X3_perform : SS → Int32 → Int32 → Int32 → Int32 → Option (Int32 × SS) := (g_X3_perform 60)
theorem e_X3_perform {E : EE} (hE : GE E) : ∀ (q : SS) (a1 : Int32) (a2 : Int32) (a3 : Int32) (a4 : Int32), R E (κI E) 62 39 0 [(0, .ref 57), (1, .int a1), (2, .int a2), (3, .int a3), (4, .int a4)] [] q (f_X3_perform q a1 a2 a3 a4) := (gs_X3_perform hE 60)
def f_X3_begin (q : SS) (a1 : Int32) (a2 : Int32) (a3 : Int32) : Option (Int32 × SS) :=
  nm (sI q 57 3 (0 : Int32)) fun q1 =>
  (f_X3_isBody q1 a1).bind fun r2 =>
  if r2 = 0 then
  (some ((0 : Int32), q1))
  else
  (if a2 < 0 then
  (some ((0 : Int32), q1))
  else
  (if a2 < (4 : Int32) then
  (nm (sI q1 57 4 a1) fun q3 =>
  (f_X3_kindOf q3 a1).bind fun r4 =>
  (f_X3_perform q3 r4 a2 a3 (0 : Int32)).bind fun r5 =>
  some (r5.1, r5.2))
  else
  (some ((0 : Int32), q1))))
theorem e_X3_begin {E : EE} (hE : GE E) (q : SS) (a1 : Int32) (a2 : Int32) (a3 : Int32) : R E (κI E) 63 36 0 [(0, .ref 57), (1, .int a1), (2, .int a2), (3, .int a3)] [] q (f_X3_begin q a1 a2 a3) := by
  unfold f_X3_begin
  refine r_aload_n (x := 57) dX3_begin_0 rfl ?_
  refine r_iconst (v := (0 : Int32)) dX3_begin_1 rfl ?_
  refine r_putI dX3_begin_2 (ff_3_32_57 hE) ?_
  refine r_nmS fun q1 _ => ?_
  refine r_aload_n (x := 57) dX3_begin_5 rfl ?_
  refine r_iload_n (x := a1) dX3_begin_6 rfl ?_
  refine r_calli (k := 0) (idx := 29) (y := 29) (as := [.ref 57, .int a1]) (rest := []) (L0 := [(0, .ref 57), (1, .int a1)]) dX3_begin_7 rfl rfl rfl rfl rfl (vok_v (ob_57 hE) rfl) rfl (r_dep (by decide) (e_X3_isBody hE q1 a1)) (fun r2 => ?_)
  refine r_if_eq (t := 22) dX3_begin_10 rfl (fun h8 => ?_) (fun h8 => ?_)
  · refine r_iconst (v := (0 : Int32)) dX3_begin_22 rfl ?_
    exact r_ireturn dX3_begin_23 rfl rfl
  · refine r_iload_n (x := a2) dX3_begin_13 rfl ?_
    refine r_if_lt (t := 22) dX3_begin_14 rfl (fun h7 => ?_) (fun h7 => ?_)
    · refine r_iconst (v := (0 : Int32)) dX3_begin_22 rfl ?_
      exact r_ireturn dX3_begin_23 rfl rfl
    · refine r_iload_n (x := a2) dX3_begin_17 rfl ?_
      refine r_iconst (v := (4 : Int32)) dX3_begin_18 rfl ?_
      refine r_icmp_lt (t := 24) dX3_begin_19 rfl (fun h6 => ?_) (fun h6 => ?_)
      · refine r_aload_n (x := 57) dX3_begin_24 rfl ?_
        refine r_iload_n (x := a1) dX3_begin_25 rfl ?_
        refine r_putI dX3_begin_26 (ff_3_45_57 hE) ?_
        refine r_nmS fun q3 _ => ?_
        refine r_aload_n (x := 57) dX3_begin_29 rfl ?_
        refine r_aload_n (x := 57) dX3_begin_30 rfl ?_
        refine r_iload_n (x := a1) dX3_begin_31 rfl ?_
        refine r_calli (k := 0) (idx := 48) (y := 30) (as := [.ref 57, .int a1]) (rest := [.ref 57]) (L0 := [(0, .ref 57), (1, .int a1)]) dX3_begin_32 rfl rfl rfl rfl rfl (vok_v (ob_57 hE) rfl) rfl (r_dep (by decide) (e_X3_kindOf hE q3 a1)) (fun r4 => ?_)
        refine r_iload_n (x := a2) dX3_begin_35 rfl ?_
        refine r_iload_n (x := a3) dX3_begin_36 rfl ?_
        refine r_iconst (v := (0 : Int32)) dX3_begin_37 rfl ?_
        refine r_callI (k := 2) (idx := 52) (y := 39) (as := [.ref 57, .int r4, .int a2, .int a3, .int (0 : Int32)]) (rest := []) (L0 := [(0, .ref 57), (1, .int r4), (2, .int a2), (3, .int a3), (4, .int (0 : Int32))]) dX3_begin_38 rfl rfl rfl rfl rfl vok_s rfl (r_dep (by decide) (e_X3_perform hE q3 r4 a2 a3 (0 : Int32))) (fun r5 => ?_)
        exact r_ireturn dX3_begin_41 rfl rfl
      · refine r_iconst (v := (0 : Int32)) dX3_begin_22 rfl ?_
        exact r_ireturn dX3_begin_23 rfl rfl
def f_X11_act (q : SS) (a1 : Int32) (a2 : Int32) (a3 : Int32) : Option (Int32 × SS) :=
  (f_X3_begin q a1 a2 a3).bind fun r1 =>
  some (r1.1, r1.2)
theorem e_X11_act {E : EE} (hE : GE E) (q : SS) (a1 : Int32) (a2 : Int32) (a3 : Int32) : R E (κI E) 64 179 0 [(0, .ref 0), (1, .int a1), (2, .int a2), (3, .int a3)] [] q (f_X11_act q a1 a2 a3) := by
  unfold f_X11_act
  refine r_aload_n (x := 0) dX11_act_0 rfl ?_
  refine r_getA dX11_act_1 (fa_11_90_0 hE) ?_
  refine r_iload_n (x := a1) dX11_act_4 rfl ?_
  refine r_iload_n (x := a2) dX11_act_5 rfl ?_
  refine r_iload_n (x := a3) dX11_act_6 rfl ?_
  refine r_callI (k := 0) (idx := 342) (y := 36) (as := [.ref 57, .int a1, .int a2, .int a3]) (rest := []) (L0 := [(0, .ref 57), (1, .int a1), (2, .int a2), (3, .int a3)]) dX11_act_7 rfl rfl rfl rfl rfl (vok_v (ob_57 hE) rfl) rfl (r_dep (by decide) (e_X3_begin hE q a1 a2 a3)) (fun r1 => ?_)
  exact r_ireturn dX11_act_10 rfl rfl
def b_X12_ran_19 (q : SS)  : Option SS :=
  nm (sI q 60 54 ((q.1 60 54) + (1 : Int32))) fun q1 =>
  some q1
theorem rb_X12_ran_19 {E : EE} (hE : GE E) (q : SS)  : R E (κV E) 0 271 19 [(0, .ref 60)] [] q (b_X12_ran_19 q) := by
  unfold b_X12_ran_19
  refine r_aload_n (x := 60) dX12_ran_19 rfl ?_
  refine r_dup dX12_ran_20 rfl ?_
  refine r_getI dX12_ran_21 (ff_12_368_60 hE) (by decide) ?_
  refine r_iconst (v := (1 : Int32)) dX12_ran_24 rfl ?_
  refine r_iadd dX12_ran_25 ?_
  refine r_putI dX12_ran_26 (ff_12_368_60 hE) ?_
  refine r_nmS fun q1 _ => ?_
  exact r_return dX12_ran_29 rfl rfl
def f_X12_ran (q : SS) (a1 : Int32) : Option SS :=
  if (24 : Int32) ≤ (q.1 60 54) then
  (b_X12_ran_19 q)
  else
  (if vin (q.1 60 54) 24 then
  nm (sI q 88 (q.1 60 54).toNatClampNeg a1) fun q2 =>
  b_X12_ran_19 q2
  else none)
theorem e_X12_ran {E : EE} (hE : GE E) (q : SS) (a1 : Int32) : R E (κV E) 0 271 0 [(0, .ref 60), (1, .int a1)] [] q (f_X12_ran q a1) := by
  unfold f_X12_ran
  refine r_aload_n (x := 60) dX12_ran_0 rfl ?_
  refine r_getI dX12_ran_1 (ff_12_368_60 hE) (by decide) ?_
  refine r_bipush (v := (24 : Int32)) dX12_ran_4 rfl ?_
  refine r_icmp_ge (t := 19) dX12_ran_6 rfl (fun h3 => ?_) (fun h3 => ?_)
  · exact r_sub (L' := [(0, .ref 60)]) (sub_c rfl sub_n) (rb_X12_ran_19 hE q)
  · refine r_aload_n (x := 60) dX12_ran_9 rfl ?_
    refine r_getA dX12_ran_10 (fa_12_95_60 hE) ?_
    refine r_aload_n (x := 60) dX12_ran_13 rfl ?_
    refine r_getI dX12_ran_14 (ff_12_368_60 hE) (by decide) ?_
    refine r_iload_n (x := a1) dX12_ran_17 rfl ?_
    refine r_iastore dX12_ran_18 (ar_88 hE) ?_
    refine r_nmS fun q2 _ => ?_
    exact r_sub (L' := [(0, .ref 60)]) (sub_c rfl sub_n) (rb_X12_ran_19 hE q2)
def f_X12_plainSlips (q : SS) (a1 : Int32) (a2 : Int32) : Option (Int32 × SS) :=
  (f_X12_ran q (1 : Int32)).bind fun r1 =>
  some ((a2 + a1), r1)
theorem e_X12_plainSlips {E : EE} (hE : GE E) (q : SS) (a1 : Int32) (a2 : Int32) : R E (κI E) 1 275 0 [(0, .ref 60), (1, .int a1), (2, .int a2)] [] q (f_X12_plainSlips q a1 a2) := by
  unfold f_X12_plainSlips
  refine r_aload_n (x := 60) dX12_plainSlips_0 rfl ?_
  refine r_iconst (v := (1 : Int32)) dX12_plainSlips_1 rfl ?_
  refine r_callV (k := 0) (idx := 371) (y := 271) (as := [.ref 60, .int (1 : Int32)]) (rest := []) (L0 := [(0, .ref 60), (1, .int (1 : Int32))]) dX12_plainSlips_2 rfl rfl rfl rfl rfl (vok_v (ob_60 hE) rfl) rfl (r_dep (by decide) (e_X12_ran hE q (1 : Int32))) (fun r1 => ?_)
  refine r_iload_n (x := a2) dX12_plainSlips_5 rfl ?_
  refine r_iload_n (x := a1) dX12_plainSlips_6 rfl ?_
  refine r_iadd dX12_plainSlips_7 ?_
  exact r_ireturn dX12_plainSlips_8 rfl rfl
def f_X12_wiseSlips (q : SS) (a1 : Int32) (a2 : Int32) : Option (Int32 × SS) :=
  (f_X12_ran q (70 : Int32)).bind fun r1 =>
  (f_X12_plainSlips r1 a1 a2).bind fun r2 =>
  some ((r2.1 * (2 : Int32)), r2.2)
theorem e_X12_wiseSlips {E : EE} (hE : GE E) (q : SS) (a1 : Int32) (a2 : Int32) : R E (κI E) 2 276 0 [(0, .ref 60), (1, .int a1), (2, .int a2)] [] q (f_X12_wiseSlips q a1 a2) := by
  unfold f_X12_wiseSlips
  refine r_aload_n (x := 60) dX12_wiseSlips_0 rfl ?_
  refine r_bipush (v := (70 : Int32)) dX12_wiseSlips_1 rfl ?_
  refine r_callV (k := 0) (idx := 371) (y := 271) (as := [.ref 60, .int (70 : Int32)]) (rest := []) (L0 := [(0, .ref 60), (1, .int (70 : Int32))]) dX12_wiseSlips_3 rfl rfl rfl rfl rfl (vok_v (ob_60 hE) rfl) rfl (r_dep (by decide) (e_X12_ran hE q (70 : Int32))) (fun r1 => ?_)
  refine r_aload_n (x := 60) dX12_wiseSlips_6 rfl ?_
  refine r_iload_n (x := a1) dX12_wiseSlips_7 rfl ?_
  refine r_iload_n (x := a2) dX12_wiseSlips_8 rfl ?_
  refine r_callI (k := 0) (idx := 375) (y := 275) (as := [.ref 60, .int a1, .int a2]) (rest := []) (L0 := [(0, .ref 60), (1, .int a1), (2, .int a2)]) dX12_wiseSlips_9 rfl rfl rfl rfl rfl (vok_v (ob_60 hE) rfl) rfl (r_dep (by decide) (e_X12_plainSlips hE r1 a1 a2)) (fun r2 => ?_)
  refine r_iconst (v := (2 : Int32)) dX12_wiseSlips_12 rfl ?_
  refine r_imul dX12_wiseSlips_13 ?_
  exact r_ireturn dX12_wiseSlips_14 rfl rfl
def f_X12_slipping (q : SS) (a1 : Int32) (a2 : Int32) : Option (Int32 × SS) :=
  if vin a1 50 then
  (f_X12_isUnder q (q.1 87 a1.toNatClampNeg) (1 : Int32)).bind fun r1 =>
  if r1 = 0 then
  (if vin a1 50 then
  if (q.1 87 a1.toNatClampNeg) = (7 : Int32) then
  ((f_X12_ran q (81 : Int32)).bind fun r2 =>
  (f_X12_wiseSlips r2 a1 a2).bind fun r3 =>
  some ((r3.1 - (1 : Int32)), r3.2))
  else
  (if vin a1 50 then
  if (q.1 87 a1.toNatClampNeg) = (6 : Int32) then
  ((f_X12_wiseSlips q a1 a2).bind fun r4 =>
  some (r4.1, r4.2))
  else
  ((f_X12_plainSlips q a1 a2).bind fun r5 =>
  some (r5.1, r5.2))
  else none)
  else none)
  else
  ((f_X12_ran q (20 : Int32)).bind fun r8 =>
  (f_X12_plainSlips r8 a1 a2).bind fun r9 =>
  some ((r9.1 + (3 : Int32)), r9.2))
  else none
theorem e_X12_slipping {E : EE} (hE : GE E) (q : SS) (a1 : Int32) (a2 : Int32) : R E (κI E) 3 277 0 [(0, .ref 60), (1, .int a1), (2, .int a2)] [] q (f_X12_slipping q a1 a2) := by
  unfold f_X12_slipping
  refine r_aload_n (x := 60) dX12_slipping_0 rfl ?_
  refine r_getA dX12_slipping_1 (fa_12_92_60 hE) ?_
  refine r_iload_n (x := a1) dX12_slipping_4 rfl ?_
  refine r_iaload dX12_slipping_5 (ar_87 hE) ?_
  refine r_iconst (v := (1 : Int32)) dX12_slipping_6 rfl ?_
  refine r_calli (k := 2) (idx := 378) (y := 274) (as := [.int (q.1 87 a1.toNatClampNeg), .int (1 : Int32)]) (rest := []) (L0 := [(0, .int (q.1 87 a1.toNatClampNeg)), (1, .int (1 : Int32))]) dX12_slipping_7 rfl rfl rfl rfl rfl vok_s rfl (r_dep (by decide) (e_X12_isUnder hE q (q.1 87 a1.toNatClampNeg) (1 : Int32))) (fun r1 => ?_)
  refine r_if_eq (t := 28) dX12_slipping_10 rfl (fun h10 => ?_) (fun h10 => ?_)
  · refine r_aload_n (x := 60) dX12_slipping_28 rfl ?_
    refine r_getA dX12_slipping_29 (fa_12_92_60 hE) ?_
    refine r_iload_n (x := a1) dX12_slipping_32 rfl ?_
    refine r_iaload dX12_slipping_33 (ar_87 hE) ?_
    refine r_bipush (v := (7 : Int32)) dX12_slipping_34 rfl ?_
    refine r_icmp_ne (t := 54) dX12_slipping_36 rfl (fun h7 => ?_) (fun h7 => ?_)
    · refine r_aload_n (x := 60) dX12_slipping_39 rfl ?_
      refine r_bipush (v := (81 : Int32)) dX12_slipping_40 rfl ?_
      refine r_callV (k := 0) (idx := 371) (y := 271) (as := [.ref 60, .int (81 : Int32)]) (rest := []) (L0 := [(0, .ref 60), (1, .int (81 : Int32))]) dX12_slipping_42 rfl rfl rfl rfl rfl (vok_v (ob_60 hE) rfl) rfl (r_dep (by decide) (e_X12_ran hE q (81 : Int32))) (fun r2 => ?_)
      refine r_aload_n (x := 60) dX12_slipping_45 rfl ?_
      refine r_iload_n (x := a1) dX12_slipping_46 rfl ?_
      refine r_iload_n (x := a2) dX12_slipping_47 rfl ?_
      refine r_callI (k := 0) (idx := 381) (y := 276) (as := [.ref 60, .int a1, .int a2]) (rest := []) (L0 := [(0, .ref 60), (1, .int a1), (2, .int a2)]) dX12_slipping_48 rfl rfl rfl rfl rfl (vok_v (ob_60 hE) rfl) rfl (r_dep (by decide) (e_X12_wiseSlips hE r2 a1 a2)) (fun r3 => ?_)
      refine r_iconst (v := (1 : Int32)) dX12_slipping_51 rfl ?_
      refine r_isub dX12_slipping_52 ?_
      exact r_ireturn dX12_slipping_53 rfl rfl
    · refine r_aload_n (x := 60) dX12_slipping_54 rfl ?_
      refine r_getA dX12_slipping_55 (fa_12_92_60 hE) ?_
      refine r_iload_n (x := a1) dX12_slipping_58 rfl ?_
      refine r_iaload dX12_slipping_59 (ar_87 hE) ?_
      refine r_bipush (v := (6 : Int32)) dX12_slipping_60 rfl ?_
      refine r_icmp_ne (t := 74) dX12_slipping_62 rfl (fun h6 => ?_) (fun h6 => ?_)
      · refine r_aload_n (x := 60) dX12_slipping_65 rfl ?_
        refine r_iload_n (x := a1) dX12_slipping_66 rfl ?_
        refine r_iload_n (x := a2) dX12_slipping_67 rfl ?_
        refine r_callI (k := 0) (idx := 381) (y := 276) (as := [.ref 60, .int a1, .int a2]) (rest := []) (L0 := [(0, .ref 60), (1, .int a1), (2, .int a2)]) dX12_slipping_68 rfl rfl rfl rfl rfl (vok_v (ob_60 hE) rfl) rfl (r_dep (by decide) (e_X12_wiseSlips hE q a1 a2)) (fun r4 => ?_)
        refine r_goto (t := 80) dX12_slipping_71 rfl ?_
        exact r_ireturn dX12_slipping_80 rfl rfl
      · refine r_aload_n (x := 60) dX12_slipping_74 rfl ?_
        refine r_iload_n (x := a1) dX12_slipping_75 rfl ?_
        refine r_iload_n (x := a2) dX12_slipping_76 rfl ?_
        refine r_callI (k := 0) (idx := 375) (y := 275) (as := [.ref 60, .int a1, .int a2]) (rest := []) (L0 := [(0, .ref 60), (1, .int a1), (2, .int a2)]) dX12_slipping_77 rfl rfl rfl rfl rfl (vok_v (ob_60 hE) rfl) rfl (r_dep (by decide) (e_X12_plainSlips hE q a1 a2)) (fun r5 => ?_)
        exact r_ireturn dX12_slipping_80 rfl rfl
  · refine r_aload_n (x := 60) dX12_slipping_13 rfl ?_
    refine r_bipush (v := (20 : Int32)) dX12_slipping_14 rfl ?_
    refine r_callV (k := 0) (idx := 371) (y := 271) (as := [.ref 60, .int (20 : Int32)]) (rest := []) (L0 := [(0, .ref 60), (1, .int (20 : Int32))]) dX12_slipping_16 rfl rfl rfl rfl rfl (vok_v (ob_60 hE) rfl) rfl (r_dep (by decide) (e_X12_ran hE q (20 : Int32))) (fun r8 => ?_)
    refine r_aload_n (x := 60) dX12_slipping_19 rfl ?_
    refine r_iload_n (x := a1) dX12_slipping_20 rfl ?_
    refine r_iload_n (x := a2) dX12_slipping_21 rfl ?_
    refine r_callI (k := 0) (idx := 375) (y := 275) (as := [.ref 60, .int a1, .int a2]) (rest := []) (L0 := [(0, .ref 60), (1, .int a1), (2, .int a2)]) dX12_slipping_22 rfl rfl rfl rfl rfl (vok_v (ob_60 hE) rfl) rfl (r_dep (by decide) (e_X12_plainSlips hE r8 a1 a2)) (fun r9 => ?_)
    refine r_iconst (v := (3 : Int32)) dX12_slipping_25 rfl ?_
    refine r_iadd dX12_slipping_26 ?_
    exact r_ireturn dX12_slipping_27 rfl rfl
def f_X12_plainFolds (q : SS) (a1 : Int32) (a2 : Int32) : Option (Int32 × SS) :=
  (f_X12_ran q (10 : Int32)).bind fun r1 =>
  (f_X12_slipping r1 a1 a2).bind fun r2 =>
  some ((r2.1 * (2 : Int32)), r2.2)
theorem e_X12_plainFolds {E : EE} (hE : GE E) (q : SS) (a1 : Int32) (a2 : Int32) : R E (κI E) 4 278 0 [(0, .ref 60), (1, .int a1), (2, .int a2)] [] q (f_X12_plainFolds q a1 a2) := by
  unfold f_X12_plainFolds
  refine r_aload_n (x := 60) dX12_plainFolds_0 rfl ?_
  refine r_bipush (v := (10 : Int32)) dX12_plainFolds_1 rfl ?_
  refine r_callV (k := 0) (idx := 371) (y := 271) (as := [.ref 60, .int (10 : Int32)]) (rest := []) (L0 := [(0, .ref 60), (1, .int (10 : Int32))]) dX12_plainFolds_3 rfl rfl rfl rfl rfl (vok_v (ob_60 hE) rfl) rfl (r_dep (by decide) (e_X12_ran hE q (10 : Int32))) (fun r1 => ?_)
  refine r_aload_n (x := 60) dX12_plainFolds_6 rfl ?_
  refine r_iload_n (x := a1) dX12_plainFolds_7 rfl ?_
  refine r_iload_n (x := a2) dX12_plainFolds_8 rfl ?_
  refine r_callI (k := 0) (idx := 384) (y := 277) (as := [.ref 60, .int a1, .int a2]) (rest := []) (L0 := [(0, .ref 60), (1, .int a1), (2, .int a2)]) dX12_plainFolds_9 rfl rfl rfl rfl rfl (vok_v (ob_60 hE) rfl) rfl (r_dep (by decide) (e_X12_slipping hE r1 a1 a2)) (fun r2 => ?_)
  refine r_iconst (v := (2 : Int32)) dX12_plainFolds_12 rfl ?_
  refine r_imul dX12_plainFolds_13 ?_
  exact r_ireturn dX12_plainFolds_14 rfl rfl
def f_X12_brideFolds (q : SS) (a1 : Int32) (a2 : Int32) : Option (Int32 × SS) :=
  (f_X12_ran q (30 : Int32)).bind fun r1 =>
  (f_X12_plainFolds r1 a1 a2).bind fun r2 =>
  some ((-r2.1), r2.2)
theorem e_X12_brideFolds {E : EE} (hE : GE E) (q : SS) (a1 : Int32) (a2 : Int32) : R E (κI E) 5 279 0 [(0, .ref 60), (1, .int a1), (2, .int a2)] [] q (f_X12_brideFolds q a1 a2) := by
  unfold f_X12_brideFolds
  refine r_aload_n (x := 60) dX12_brideFolds_0 rfl ?_
  refine r_bipush (v := (30 : Int32)) dX12_brideFolds_1 rfl ?_
  refine r_callV (k := 0) (idx := 371) (y := 271) (as := [.ref 60, .int (30 : Int32)]) (rest := []) (L0 := [(0, .ref 60), (1, .int (30 : Int32))]) dX12_brideFolds_3 rfl rfl rfl rfl rfl (vok_v (ob_60 hE) rfl) rfl (r_dep (by decide) (e_X12_ran hE q (30 : Int32))) (fun r1 => ?_)
  refine r_aload_n (x := 60) dX12_brideFolds_6 rfl ?_
  refine r_iload_n (x := a1) dX12_brideFolds_7 rfl ?_
  refine r_iload_n (x := a2) dX12_brideFolds_8 rfl ?_
  refine r_callI (k := 0) (idx := 387) (y := 278) (as := [.ref 60, .int a1, .int a2]) (rest := []) (L0 := [(0, .ref 60), (1, .int a1), (2, .int a2)]) dX12_brideFolds_9 rfl rfl rfl rfl rfl (vok_v (ob_60 hE) rfl) rfl (r_dep (by decide) (e_X12_plainFolds hE r1 a1 a2)) (fun r2 => ?_)
  refine r_ineg dX12_brideFolds_12 ?_
  exact r_ireturn dX12_brideFolds_13 rfl rfl
def f_X12_plainProves (q : SS) (a1 : Int32) (a2 : Int32) : Option (Int32 × SS) :=
  (f_X12_ran q (11 : Int32)).bind fun r1 =>
  some ((a2 ^^^ a1), r1)
theorem e_X12_plainProves {E : EE} (hE : GE E) (q : SS) (a1 : Int32) (a2 : Int32) : R E (κI E) 1 281 0 [(0, .ref 60), (1, .int a1), (2, .int a2)] [] q (f_X12_plainProves q a1 a2) := by
  unfold f_X12_plainProves
  refine r_aload_n (x := 60) dX12_plainProves_0 rfl ?_
  refine r_bipush (v := (11 : Int32)) dX12_plainProves_1 rfl ?_
  refine r_callV (k := 0) (idx := 371) (y := 271) (as := [.ref 60, .int (11 : Int32)]) (rest := []) (L0 := [(0, .ref 60), (1, .int (11 : Int32))]) dX12_plainProves_3 rfl rfl rfl rfl rfl (vok_v (ob_60 hE) rfl) rfl (r_dep (by decide) (e_X12_ran hE q (11 : Int32))) (fun r1 => ?_)
  refine r_iload_n (x := a2) dX12_plainProves_6 rfl ?_
  refine r_iload_n (x := a1) dX12_plainProves_7 rfl ?_
  refine r_ixor dX12_plainProves_8 ?_
  exact r_ireturn dX12_plainProves_9 rfl rfl
def f_X12_childProves (q : SS) (a1 : Int32) (a2 : Int32) : Option (Int32 × SS) :=
  (f_X12_ran q (40 : Int32)).bind fun r1 =>
  (f_X12_plainProves r1 a1 a2).bind fun r2 =>
  some ((r2.1 * (3 : Int32)), r2.2)
theorem e_X12_childProves {E : EE} (hE : GE E) (q : SS) (a1 : Int32) (a2 : Int32) : R E (κI E) 2 282 0 [(0, .ref 60), (1, .int a1), (2, .int a2)] [] q (f_X12_childProves q a1 a2) := by
  unfold f_X12_childProves
  refine r_aload_n (x := 60) dX12_childProves_0 rfl ?_
  refine r_bipush (v := (40 : Int32)) dX12_childProves_1 rfl ?_
  refine r_callV (k := 0) (idx := 371) (y := 271) (as := [.ref 60, .int (40 : Int32)]) (rest := []) (L0 := [(0, .ref 60), (1, .int (40 : Int32))]) dX12_childProves_3 rfl rfl rfl rfl rfl (vok_v (ob_60 hE) rfl) rfl (r_dep (by decide) (e_X12_ran hE q (40 : Int32))) (fun r1 => ?_)
  refine r_aload_n (x := 60) dX12_childProves_6 rfl ?_
  refine r_iload_n (x := a1) dX12_childProves_7 rfl ?_
  refine r_iload_n (x := a2) dX12_childProves_8 rfl ?_
  refine r_callI (k := 0) (idx := 396) (y := 281) (as := [.ref 60, .int a1, .int a2]) (rest := []) (L0 := [(0, .ref 60), (1, .int a1), (2, .int a2)]) dX12_childProves_9 rfl rfl rfl rfl rfl (vok_v (ob_60 hE) rfl) rfl (r_dep (by decide) (e_X12_plainProves hE r1 a1 a2)) (fun r2 => ?_)
  refine r_iconst (v := (3 : Int32)) dX12_childProves_12 rfl ?_
  refine r_imul dX12_childProves_13 ?_
  exact r_ireturn dX12_childProves_14 rfl rfl

def f_X7_set (q : SS) (a1 : Int32) (a2 : Int32) (a3 : Int64) : Option SS :=
  (f_X7_isRow q a1).bind fun r1 =>
  if r1 = 0 then
  (some q)
  else
  ((f_X7_hasPlaces q a1 a2 (1 : Int32)).bind fun r2 =>
  if r2 = 0 then
  (some q)
  else
  (if vin a1 6 then
  if vin a1 6 then
  (f_X7_lowestBits q (q.1 27 a1.toNatClampNeg) a3).bind fun r4 =>
  if vin a2 60 then
  nm (sL q (31 + a1.toNatClampNeg) a2.toNatClampNeg r4) fun q5 =>
  some q5
  else none
  else none
  else none))
theorem e_X7_set {E : EE} (hE : GE E) (q : SS) (a1 : Int32) (a2 : Int32) (a3 : Int64) : R E (κV E) 4 93 0 [(0, .ref 26), (1, .int a1), (2, .int a2), (3, .long a3)] [] q (f_X7_set q a1 a2 a3) := by
  unfold f_X7_set
  refine r_aload_n (x := 26) gX7_set_0.1 rfl ?_
  refine r_iload_n (x := a1) gX7_set_0.2.1 rfl ?_
  refine r_calli (k := 0) (idx := 33) (y := 81) (as := [.ref 26, .int a1]) (rest := []) (L0 := [(0, .ref 26), (1, .int a1)]) gX7_set_0.2.2.1 rfl rfl rfl rfl rfl (vok_v (ob_26 hE) rfl) rfl (r_dep (by decide) (e_X7_isRow hE q a1)) (fun r1 => ?_)
  refine r_if_eq (t := 36) gX7_set_0.2.2.2.1 rfl (fun h7 => ?_) (fun h7 => ?_)
  · exact r_return gX7_set_26.2.2.2.2.2.2.1 rfl rfl
  · refine r_aload_n (x := 26) gX7_set_0.2.2.2.2.1 rfl ?_
    refine r_iload_n (x := a1) gX7_set_0.2.2.2.2.2.1 rfl ?_
    refine r_iload_n (x := a2) gX7_set_0.2.2.2.2.2.2.1 rfl ?_
    refine r_iconst (v := (1 : Int32)) gX7_set_0.2.2.2.2.2.2.2.1 rfl ?_
    refine r_calli (k := 0) (idx := 43) (y := 88) (as := [.ref 26, .int a1, .int a2, .int (1 : Int32)]) (rest := []) (L0 := [(0, .ref 26), (1, .int a1), (2, .int a2), (3, .int (1 : Int32))]) gX7_set_0.2.2.2.2.2.2.2.2.1 rfl rfl rfl rfl rfl (vok_v (ob_26 hE) rfl) rfl (r_dep (by decide) (e_X7_hasPlaces hE q a1 a2 (1 : Int32))) (fun r2 => ?_)
    refine r_if_eq (t := 36) gX7_set_0.2.2.2.2.2.2.2.2.2.1 rfl (fun h6 => ?_) (fun h6 => ?_)
    · exact r_return gX7_set_26.2.2.2.2.2.2.1 rfl rfl
    · refine r_aload_n (x := 26) gX7_set_0.2.2.2.2.2.2.2.2.2.2.1 rfl ?_
      refine r_getA gX7_set_0.2.2.2.2.2.2.2.2.2.2.2.1 (fa_7_23_26 hE) ?_
      refine r_iload_n (x := a1) gX7_set_0.2.2.2.2.2.2.2.2.2.2.2.2.1 rfl ?_
      refine r_aaload gX7_set_0.2.2.2.2.2.2.2.2.2.2.2.2.2.1 (ar_30 hE) (by decide) (rv_30 hE) (fun h3 => ?_)
      refine r_iload_n (x := a2) gX7_set_0.2.2.2.2.2.2.2.2.2.2.2.2.2.2.1 rfl ?_
      refine r_aload_n (x := 26) gX7_set_0.2.2.2.2.2.2.2.2.2.2.2.2.2.2.2.1 rfl ?_
      refine r_getA gX7_set_26.1 (fa_7_11_26 hE) ?_
      refine r_iload_n (x := a1) gX7_set_26.2.1 rfl ?_
      refine r_iaload gX7_set_26.2.2.1 (ar_27 hE) ?_
      refine r_lload_n (x := a3) gX7_set_26.2.2.2.1 rfl ?_
      refine r_calll (k := 2) (idx := 50) (y := 94) (as := [.int (q.1 27 a1.toNatClampNeg), .long a3]) (rest := [.int a2, .ref (31 + a1.toNatClampNeg)]) (L0 := [(0, .int (q.1 27 a1.toNatClampNeg)), (1, .long a3)]) gX7_set_26.2.2.2.2.1 rfl rfl rfl rfl rfl vok_s rfl (r_dep (by decide) (e_X7_lowestBits hE q (q.1 27 a1.toNatClampNeg) a3)) (fun r4 => ?_)
      refine r_lastore gX7_set_26.2.2.2.2.2.1 (aw_31 hE (vin_lt h3)) ?_
      refine r_nmS fun q5 _ => ?_
      exact r_return gX7_set_26.2.2.2.2.2.2.1 rfl rfl
def f_X11_put (q : SS) (a1 : Int32) (a2 : Int32) (a3 : Int64) : Option (Int32 × SS) :=
  (f_X7_refusalOfElement q a1 a2).bind fun r1 =>
  if r1 = 0 then
  ((f_X7_set q a1 a2 a3).bind fun r2 =>
  some ((1 : Int32), r2))
  else
  (some (r1, q))
theorem e_X11_put {E : EE} (hE : GE E) (q : SS) (a1 : Int32) (a2 : Int32) (a3 : Int64) : R E (κI E) 5 183 0 [(0, .ref 0), (1, .int a1), (2, .int a2), (3, .long a3)] [] q (f_X11_put q a1 a2 a3) := by
  unfold f_X11_put
  refine r_aload_n (x := 0) gX11_put_0.1 rfl ?_
  refine r_getA gX11_put_0.2.1 (fa_11_42_0 hE) ?_
  refine r_iload_n (x := a1) gX11_put_0.2.2.1 rfl ?_
  refine r_iload_n (x := a2) gX11_put_0.2.2.2.1 rfl ?_
  refine r_calli (k := 0) (idx := 365) (y := 86) (as := [.ref 26, .int a1, .int a2]) (rest := []) (L0 := [(0, .ref 26), (1, .int a1), (2, .int a2)]) gX11_put_0.2.2.2.2.1 rfl rfl rfl rfl rfl (vok_v (ob_26 hE) rfl) rfl (r_dep (by decide) (e_X7_refusalOfElement hE q a1 a2)) (fun r1 => ?_)
  refine r_istore (L2 := [(0, .ref 0), (1, .int a1), (2, .int a2), (3, .long a3), (5, .int r1)]) gX11_put_0.2.2.2.2.2.1 rfl rfl ?_
  refine r_iload (x := r1) gX11_put_0.2.2.2.2.2.2.1 rfl ?_
  refine r_if_eq (t := 19) gX11_put_0.2.2.2.2.2.2.2.1 rfl (fun h3 => ?_) (fun h3 => ?_)
  · refine r_aload_n (x := 0) gX11_put_0.2.2.2.2.2.2.2.2.2.2.1 rfl ?_
    refine r_getA gX11_put_0.2.2.2.2.2.2.2.2.2.2.2.1 (fa_11_42_0 hE) ?_
    refine r_iload_n (x := a1) gX11_put_0.2.2.2.2.2.2.2.2.2.2.2.2.1 rfl ?_
    refine r_iload_n (x := a2) gX11_put_0.2.2.2.2.2.2.2.2.2.2.2.2.2.1 rfl ?_
    refine r_lload_n (x := a3) gX11_put_0.2.2.2.2.2.2.2.2.2.2.2.2.2.2.1 rfl ?_
    refine r_callV (k := 0) (idx := 368) (y := 93) (as := [.ref 26, .int a1, .int a2, .long a3]) (rest := []) (L0 := [(0, .ref 26), (1, .int a1), (2, .int a2), (3, .long a3)]) gX11_put_0.2.2.2.2.2.2.2.2.2.2.2.2.2.2.2.1 rfl rfl rfl rfl rfl (vok_v (ob_26 hE) rfl) rfl (r_dep (by decide) (e_X7_set hE q a1 a2 a3)) (fun r2 => ?_)
    refine r_iconst (v := (1 : Int32)) gX11_put_29.1 rfl ?_
    exact r_ireturn gX11_put_29.2.1 rfl rfl
  · refine r_iload (x := r1) gX11_put_0.2.2.2.2.2.2.2.2.1 rfl ?_
    exact r_ireturn gX11_put_0.2.2.2.2.2.2.2.2.2.1 rfl rfl
def b_X12_put_95 (q : SS) (s0 : Int64) (s1 : Int32) : Option (Int32 × SS) :=
  if vin s1 360 then
  nm (sL q 91 s1.toNatClampNeg s0) fun q3 =>
  some ((1 : Int32), q3)
  else none
theorem rb_X12_put_95 {E : EE} (hE : GE E) (q : SS) (s0 : Int64) (s1 : Int32) : R E (κI E) 3 292 95 [] [.long s0, .int s1, .ref 91] q (b_X12_put_95 q s0 s1) := by
  unfold b_X12_put_95
  refine r_lastore gX12_put_80.2.2.2.2.2.2.2.2.2.1 (ar_91 hE) ?_
  refine r_nmS fun q3 _ => ?_
  refine r_iconst (v := (1 : Int32)) gX12_put_80.2.2.2.2.2.2.2.2.2.2.1 rfl ?_
  exact r_ireturn gX12_put_80.2.2.2.2.2.2.2.2.2.2.2.1 rfl rfl
def f_X12_put (q : SS) (a1 : Int32) (a2 : Int32) (a3 : Int64) : Option (Int32 × SS) :=
  (f_X12_whyNoPlace q a1 a2).bind fun r1 =>
  if 0 ≤ r1 then
  (if vin a1 6 then
  nm ((-2 : Int32) - (q.1 89 a1.toNatClampNeg)) fun v2 =>
  if v2 = 0 then
  (b_X12_put_95 q (((a3.toInt32).toInt8.toInt32).toInt64) (((60 : Int32) * a1) + a2))
  else
  (if v2 = (1 : Int32) then
  (b_X12_put_95 q (((a3.toInt32).toInt16.toInt32).toInt64) (((60 : Int32) * a1) + a2))
  else
  (if v2 = (2 : Int32) then
  (b_X12_put_95 q ((a3.toInt32).toInt64) (((60 : Int32) * a1) + a2))
  else
  (if v2 = (3 : Int32) then
  (b_X12_put_95 q a3 (((60 : Int32) * a1) + a2))
  else
  (if (lg_cmp a3 (0 : Int64)) = 0 then
  (b_X12_put_95 q (0 : Int64) (((60 : Int32) * a1) + a2))
  else
  (b_X12_put_95 q (1 : Int64) (((60 : Int32) * a1) + a2))))))
  else none)
  else
  (some (r1, q))
theorem e_X12_put {E : EE} (hE : GE E) (q : SS) (a1 : Int32) (a2 : Int32) (a3 : Int64) : R E (κI E) 3 292 0 [(0, .ref 60), (1, .int a1), (2, .int a2), (3, .long a3)] [] q (f_X12_put q a1 a2 a3) := by
  unfold f_X12_put
  refine r_aload_n (x := 60) gX12_put_0.1 rfl ?_
  refine r_iload_n (x := a1) gX12_put_0.2.1 rfl ?_
  refine r_iload_n (x := a2) gX12_put_0.2.2.1 rfl ?_
  refine r_calli (k := 0) (idx := 414) (y := 291) (as := [.ref 60, .int a1, .int a2]) (rest := []) (L0 := [(0, .ref 60), (1, .int a1), (2, .int a2)]) gX12_put_0.2.2.2.1 rfl rfl rfl rfl rfl (vok_v (ob_60 hE) rfl) rfl (r_dep (by decide) (e_X12_whyNoPlace hE q a1 a2)) (fun r1 => ?_)
  refine r_istore (L2 := [(0, .ref 60), (1, .int a1), (2, .int a2), (3, .long a3), (5, .int r1)]) gX12_put_0.2.2.2.2.1 rfl rfl ?_
  refine r_iload (x := r1) gX12_put_0.2.2.2.2.2.1 rfl ?_
  refine r_if_ge (t := 16) gX12_put_0.2.2.2.2.2.2.1 rfl (fun h9 => ?_) (fun h9 => ?_)
  · refine r_bipush (v := (-2 : Int32)) gX12_put_0.2.2.2.2.2.2.2.2.2.1 rfl ?_
    refine r_aload_n (x := 60) gX12_put_0.2.2.2.2.2.2.2.2.2.2.1 rfl ?_
    refine r_getA gX12_put_0.2.2.2.2.2.2.2.2.2.2.2.1 (fa_12_98_60 hE) ?_
    refine r_iload_n (x := a1) gX12_put_0.2.2.2.2.2.2.2.2.2.2.2.2.1 rfl ?_
    refine r_iaload gX12_put_0.2.2.2.2.2.2.2.2.2.2.2.2.2.1 (ar_89 hE) ?_
    refine r_isub gX12_put_0.2.2.2.2.2.2.2.2.2.2.2.2.2.2.1 ?_
    refine r_nmI fun v2 _ => ?_
    refine r_istore (L2 := [(0, .ref 60), (1, .int a1), (2, .int a2), (3, .long a3), (5, .int r1), (6, .int v2)]) gX12_put_0.2.2.2.2.2.2.2.2.2.2.2.2.2.2.2.1 rfl rfl ?_
    refine r_aload_n (x := 60) gX12_put_27.1 rfl ?_
    refine r_getA gX12_put_27.2.1 (fa_12_104_60 hE) ?_
    refine r_bipush (v := (60 : Int32)) gX12_put_27.2.2.1 rfl ?_
    refine r_iload_n (x := a1) gX12_put_27.2.2.2.1 rfl ?_
    refine r_imul gX12_put_27.2.2.2.2.1 ?_
    refine r_iload_n (x := a2) gX12_put_27.2.2.2.2.2.1 rfl ?_
    refine r_iadd gX12_put_27.2.2.2.2.2.2.1 ?_
    refine r_iload (x := v2) gX12_put_27.2.2.2.2.2.2.2.1 rfl ?_
    refine r_if_ne (t := 49) gX12_put_27.2.2.2.2.2.2.2.2.1 rfl (fun h8 => ?_) (fun h8 => ?_)
    · refine r_lload_n (x := a3) gX12_put_27.2.2.2.2.2.2.2.2.2.1 rfl ?_
      refine r_l2i gX12_put_27.2.2.2.2.2.2.2.2.2.2.1 ?_
      refine r_i2b gX12_put_27.2.2.2.2.2.2.2.2.2.2.2.1 ?_
      refine r_i2l gX12_put_27.2.2.2.2.2.2.2.2.2.2.2.2.1 ?_
      refine r_goto (t := 95) gX12_put_27.2.2.2.2.2.2.2.2.2.2.2.2.2.1 rfl ?_
      exact r_sub (L' := []) sub_n (rb_X12_put_95 hE q (((a3.toInt32).toInt8.toInt32).toInt64) (((60 : Int32) * a1) + a2))
    · refine r_iload (x := v2) gX12_put_27.2.2.2.2.2.2.2.2.2.2.2.2.2.2.1 rfl ?_
      refine r_iconst (v := (1 : Int32)) gX12_put_27.2.2.2.2.2.2.2.2.2.2.2.2.2.2.2.1 rfl ?_
      refine r_icmp_ne (t := 62) gX12_put_52.1 rfl (fun h7 => ?_) (fun h7 => ?_)
      · refine r_lload_n (x := a3) gX12_put_52.2.1 rfl ?_
        refine r_l2i gX12_put_52.2.2.1 ?_
        refine r_i2s gX12_put_52.2.2.2.1 ?_
        refine r_i2l gX12_put_52.2.2.2.2.1 ?_
        refine r_goto (t := 95) gX12_put_52.2.2.2.2.2.1 rfl ?_
        exact r_sub (L' := []) sub_n (rb_X12_put_95 hE q (((a3.toInt32).toInt16.toInt32).toInt64) (((60 : Int32) * a1) + a2))
      · refine r_iload (x := v2) gX12_put_52.2.2.2.2.2.2.1 rfl ?_
        refine r_iconst (v := (2 : Int32)) gX12_put_52.2.2.2.2.2.2.2.1 rfl ?_
        refine r_icmp_ne (t := 74) gX12_put_52.2.2.2.2.2.2.2.2.1 rfl (fun h6 => ?_) (fun h6 => ?_)
        · refine r_lload_n (x := a3) gX12_put_52.2.2.2.2.2.2.2.2.2.1 rfl ?_
          refine r_l2i gX12_put_52.2.2.2.2.2.2.2.2.2.2.1 ?_
          refine r_i2l gX12_put_52.2.2.2.2.2.2.2.2.2.2.2.1 ?_
          refine r_goto (t := 95) gX12_put_52.2.2.2.2.2.2.2.2.2.2.2.2.1 rfl ?_
          exact r_sub (L' := []) sub_n (rb_X12_put_95 hE q ((a3.toInt32).toInt64) (((60 : Int32) * a1) + a2))
        · refine r_iload (x := v2) gX12_put_52.2.2.2.2.2.2.2.2.2.2.2.2.2.1 rfl ?_
          refine r_iconst (v := (3 : Int32)) gX12_put_52.2.2.2.2.2.2.2.2.2.2.2.2.2.2.1 rfl ?_
          refine r_icmp_ne (t := 84) gX12_put_52.2.2.2.2.2.2.2.2.2.2.2.2.2.2.2.1 rfl (fun h5 => ?_) (fun h5 => ?_)
          · refine r_lload_n (x := a3) gX12_put_80.1 rfl ?_
            refine r_goto (t := 95) gX12_put_80.2.1 rfl ?_
            exact r_sub (L' := []) sub_n (rb_X12_put_95 hE q a3 (((60 : Int32) * a1) + a2))
          · refine r_lload_n (x := a3) gX12_put_80.2.2.1 rfl ?_
            refine r_lconst (v := (0 : Int64)) gX12_put_80.2.2.2.1 rfl ?_
            refine r_lcmp gX12_put_80.2.2.2.2.1 ?_
            refine r_if_eq (t := 94) gX12_put_80.2.2.2.2.2.1 rfl (fun h4 => ?_) (fun h4 => ?_)
            · refine r_lconst (v := (0 : Int64)) gX12_put_80.2.2.2.2.2.2.2.2.1 rfl ?_
              exact r_sub (L' := []) sub_n (rb_X12_put_95 hE q (0 : Int64) (((60 : Int32) * a1) + a2))
            · refine r_lconst (v := (1 : Int64)) gX12_put_80.2.2.2.2.2.2.1 rfl ?_
              refine r_goto (t := 95) gX12_put_80.2.2.2.2.2.2.2.1 rfl ?_
              exact r_sub (L' := []) sub_n (rb_X12_put_95 hE q (1 : Int64) (((60 : Int32) * a1) + a2))
  · refine r_iload (x := r1) gX12_put_0.2.2.2.2.2.2.2.1 rfl ?_
    exact r_ireturn gX12_put_0.2.2.2.2.2.2.2.2.1 rfl rfl
def b_X7_holdRow_42 : SS → Int32 → Int32 → Int32 → Option SS :=
  fx4 (fun (rec_42 : SS → Int32 → Int32 → Int32 → Option SS) (q : SS) (l1 : Int32) (l3 : Int32) (l4 : Int32) =>
  if l3 ≤ l4 then
  (some q)
  else
  (if vin l1 6 then
  if vin l4 60 then
  nm (sL q (31 + l1.toNatClampNeg) l4.toNatClampNeg (0 : Int64)) fun q6 =>
  rec_42 q6 l1 l3 (l4 + (1 : Int32))
  else none
  else none)) FU
theorem rb_X7_holdRow_42 {E : EE} (hE : GE E) (q : SS) (l1 : Int32) (l3 : Int32) (l4 : Int32) : R E (κV E) 1 91 42 [(0, .ref 26), (1, .int l1), (3, .int l3), (4, .int l4)] [] q (b_X7_holdRow_42 q l1 l3 l4) := by
  unfold b_X7_holdRow_42
  refine fx4_ok (P := fun q l1 l3 l4 o => R E (κV E) 1 91 42 [(0, .ref 26), (1, .int l1), (3, .int l3), (4, .int l4)] [] q o) (fun _ _ _ _ => r_no) (fun rec_42 hrec_42 q l1 l3 l4 => ?_) _ _ _ _ _
  refine r_iload (x := l4) gX7_holdRow_31.2.2.2.2.2.2.2.2.1 rfl ?_
  refine r_iload_n (x := l3) gX7_holdRow_31.2.2.2.2.2.2.2.2.2.1 rfl ?_
  refine r_icmp_ge (t := 64) gX7_holdRow_31.2.2.2.2.2.2.2.2.2.2.1 rfl (fun h7 => ?_) (fun h7 => ?_)
  · exact r_return gX7_holdRow_56.2.2.2.2.1 rfl rfl
  · refine r_aload_n (x := 26) gX7_holdRow_31.2.2.2.2.2.2.2.2.2.2.2.1 rfl ?_
    refine r_getA gX7_holdRow_31.2.2.2.2.2.2.2.2.2.2.2.2.1 (fa_7_23_26 hE) ?_
    refine r_iload_n (x := l1) gX7_holdRow_31.2.2.2.2.2.2.2.2.2.2.2.2.2.1 rfl ?_
    refine r_aaload gX7_holdRow_31.2.2.2.2.2.2.2.2.2.2.2.2.2.2.1 (ar_30 hE) (by decide) (rv_30 hE) (fun h5 => ?_)
    refine r_iload (x := l4) gX7_holdRow_31.2.2.2.2.2.2.2.2.2.2.2.2.2.2.2.1 rfl ?_
    refine r_lconst (v := (0 : Int64)) gX7_holdRow_56.1 rfl ?_
    refine r_lastore gX7_holdRow_56.2.1 (aw_31 hE (vin_lt h5)) ?_
    refine r_nmS fun q6 _ => ?_
    refine r_iinc (x := l4) (v := (l4 + (1 : Int32))) (L2 := [(0, .ref 26), (1, .int l1), (3, .int l3), (4, .int (l4 + (1 : Int32)))]) gX7_holdRow_56.2.2.1 rfl rfl rfl rfl ?_
    refine r_goto (t := 42) gX7_holdRow_56.2.2.2.1 rfl ?_
    exact r_sub (L' := [(0, .ref 26), (1, .int l1), (3, .int l3), (4, .int (l4 + (1 : Int32)))]) (sub_c rfl (sub_c rfl (sub_c rfl (sub_c rfl sub_n)))) (hrec_42 q6 l1 l3 (l4 + (1 : Int32)))
def f_X7_holdRow (q : SS) (a1 : Int32) (a2 : Int32) (a3 : Int32) : Option SS :=
  (f_X7_isShelf q a1).bind fun r1 =>
  if r1 = 0 then
  (some q)
  else
  ((f_X7_isSort q a2).bind fun r2 =>
  if r2 = 0 then
  (some q)
  else
  (if a3 < 0 then
  (some q)
  else
  (if (60 : Int32) < a3 then
  (some q)
  else
  (if vin a1 6 then
  nm (sI q 27 a1.toNatClampNeg a2) fun q3 =>
  if vin a1 6 then
  nm (sI q3 28 a1.toNatClampNeg a3) fun q4 =>
  b_X7_holdRow_42 q4 a1 a3 (0 : Int32)
  else none
  else none))))
theorem e_X7_holdRow {E : EE} (hE : GE E) (q : SS) (a1 : Int32) (a2 : Int32) (a3 : Int32) : R E (κV E) 1 91 0 [(0, .ref 26), (1, .int a1), (2, .int a2), (3, .int a3)] [] q (f_X7_holdRow q a1 a2 a3) := by
  unfold f_X7_holdRow
  refine r_aload_n (x := 26) gX7_holdRow_0.1 rfl ?_
  refine r_iload_n (x := a1) gX7_holdRow_0.2.1 rfl ?_
  refine r_calli (k := 0) (idx := 26) (y := 79) (as := [.ref 26, .int a1]) (rest := []) (L0 := [(0, .ref 26), (1, .int a1)]) gX7_holdRow_0.2.2.1 rfl rfl rfl rfl rfl (vok_v (ob_26 hE) rfl) rfl (r_dep (by decide) (e_X7_isShelf hE q a1)) (fun r1 => ?_)
  refine r_if_eq (t := 64) gX7_holdRow_0.2.2.2.1 rfl (fun h11 => ?_) (fun h11 => ?_)
  · exact r_return gX7_holdRow_56.2.2.2.2.1 rfl rfl
  · refine r_iload_n (x := a2) gX7_holdRow_0.2.2.2.2.1 rfl ?_
    refine r_calli (k := 2) (idx := 30) (y := 78) (as := [.int a2]) (rest := []) (L0 := [(0, .int a2)]) gX7_holdRow_0.2.2.2.2.2.1 rfl rfl rfl rfl rfl vok_s rfl (r_dep (by decide) (e_X7_isSort hE q a2)) (fun r2 => ?_)
    refine r_if_eq (t := 64) gX7_holdRow_0.2.2.2.2.2.2.1 rfl (fun h10 => ?_) (fun h10 => ?_)
    · exact r_return gX7_holdRow_56.2.2.2.2.1 rfl rfl
    · refine r_iload_n (x := a3) gX7_holdRow_0.2.2.2.2.2.2.2.1 rfl ?_
      refine r_if_lt (t := 64) gX7_holdRow_0.2.2.2.2.2.2.2.2.1 rfl (fun h9 => ?_) (fun h9 => ?_)
      · exact r_return gX7_holdRow_56.2.2.2.2.1 rfl rfl
      · refine r_iload_n (x := a3) gX7_holdRow_0.2.2.2.2.2.2.2.2.2.1 rfl ?_
        refine r_bipush (v := (60 : Int32)) gX7_holdRow_0.2.2.2.2.2.2.2.2.2.2.1 rfl ?_
        refine r_icmp_gt (t := 64) gX7_holdRow_0.2.2.2.2.2.2.2.2.2.2.2.1 rfl (fun h8 => ?_) (fun h8 => ?_)
        · exact r_return gX7_holdRow_56.2.2.2.2.1 rfl rfl
        · refine r_aload_n (x := 26) gX7_holdRow_0.2.2.2.2.2.2.2.2.2.2.2.2.1 rfl ?_
          refine r_getA gX7_holdRow_0.2.2.2.2.2.2.2.2.2.2.2.2.2.1 (fa_7_11_26 hE) ?_
          refine r_iload_n (x := a1) gX7_holdRow_0.2.2.2.2.2.2.2.2.2.2.2.2.2.2.1 rfl ?_
          refine r_iload_n (x := a2) gX7_holdRow_0.2.2.2.2.2.2.2.2.2.2.2.2.2.2.2.1 rfl ?_
          refine r_iastore gX7_holdRow_31.1 (ar_27 hE) ?_
          refine r_nmS fun q3 _ => ?_
          refine r_aload_n (x := 26) gX7_holdRow_31.2.1 rfl ?_
          refine r_getA gX7_holdRow_31.2.2.1 (fa_7_15_26 hE) ?_
          refine r_iload_n (x := a1) gX7_holdRow_31.2.2.2.1 rfl ?_
          refine r_iload_n (x := a3) gX7_holdRow_31.2.2.2.2.1 rfl ?_
          refine r_iastore gX7_holdRow_31.2.2.2.2.2.1 (ar_28 hE) ?_
          refine r_nmS fun q4 _ => ?_
          refine r_iconst (v := (0 : Int32)) gX7_holdRow_31.2.2.2.2.2.2.1 rfl ?_
          refine r_istore (L2 := [(0, .ref 26), (1, .int a1), (2, .int a2), (3, .int a3), (4, .int (0 : Int32))]) gX7_holdRow_31.2.2.2.2.2.2.2.1 rfl rfl ?_
          exact r_sub (L' := [(0, .ref 26), (1, .int a1), (3, .int a3), (4, .int (0 : Int32))]) (sub_c rfl (sub_c rfl (sub_c rfl (sub_c rfl sub_n)))) (rb_X7_holdRow_42 hE q4 a1 a3 (0 : Int32))
def f_X11_row (q : SS) (a1 : Int32) (a2 : Int32) (a3 : Int32) : Option (Int32 × SS) :=
  (f_X7_isShelf q a1).bind fun r1 =>
  if r1 = 0 then
  (some ((-1 : Int32), q))
  else
  ((f_X7_isSort q a2).bind fun r2 =>
  if r2 = 0 then
  (some ((-1 : Int32), q))
  else
  (if a3 ≤ (60 : Int32) then
  (if 0 ≤ a3 then
  ((f_X7_holdRow q a1 a2 a3).bind fun r3 =>
  some ((1 : Int32), r3))
  else
  (some ((-14 : Int32), q)))
  else
  (some ((-1 : Int32), q))))
theorem e_X11_row {E : EE} (hE : GE E) (q : SS) (a1 : Int32) (a2 : Int32) (a3 : Int32) : R E (κI E) 2 182 0 [(0, .ref 0), (1, .int a1), (2, .int a2), (3, .int a3)] [] q (f_X11_row q a1 a2 a3) := by
  unfold f_X11_row
  refine r_aload_n (x := 0) gX11_row_0.1 rfl ?_
  refine r_getA gX11_row_0.2.1 (fa_11_42_0 hE) ?_
  refine r_iload_n (x := a1) gX11_row_0.2.2.1 rfl ?_
  refine r_calli (k := 0) (idx := 106) (y := 79) (as := [.ref 26, .int a1]) (rest := []) (L0 := [(0, .ref 26), (1, .int a1)]) gX11_row_0.2.2.2.1 rfl rfl rfl rfl rfl (vok_v (ob_26 hE) rfl) rfl (r_dep (by decide) (e_X7_isShelf hE q a1)) (fun r1 => ?_)
  refine r_if_eq (t := 24) gX11_row_0.2.2.2.2.1 rfl (fun h7 => ?_) (fun h7 => ?_)
  · refine r_iconst (v := (-1 : Int32)) gX11_row_0.2.2.2.2.2.2.2.2.2.2.2.1 rfl ?_
    exact r_ireturn gX11_row_0.2.2.2.2.2.2.2.2.2.2.2.2.1 rfl rfl
  · refine r_iload_n (x := a2) gX11_row_0.2.2.2.2.2.1 rfl ?_
    refine r_calli (k := 2) (idx := 359) (y := 78) (as := [.int a2]) (rest := []) (L0 := [(0, .int a2)]) gX11_row_0.2.2.2.2.2.2.1 rfl rfl rfl rfl rfl vok_s rfl (r_dep (by decide) (e_X7_isSort hE q a2)) (fun r2 => ?_)
    refine r_if_eq (t := 24) gX11_row_0.2.2.2.2.2.2.2.1 rfl (fun h6 => ?_) (fun h6 => ?_)
    · refine r_iconst (v := (-1 : Int32)) gX11_row_0.2.2.2.2.2.2.2.2.2.2.2.1 rfl ?_
      exact r_ireturn gX11_row_0.2.2.2.2.2.2.2.2.2.2.2.2.1 rfl rfl
    · refine r_iload_n (x := a3) gX11_row_0.2.2.2.2.2.2.2.2.1 rfl ?_
      refine r_bipush (v := (60 : Int32)) gX11_row_0.2.2.2.2.2.2.2.2.2.1 rfl ?_
      refine r_icmp_le (t := 26) gX11_row_0.2.2.2.2.2.2.2.2.2.2.1 rfl (fun h5 => ?_) (fun h5 => ?_)
      · refine r_iload_n (x := a3) gX11_row_0.2.2.2.2.2.2.2.2.2.2.2.2.2.1 rfl ?_
        refine r_if_ge (t := 33) gX11_row_0.2.2.2.2.2.2.2.2.2.2.2.2.2.2.1 rfl (fun h4 => ?_) (fun h4 => ?_)
        · refine r_aload_n (x := 0) gX11_row_32.2.1 rfl ?_
          refine r_getA gX11_row_32.2.2.1 (fa_11_42_0 hE) ?_
          refine r_iload_n (x := a1) gX11_row_32.2.2.2.1 rfl ?_
          refine r_iload_n (x := a2) gX11_row_32.2.2.2.2.1 rfl ?_
          refine r_iload_n (x := a3) gX11_row_32.2.2.2.2.2.1 rfl ?_
          refine r_callV (k := 0) (idx := 362) (y := 91) (as := [.ref 26, .int a1, .int a2, .int a3]) (rest := []) (L0 := [(0, .ref 26), (1, .int a1), (2, .int a2), (3, .int a3)]) gX11_row_32.2.2.2.2.2.2.1 rfl rfl rfl rfl rfl (vok_v (ob_26 hE) rfl) rfl (r_dep (by decide) (e_X7_holdRow hE q a1 a2 a3)) (fun r3 => ?_)
          refine r_iconst (v := (1 : Int32)) gX11_row_32.2.2.2.2.2.2.2.1 rfl ?_
          exact r_ireturn gX11_row_32.2.2.2.2.2.2.2.2.1 rfl rfl
        · refine r_bipush (v := (-14 : Int32)) gX11_row_0.2.2.2.2.2.2.2.2.2.2.2.2.2.2.2.1 rfl ?_
          exact r_ireturn gX11_row_32.1 rfl rfl
      · refine r_iconst (v := (-1 : Int32)) gX11_row_0.2.2.2.2.2.2.2.2.2.2.2.1 rfl ?_
        exact r_ireturn gX11_row_0.2.2.2.2.2.2.2.2.2.2.2.2.1 rfl rfl
def b_X12_row_54 : SS → Int32 → Int32 → Option (Int32 × SS) :=
  fx3 (fun (rec_54 : SS → Int32 → Int32 → Option (Int32 × SS)) (q : SS) (l1 : Int32) (l4 : Int32) =>
  if (((60 : Int32) * l1) + (60 : Int32)) ≤ l4 then
  (some ((1 : Int32), q))
  else
  (if vin l4 360 then
  nm (sL q 91 l4.toNatClampNeg (0 : Int64)) fun q6 =>
  rec_54 q6 l1 (l4 + (1 : Int32))
  else none)) FU
theorem rb_X12_row_54 {E : EE} (hE : GE E) (q : SS) (l1 : Int32) (l4 : Int32) : R E (κI E) 2 290 54 [(0, .ref 60), (1, .int l1), (4, .int l4)] [] q (b_X12_row_54 q l1 l4) := by
  unfold b_X12_row_54
  refine fx3_ok (P := fun q l1 l4 o => R E (κI E) 2 290 54 [(0, .ref 60), (1, .int l1), (4, .int l4)] [] q o) (fun _ _ _ => r_no) (fun rec_54 hrec_54 q l1 l4 => ?_) _ _ _ _
  refine r_iload (x := l4) gX12_row_52.2.1 rfl ?_
  refine r_bipush (v := (60 : Int32)) gX12_row_52.2.2.1 rfl ?_
  refine r_iload_n (x := l1) gX12_row_52.2.2.2.1 rfl ?_
  refine r_imul gX12_row_52.2.2.2.2.1 ?_
  refine r_bipush (v := (60 : Int32)) gX12_row_52.2.2.2.2.2.1 rfl ?_
  refine r_iadd gX12_row_52.2.2.2.2.2.2.1 ?_
  refine r_icmp_ge (t := 80) gX12_row_52.2.2.2.2.2.2.2.1 rfl (fun h7 => ?_) (fun h7 => ?_)
  · refine r_iconst (v := (1 : Int32)) gX12_row_52.2.2.2.2.2.2.2.2.2.2.2.2.2.2.2.1 rfl ?_
    exact r_ireturn gX12_row_81.1 rfl rfl
  · refine r_aload_n (x := 60) gX12_row_52.2.2.2.2.2.2.2.2.1 rfl ?_
    refine r_getA gX12_row_52.2.2.2.2.2.2.2.2.2.1 (fa_12_104_60 hE) ?_
    refine r_iload (x := l4) gX12_row_52.2.2.2.2.2.2.2.2.2.2.1 rfl ?_
    refine r_lconst (v := (0 : Int64)) gX12_row_52.2.2.2.2.2.2.2.2.2.2.2.1 rfl ?_
    refine r_lastore gX12_row_52.2.2.2.2.2.2.2.2.2.2.2.2.1 (ar_91 hE) ?_
    refine r_nmS fun q6 _ => ?_
    refine r_iinc (x := l4) (v := (l4 + (1 : Int32))) (L2 := [(0, .ref 60), (1, .int l1), (4, .int (l4 + (1 : Int32)))]) gX12_row_52.2.2.2.2.2.2.2.2.2.2.2.2.2.1 rfl rfl rfl rfl ?_
    refine r_goto (t := 54) gX12_row_52.2.2.2.2.2.2.2.2.2.2.2.2.2.2.1 rfl ?_
    exact r_sub (L' := [(0, .ref 60), (1, .int l1), (4, .int (l4 + (1 : Int32)))]) (sub_c rfl (sub_c rfl (sub_c rfl sub_n))) (hrec_54 q6 l1 (l4 + (1 : Int32)))
def f_X12_row (q : SS) (a1 : Int32) (a2 : Int32) (a3 : Int32) : Option (Int32 × SS) :=
  (f_X12_isShelf q a1).bind fun r1 =>
  if r1 = 0 then
  (some ((-1 : Int32), q))
  else
  ((f_X12_in q a2 (0 : Int32) (4 : Int32)).bind fun r2 =>
  if r2 = 0 then
  (some ((-1 : Int32), q))
  else
  (if a3 ≤ (60 : Int32) then
  (if 0 ≤ a3 then
  (if vin a1 6 then
  nm (sI q 89 a1.toNatClampNeg ((-2 : Int32) - a2)) fun q3 =>
  if vin a1 6 then
  nm (sI q3 90 a1.toNatClampNeg a3) fun q4 =>
  nm ((60 : Int32) * a1) fun v5 =>
  b_X12_row_54 q4 a1 v5
  else none
  else none)
  else
  (some ((-14 : Int32), q)))
  else
  (some ((-1 : Int32), q))))
theorem e_X12_row {E : EE} (hE : GE E) (q : SS) (a1 : Int32) (a2 : Int32) (a3 : Int32) : R E (κI E) 2 290 0 [(0, .ref 60), (1, .int a1), (2, .int a2), (3, .int a3)] [] q (f_X12_row q a1 a2 a3) := by
  unfold f_X12_row
  refine r_iload_n (x := a1) gX12_row_0.1 rfl ?_
  refine r_calli (k := 2) (idx := 137) (y := 288) (as := [.int a1]) (rest := []) (L0 := [(0, .int a1)]) gX12_row_0.2.1 rfl rfl rfl rfl rfl vok_s rfl (r_dep (by decide) (e_X12_isShelf hE q a1)) (fun r1 => ?_)
  refine r_if_eq (t := 22) gX12_row_0.2.2.1 rfl (fun h11 => ?_) (fun h11 => ?_)
  · refine r_iconst (v := (-1 : Int32)) gX12_row_0.2.2.2.2.2.2.2.2.2.2.2.1 rfl ?_
    exact r_ireturn gX12_row_0.2.2.2.2.2.2.2.2.2.2.2.2.1 rfl rfl
  · refine r_iload_n (x := a2) gX12_row_0.2.2.2.1 rfl ?_
    refine r_iconst (v := (0 : Int32)) gX12_row_0.2.2.2.2.1 rfl ?_
    refine r_iconst (v := (4 : Int32)) gX12_row_0.2.2.2.2.2.1 rfl ?_
    refine r_calli (k := 2) (idx := 118) (y := 189) (as := [.int a2, .int (0 : Int32), .int (4 : Int32)]) (rest := []) (L0 := [(0, .int a2), (1, .int (0 : Int32)), (2, .int (4 : Int32))]) gX12_row_0.2.2.2.2.2.2.1 rfl rfl rfl rfl rfl vok_s rfl (r_dep (by decide) (e_X12_in hE q a2 (0 : Int32) (4 : Int32))) (fun r2 => ?_)
    refine r_if_eq (t := 22) gX12_row_0.2.2.2.2.2.2.2.1 rfl (fun h10 => ?_) (fun h10 => ?_)
    · refine r_iconst (v := (-1 : Int32)) gX12_row_0.2.2.2.2.2.2.2.2.2.2.2.1 rfl ?_
      exact r_ireturn gX12_row_0.2.2.2.2.2.2.2.2.2.2.2.2.1 rfl rfl
    · refine r_iload_n (x := a3) gX12_row_0.2.2.2.2.2.2.2.2.1 rfl ?_
      refine r_bipush (v := (60 : Int32)) gX12_row_0.2.2.2.2.2.2.2.2.2.1 rfl ?_
      refine r_icmp_le (t := 24) gX12_row_0.2.2.2.2.2.2.2.2.2.2.1 rfl (fun h9 => ?_) (fun h9 => ?_)
      · refine r_iload_n (x := a3) gX12_row_0.2.2.2.2.2.2.2.2.2.2.2.2.2.1 rfl ?_
        refine r_if_ge (t := 31) gX12_row_0.2.2.2.2.2.2.2.2.2.2.2.2.2.2.1 rfl (fun h8 => ?_) (fun h8 => ?_)
        · refine r_aload_n (x := 60) gX12_row_30.2.1 rfl ?_
          refine r_getA gX12_row_30.2.2.1 (fa_12_98_60 hE) ?_
          refine r_iload_n (x := a1) gX12_row_30.2.2.2.1 rfl ?_
          refine r_bipush (v := (-2 : Int32)) gX12_row_30.2.2.2.2.1 rfl ?_
          refine r_iload_n (x := a2) gX12_row_30.2.2.2.2.2.1 rfl ?_
          refine r_isub gX12_row_30.2.2.2.2.2.2.1 ?_
          refine r_iastore gX12_row_30.2.2.2.2.2.2.2.1 (ar_89 hE) ?_
          refine r_nmS fun q3 _ => ?_
          refine r_aload_n (x := 60) gX12_row_30.2.2.2.2.2.2.2.2.1 rfl ?_
          refine r_getA gX12_row_30.2.2.2.2.2.2.2.2.2.1 (fa_12_101_60 hE) ?_
          refine r_iload_n (x := a1) gX12_row_30.2.2.2.2.2.2.2.2.2.2.1 rfl ?_
          refine r_iload_n (x := a3) gX12_row_30.2.2.2.2.2.2.2.2.2.2.2.1 rfl ?_
          refine r_iastore gX12_row_30.2.2.2.2.2.2.2.2.2.2.2.2.1 (ar_90 hE) ?_
          refine r_nmS fun q4 _ => ?_
          refine r_bipush (v := (60 : Int32)) gX12_row_30.2.2.2.2.2.2.2.2.2.2.2.2.2.1 rfl ?_
          refine r_iload_n (x := a1) gX12_row_30.2.2.2.2.2.2.2.2.2.2.2.2.2.2.1 rfl ?_
          refine r_imul gX12_row_30.2.2.2.2.2.2.2.2.2.2.2.2.2.2.2.1 ?_
          refine r_nmI fun v5 _ => ?_
          refine r_istore (L2 := [(0, .ref 60), (1, .int a1), (2, .int a2), (3, .int a3), (4, .int v5)]) gX12_row_52.1 rfl rfl ?_
          exact r_sub (L' := [(0, .ref 60), (1, .int a1), (4, .int v5)]) (sub_c rfl (sub_c rfl (sub_c rfl sub_n))) (rb_X12_row_54 hE q4 a1 v5)
        · refine r_bipush (v := (-14 : Int32)) gX12_row_0.2.2.2.2.2.2.2.2.2.2.2.2.2.2.2.1 rfl ?_
          exact r_ireturn gX12_row_30.1 rfl rfl
      · refine r_iconst (v := (-1 : Int32)) gX12_row_0.2.2.2.2.2.2.2.2.2.2.2.1 rfl ?_
        exact r_ireturn gX12_row_0.2.2.2.2.2.2.2.2.2.2.2.2.1 rfl rfl
def f_X7_clear (q : SS) (a1 : Int32) : Option SS :=
  (f_X7_isShelf q a1).bind fun r1 =>
  if r1 = 0 then
  (some q)
  else
  (if vin a1 6 then
  nm (sI q 27 a1.toNatClampNeg (-2 : Int32)) fun q2 =>
  some q2
  else none)
theorem e_X7_clear {E : EE} (hE : GE E) (q : SS) (a1 : Int32) : R E (κV E) 1 89 0 [(0, .ref 26), (1, .int a1)] [] q (f_X7_clear q a1) := by
  unfold f_X7_clear
  refine r_aload_n (x := 26) gX7_clear_0.1 rfl ?_
  refine r_iload_n (x := a1) gX7_clear_0.2.1 rfl ?_
  refine r_calli (k := 0) (idx := 26) (y := 79) (as := [.ref 26, .int a1]) (rest := []) (L0 := [(0, .ref 26), (1, .int a1)]) gX7_clear_0.2.2.1 rfl rfl rfl rfl rfl (vok_v (ob_26 hE) rfl) rfl (r_dep (by decide) (e_X7_isShelf hE q a1)) (fun r1 => ?_)
  refine r_if_eq (t := 16) gX7_clear_0.2.2.2.1 rfl (fun h3 => ?_) (fun h3 => ?_)
  · exact r_return gX7_clear_0.2.2.2.2.2.2.2.2.2.1 rfl rfl
  · refine r_aload_n (x := 26) gX7_clear_0.2.2.2.2.1 rfl ?_
    refine r_getA gX7_clear_0.2.2.2.2.2.1 (fa_7_11_26 hE) ?_
    refine r_iload_n (x := a1) gX7_clear_0.2.2.2.2.2.2.1 rfl ?_
    refine r_bipush (v := (-2 : Int32)) gX7_clear_0.2.2.2.2.2.2.2.1 rfl ?_
    refine r_iastore gX7_clear_0.2.2.2.2.2.2.2.2.1 (ar_27 hE) ?_
    refine r_nmS fun q2 _ => ?_
    exact r_return gX7_clear_0.2.2.2.2.2.2.2.2.2.1 rfl rfl
def f_X7_holdBody (q : SS) (a1 : Int32) (a2 : Int32) : Option SS :=
  (f_X7_isShelf q a1).bind fun r1 =>
  if r1 = 0 then
  (some q)
  else
  (if vin a1 6 then
  nm (sI q 27 a1.toNatClampNeg (-1 : Int32)) fun q2 =>
  if vin a1 6 then
  nm (sI q2 29 a1.toNatClampNeg a2) fun q3 =>
  some q3
  else none
  else none)
theorem e_X7_holdBody {E : EE} (hE : GE E) (q : SS) (a1 : Int32) (a2 : Int32) : R E (κV E) 1 90 0 [(0, .ref 26), (1, .int a1), (2, .int a2)] [] q (f_X7_holdBody q a1 a2) := by
  unfold f_X7_holdBody
  refine r_aload_n (x := 26) gX7_holdBody_0.1 rfl ?_
  refine r_iload_n (x := a1) gX7_holdBody_0.2.1 rfl ?_
  refine r_calli (k := 0) (idx := 26) (y := 79) (as := [.ref 26, .int a1]) (rest := []) (L0 := [(0, .ref 26), (1, .int a1)]) gX7_holdBody_0.2.2.1 rfl rfl rfl rfl rfl (vok_v (ob_26 hE) rfl) rfl (r_dep (by decide) (e_X7_isShelf hE q a1)) (fun r1 => ?_)
  refine r_if_eq (t := 22) gX7_holdBody_0.2.2.2.1 rfl (fun h4 => ?_) (fun h4 => ?_)
  · exact r_return gX7_holdBody_0.2.2.2.2.2.2.2.2.2.2.2.2.2.2.1 rfl rfl
  · refine r_aload_n (x := 26) gX7_holdBody_0.2.2.2.2.1 rfl ?_
    refine r_getA gX7_holdBody_0.2.2.2.2.2.1 (fa_7_11_26 hE) ?_
    refine r_iload_n (x := a1) gX7_holdBody_0.2.2.2.2.2.2.1 rfl ?_
    refine r_iconst (v := (-1 : Int32)) gX7_holdBody_0.2.2.2.2.2.2.2.1 rfl ?_
    refine r_iastore gX7_holdBody_0.2.2.2.2.2.2.2.2.1 (ar_27 hE) ?_
    refine r_nmS fun q2 _ => ?_
    refine r_aload_n (x := 26) gX7_holdBody_0.2.2.2.2.2.2.2.2.2.1 rfl ?_
    refine r_getA gX7_holdBody_0.2.2.2.2.2.2.2.2.2.2.1 (fa_7_18_26 hE) ?_
    refine r_iload_n (x := a1) gX7_holdBody_0.2.2.2.2.2.2.2.2.2.2.2.1 rfl ?_
    refine r_iload_n (x := a2) gX7_holdBody_0.2.2.2.2.2.2.2.2.2.2.2.2.1 rfl ?_
    refine r_iastore gX7_holdBody_0.2.2.2.2.2.2.2.2.2.2.2.2.2.1 (ar_29 hE) ?_
    refine r_nmS fun q3 _ => ?_
    exact r_return gX7_holdBody_0.2.2.2.2.2.2.2.2.2.2.2.2.2.2.1 rfl rfl
def b_X11_keep_29 (q : SS) (l1 : Int32) (l2 : Int32) : Option (Int32 × SS) :=
  if l2 = (-1 : Int32) then
  ((f_X7_clear q l1).bind fun r2 =>
  some ((1 : Int32), r2))
  else
  ((f_X7_holdBody q l1 l2).bind fun r3 =>
  some ((1 : Int32), r3))
theorem rb_X11_keep_29 {E : EE} (hE : GE E) (q : SS) (l1 : Int32) (l2 : Int32) : R E (κI E) 2 181 29 [(0, .ref 0), (1, .int l1), (2, .int l2)] [] q (b_X11_keep_29 q l1 l2) := by
  unfold b_X11_keep_29
  refine r_iload_n (x := l2) gX11_keep_0.2.2.2.2.2.2.2.2.2.2.2.2.2.2.2.1 rfl ?_
  refine r_iconst (v := (-1 : Int32)) gX11_keep_30.1 rfl ?_
  refine r_icmp_ne (t := 45) gX11_keep_30.2.1 rfl (fun h4 => ?_) (fun h4 => ?_)
  · refine r_aload_n (x := 0) gX11_keep_30.2.2.1 rfl ?_
    refine r_getA gX11_keep_30.2.2.2.1 (fa_11_42_0 hE) ?_
    refine r_iload_n (x := l1) gX11_keep_30.2.2.2.2.1 rfl ?_
    refine r_callV (k := 0) (idx := 353) (y := 89) (as := [.ref 26, .int l1]) (rest := []) (L0 := [(0, .ref 26), (1, .int l1)]) gX11_keep_30.2.2.2.2.2.1 rfl rfl rfl rfl rfl (vok_v (ob_26 hE) rfl) rfl (r_dep (by decide) (e_X7_clear hE q l1)) (fun r2 => ?_)
    refine r_goto (t := 54) gX11_keep_30.2.2.2.2.2.2.1 rfl ?_
    refine r_iconst (v := (1 : Int32)) gX11_keep_30.2.2.2.2.2.2.2.2.2.2.2.2.1 rfl ?_
    exact r_ireturn gX11_keep_30.2.2.2.2.2.2.2.2.2.2.2.2.2.1 rfl rfl
  · refine r_aload_n (x := 0) gX11_keep_30.2.2.2.2.2.2.2.1 rfl ?_
    refine r_getA gX11_keep_30.2.2.2.2.2.2.2.2.1 (fa_11_42_0 hE) ?_
    refine r_iload_n (x := l1) gX11_keep_30.2.2.2.2.2.2.2.2.2.1 rfl ?_
    refine r_iload_n (x := l2) gX11_keep_30.2.2.2.2.2.2.2.2.2.2.1 rfl ?_
    refine r_callV (k := 0) (idx := 356) (y := 90) (as := [.ref 26, .int l1, .int l2]) (rest := []) (L0 := [(0, .ref 26), (1, .int l1), (2, .int l2)]) gX11_keep_30.2.2.2.2.2.2.2.2.2.2.2.1 rfl rfl rfl rfl rfl (vok_v (ob_26 hE) rfl) rfl (r_dep (by decide) (e_X7_holdBody hE q l1 l2)) (fun r3 => ?_)
    refine r_iconst (v := (1 : Int32)) gX11_keep_30.2.2.2.2.2.2.2.2.2.2.2.2.1 rfl ?_
    exact r_ireturn gX11_keep_30.2.2.2.2.2.2.2.2.2.2.2.2.2.1 rfl rfl
def f_X11_keep (q : SS) (a1 : Int32) (a2 : Int32) : Option (Int32 × SS) :=
  (f_X7_isShelf q a1).bind fun r1 =>
  if r1 = 0 then
  (some ((-1 : Int32), q))
  else
  (if a2 = (-1 : Int32) then
  (b_X11_keep_29 q a1 a2)
  else
  ((f_X3_isBody q a2).bind fun r5 =>
  if r5 = 0 then
  (some ((-1 : Int32), q))
  else
  (b_X11_keep_29 q a1 a2)))
theorem e_X11_keep {E : EE} (hE : GE E) (q : SS) (a1 : Int32) (a2 : Int32) : R E (κI E) 2 181 0 [(0, .ref 0), (1, .int a1), (2, .int a2)] [] q (f_X11_keep q a1 a2) := by
  unfold f_X11_keep
  refine r_aload_n (x := 0) gX11_keep_0.1 rfl ?_
  refine r_getA gX11_keep_0.2.1 (fa_11_42_0 hE) ?_
  refine r_iload_n (x := a1) gX11_keep_0.2.2.1 rfl ?_
  refine r_calli (k := 0) (idx := 106) (y := 79) (as := [.ref 26, .int a1]) (rest := []) (L0 := [(0, .ref 26), (1, .int a1)]) gX11_keep_0.2.2.2.1 rfl rfl rfl rfl rfl (vok_v (ob_26 hE) rfl) rfl (r_dep (by decide) (e_X7_isShelf hE q a1)) (fun r1 => ?_)
  refine r_if_eq (t := 27) gX11_keep_0.2.2.2.2.1 rfl (fun h8 => ?_) (fun h8 => ?_)
  · refine r_iconst (v := (-1 : Int32)) gX11_keep_0.2.2.2.2.2.2.2.2.2.2.2.2.2.1 rfl ?_
    exact r_ireturn gX11_keep_0.2.2.2.2.2.2.2.2.2.2.2.2.2.2.1 rfl rfl
  · refine r_iload_n (x := a2) gX11_keep_0.2.2.2.2.2.1 rfl ?_
    refine r_iconst (v := (-1 : Int32)) gX11_keep_0.2.2.2.2.2.2.1 rfl ?_
    refine r_icmp_eq (t := 29) gX11_keep_0.2.2.2.2.2.2.2.1 rfl (fun h7 => ?_) (fun h7 => ?_)
    · exact r_sub (L' := [(0, .ref 0), (1, .int a1), (2, .int a2)]) (sub_c rfl (sub_c rfl (sub_c rfl sub_n))) (rb_X11_keep_29 hE q a1 a2)
    · refine r_aload_n (x := 0) gX11_keep_0.2.2.2.2.2.2.2.2.1 rfl ?_
      refine r_getA gX11_keep_0.2.2.2.2.2.2.2.2.2.1 (fa_11_90_0 hE) ?_
      refine r_iload_n (x := a2) gX11_keep_0.2.2.2.2.2.2.2.2.2.2.1 rfl ?_
      refine r_calli (k := 0) (idx := 350) (y := 29) (as := [.ref 57, .int a2]) (rest := []) (L0 := [(0, .ref 57), (1, .int a2)]) gX11_keep_0.2.2.2.2.2.2.2.2.2.2.2.1 rfl rfl rfl rfl rfl (vok_v (ob_57 hE) rfl) rfl (r_dep (by decide) (e_X3_isBody hE q a2)) (fun r5 => ?_)
      refine r_if_ne (t := 29) gX11_keep_0.2.2.2.2.2.2.2.2.2.2.2.2.1 rfl (fun h6 => ?_) (fun h6 => ?_)
      · refine r_iconst (v := (-1 : Int32)) gX11_keep_0.2.2.2.2.2.2.2.2.2.2.2.2.2.1 rfl ?_
        exact r_ireturn gX11_keep_0.2.2.2.2.2.2.2.2.2.2.2.2.2.2.1 rfl rfl
      · exact r_sub (L' := [(0, .ref 0), (1, .int a1), (2, .int a2)]) (sub_c rfl (sub_c rfl (sub_c rfl sub_n))) (rb_X11_keep_29 hE q a1 a2)
def f_X12_isBody (q : SS) (a1 : Int32) : Option Int32 :=
  (f_X12_in q a1 (0 : Int32) ((q.1 60 52) - (1 : Int32))).bind fun r1 =>
  if r1 = 0 ∨ r1 = 1 then some r1 else none
theorem e_X12_isBody {E : EE} (hE : GE E) (q : SS) (a1 : Int32) : R E (κi E q) 1 270 0 [(0, .ref 60), (1, .int a1)] [] q (f_X12_isBody q a1) := by
  unfold f_X12_isBody
  refine r_iload_n (x := a1) gX12_isBody_0.1 rfl ?_
  refine r_iconst (v := (0 : Int32)) gX12_isBody_0.2.1 rfl ?_
  refine r_aload_n (x := 60) gX12_isBody_0.2.2.1 rfl ?_
  refine r_getI gX12_isBody_0.2.2.2.1 (ff_12_365_60 hE) (by decide) ?_
  refine r_iconst (v := (1 : Int32)) gX12_isBody_0.2.2.2.2.1 rfl ?_
  refine r_isub gX12_isBody_0.2.2.2.2.2.1 ?_
  refine r_calli (k := 2) (idx := 118) (y := 189) (as := [.int a1, .int (0 : Int32), .int ((q.1 60 52) - (1 : Int32))]) (rest := []) (L0 := [(0, .int a1), (1, .int (0 : Int32)), (2, .int ((q.1 60 52) - (1 : Int32)))]) gX12_isBody_0.2.2.2.2.2.2.1 rfl rfl rfl rfl rfl vok_s rfl (r_dep (by decide) (e_X12_in hE q a1 (0 : Int32) ((q.1 60 52) - (1 : Int32)))) (fun r1 => ?_)
  exact r_zreturn gX12_isBody_0.2.2.2.2.2.2.2.1 rfl rfl
def b_X12_keep_22 (q : SS) (l1 : Int32) (l2 : Int32) : Option (Int32 × SS) :=
  if vin l1 6 then
  nm (sI q 89 l1.toNatClampNeg l2) fun q2 =>
  some ((1 : Int32), q2)
  else none
theorem rb_X12_keep_22 {E : EE} (hE : GE E) (q : SS) (l1 : Int32) (l2 : Int32) : R E (κI E) 2 289 22 [(0, .ref 60), (1, .int l1), (2, .int l2)] [] q (b_X12_keep_22 q l1 l2) := by
  unfold b_X12_keep_22
  refine r_aload_n (x := 60) gX12_keep_0.2.2.2.2.2.2.2.2.2.2.2.2.1 rfl ?_
  refine r_getA gX12_keep_0.2.2.2.2.2.2.2.2.2.2.2.2.2.1 (fa_12_98_60 hE) ?_
  refine r_iload_n (x := l1) gX12_keep_0.2.2.2.2.2.2.2.2.2.2.2.2.2.2.1 rfl ?_
  refine r_iload_n (x := l2) gX12_keep_0.2.2.2.2.2.2.2.2.2.2.2.2.2.2.2.1 rfl ?_
  refine r_iastore gX12_keep_28.1 (ar_89 hE) ?_
  refine r_nmS fun q2 _ => ?_
  refine r_iconst (v := (1 : Int32)) gX12_keep_28.2.1 rfl ?_
  exact r_ireturn gX12_keep_28.2.2.1 rfl rfl
def f_X12_keep (q : SS) (a1 : Int32) (a2 : Int32) : Option (Int32 × SS) :=
  (f_X12_isShelf q a1).bind fun r1 =>
  if r1 = 0 then
  (some ((-1 : Int32), q))
  else
  (if a2 = (-1 : Int32) then
  (b_X12_keep_22 q a1 a2)
  else
  ((f_X12_isBody q a2).bind fun r3 =>
  if r3 = 0 then
  (some ((-1 : Int32), q))
  else
  (b_X12_keep_22 q a1 a2)))
theorem e_X12_keep {E : EE} (hE : GE E) (q : SS) (a1 : Int32) (a2 : Int32) : R E (κI E) 2 289 0 [(0, .ref 60), (1, .int a1), (2, .int a2)] [] q (f_X12_keep q a1 a2) := by
  unfold f_X12_keep
  refine r_iload_n (x := a1) gX12_keep_0.1 rfl ?_
  refine r_calli (k := 2) (idx := 137) (y := 288) (as := [.int a1]) (rest := []) (L0 := [(0, .int a1)]) gX12_keep_0.2.1 rfl rfl rfl rfl rfl vok_s rfl (r_dep (by decide) (e_X12_isShelf hE q a1)) (fun r1 => ?_)
  refine r_if_eq (t := 20) gX12_keep_0.2.2.1 rfl (fun h6 => ?_) (fun h6 => ?_)
  · refine r_iconst (v := (-1 : Int32)) gX12_keep_0.2.2.2.2.2.2.2.2.2.2.1 rfl ?_
    exact r_ireturn gX12_keep_0.2.2.2.2.2.2.2.2.2.2.2.1 rfl rfl
  · refine r_iload_n (x := a2) gX12_keep_0.2.2.2.1 rfl ?_
    refine r_iconst (v := (-1 : Int32)) gX12_keep_0.2.2.2.2.1 rfl ?_
    refine r_icmp_eq (t := 22) gX12_keep_0.2.2.2.2.2.1 rfl (fun h5 => ?_) (fun h5 => ?_)
    · exact r_sub (L' := [(0, .ref 60), (1, .int a1), (2, .int a2)]) (sub_c rfl (sub_c rfl (sub_c rfl sub_n))) (rb_X12_keep_22 hE q a1 a2)
    · refine r_aload_n (x := 60) gX12_keep_0.2.2.2.2.2.2.1 rfl ?_
      refine r_iload_n (x := a2) gX12_keep_0.2.2.2.2.2.2.2.1 rfl ?_
      refine r_calli (k := 0) (idx := 408) (y := 270) (as := [.ref 60, .int a2]) (rest := []) (L0 := [(0, .ref 60), (1, .int a2)]) gX12_keep_0.2.2.2.2.2.2.2.2.1 rfl rfl rfl rfl rfl (vok_v (ob_60 hE) rfl) rfl (r_dep (by decide) (e_X12_isBody hE q a2)) (fun r3 => ?_)
      refine r_if_ne (t := 22) gX12_keep_0.2.2.2.2.2.2.2.2.2.1 rfl (fun h4 => ?_) (fun h4 => ?_)
      · refine r_iconst (v := (-1 : Int32)) gX12_keep_0.2.2.2.2.2.2.2.2.2.2.1 rfl ?_
        exact r_ireturn gX12_keep_0.2.2.2.2.2.2.2.2.2.2.2.1 rfl rfl
      · exact r_sub (L' := [(0, .ref 60), (1, .int a1), (2, .int a2)]) (sub_c rfl (sub_c rfl (sub_c rfl sub_n))) (rb_X12_keep_22 hE q a1 a2)
def f_X3_traced (q : SS)  : Option Int32 :=
  some (jmin (q.1 57 3) (24 : Int32))
theorem e_X3_traced {E : EE} (hE : GE E) (q : SS)  : R E (κi E q) 1 34 0 [(0, .ref 57)] [] q (f_X3_traced q) := by
  unfold f_X3_traced
  refine r_aload_n (x := 57) gX3_traced_0.1 rfl ?_
  refine r_getI gX3_traced_0.2.1 (ff_3_32_57 hE) (by decide) ?_
  refine r_bipush (v := (24 : Int32)) gX3_traced_0.2.2.1 rfl ?_
  refine r_mm (j := 1) (v := (jmin (q.1 57 3) (24 : Int32))) gX3_traced_0.2.2.2.1 ⟨rfl, rfl, rfl, rfl⟩ rfl rfl ?_
  exact r_ireturn gX3_traced_0.2.2.2.2.1 rfl rfl
def f_X3_traceAt (q : SS) (a1 : Int32) : Option Int32 :=
  if a1 < 0 then
  (some (0 : Int32))
  else
  ((f_X3_traced q).bind fun r1 =>
  if r1 ≤ a1 then
  (some (0 : Int32))
  else
  (if vin a1 24 then
  some (q.1 59 a1.toNatClampNeg)
  else none))
theorem e_X3_traceAt {E : EE} (hE : GE E) (q : SS) (a1 : Int32) : R E (κi E q) 2 35 0 [(0, .ref 57), (1, .int a1)] [] q (f_X3_traceAt q a1) := by
  unfold f_X3_traceAt
  refine r_iload_n (x := a1) gX3_traceAt_0.1 rfl ?_
  refine r_if_lt (t := 21) gX3_traceAt_0.2.1 rfl (fun h3 => ?_) (fun h3 => ?_)
  · refine r_iconst (v := (0 : Int32)) gX3_traceAt_0.2.2.2.2.2.2.2.2.2.2.2.1 rfl ?_
    exact r_ireturn gX3_traceAt_0.2.2.2.2.2.2.2.2.2.2.2.2.1 rfl rfl
  · refine r_iload_n (x := a1) gX3_traceAt_0.2.2.1 rfl ?_
    refine r_aload_n (x := 57) gX3_traceAt_0.2.2.2.1 rfl ?_
    refine r_calli (k := 0) (idx := 41) (y := 34) (as := [.ref 57]) (rest := [.int a1]) (L0 := [(0, .ref 57)]) gX3_traceAt_0.2.2.2.2.1 rfl rfl rfl rfl rfl (vok_v (ob_57 hE) rfl) rfl (r_dep (by decide) (e_X3_traced hE q)) (fun r1 => ?_)
    refine r_icmp_ge (t := 21) gX3_traceAt_0.2.2.2.2.2.1 rfl (fun h2 => ?_) (fun h2 => ?_)
    · refine r_iconst (v := (0 : Int32)) gX3_traceAt_0.2.2.2.2.2.2.2.2.2.2.2.1 rfl ?_
      exact r_ireturn gX3_traceAt_0.2.2.2.2.2.2.2.2.2.2.2.2.1 rfl rfl
    · refine r_aload_n (x := 57) gX3_traceAt_0.2.2.2.2.2.2.1 rfl ?_
      refine r_getA gX3_traceAt_0.2.2.2.2.2.2.2.1 (fa_3_15_57 hE) ?_
      refine r_iload_n (x := a1) gX3_traceAt_0.2.2.2.2.2.2.2.2.1 rfl ?_
      refine r_iaload gX3_traceAt_0.2.2.2.2.2.2.2.2.2.1 (ar_59 hE) ?_
      refine r_goto (t := 22) gX3_traceAt_0.2.2.2.2.2.2.2.2.2.2.1 rfl ?_
      exact r_ireturn gX3_traceAt_0.2.2.2.2.2.2.2.2.2.2.2.2.1 rfl rfl
def b_X11_trace_15 (q : SS)  : Option Int32 :=
  some (-1 : Int32)
theorem rb_X11_trace_15 {E : EE} (hE : GE E) (q : SS)  : R E (κi E q) 3 180 15 [] [] q (b_X11_trace_15 q) := by
  unfold b_X11_trace_15
  refine r_iconst (v := (-1 : Int32)) gX11_trace_0.2.2.2.2.2.2.2.1 rfl ?_
  refine r_goto (t := 27) gX11_trace_0.2.2.2.2.2.2.2.2.1 rfl ?_
  exact r_ireturn gX11_trace_0.2.2.2.2.2.2.2.2.2.2.2.2.2.1 rfl rfl
def f_X11_trace (q : SS) (a1 : Int32) : Option Int32 :=
  if a1 < 0 then
  (b_X11_trace_15 q)
  else
  ((f_X3_traced q).bind fun r1 =>
  if a1 < r1 then
  ((f_X3_traceAt q a1).bind fun r2 =>
  some r2)
  else
  (b_X11_trace_15 q))
theorem e_X11_trace {E : EE} (hE : GE E) (q : SS) (a1 : Int32) : R E (κi E q) 3 180 0 [(0, .ref 0), (1, .int a1)] [] q (f_X11_trace q a1) := by
  unfold f_X11_trace
  refine r_iload_n (x := a1) gX11_trace_0.1 rfl ?_
  refine r_if_lt (t := 15) gX11_trace_0.2.1 rfl (fun h4 => ?_) (fun h4 => ?_)
  · exact r_sub (L' := []) sub_n (rb_X11_trace_15 hE q)
  · refine r_iload_n (x := a1) gX11_trace_0.2.2.1 rfl ?_
    refine r_aload_n (x := 0) gX11_trace_0.2.2.2.1 rfl ?_
    refine r_getA gX11_trace_0.2.2.2.2.1 (fa_11_90_0 hE) ?_
    refine r_calli (k := 0) (idx := 344) (y := 34) (as := [.ref 57]) (rest := [.int a1]) (L0 := [(0, .ref 57)]) gX11_trace_0.2.2.2.2.2.1 rfl rfl rfl rfl rfl (vok_v (ob_57 hE) rfl) rfl (r_dep (by decide) (e_X3_traced hE q)) (fun r1 => ?_)
    refine r_icmp_lt (t := 19) gX11_trace_0.2.2.2.2.2.2.1 rfl (fun h3 => ?_) (fun h3 => ?_)
    · refine r_aload_n (x := 0) gX11_trace_0.2.2.2.2.2.2.2.2.2.1 rfl ?_
      refine r_getA gX11_trace_0.2.2.2.2.2.2.2.2.2.2.1 (fa_11_90_0 hE) ?_
      refine r_iload_n (x := a1) gX11_trace_0.2.2.2.2.2.2.2.2.2.2.2.1 rfl ?_
      refine r_calli (k := 0) (idx := 347) (y := 35) (as := [.ref 57, .int a1]) (rest := []) (L0 := [(0, .ref 57), (1, .int a1)]) gX11_trace_0.2.2.2.2.2.2.2.2.2.2.2.2.1 rfl rfl rfl rfl rfl (vok_v (ob_57 hE) rfl) rfl (r_dep (by decide) (e_X3_traceAt hE q a1)) (fun r2 => ?_)
      exact r_ireturn gX11_trace_0.2.2.2.2.2.2.2.2.2.2.2.2.2.1 rfl rfl
    · exact r_sub (L' := []) sub_n (rb_X11_trace_15 hE q)
def f_X12_trace (q : SS) (a1 : Int32) : Option Int32 :=
  if a1 < 0 then
  (some (-1 : Int32))
  else
  (if (q.1 60 54) ≤ a1 then
  (some (-1 : Int32))
  else
  (if (24 : Int32) ≤ a1 then
  (some (-1 : Int32))
  else
  (if vin a1 24 then
  some (q.1 88 a1.toNatClampNeg)
  else none)))
theorem e_X12_trace {E : EE} (hE : GE E) (q : SS) (a1 : Int32) : R E (κi E q) 0 272 0 [(0, .ref 60), (1, .int a1)] [] q (f_X12_trace q a1) := by
  unfold f_X12_trace
  refine r_iload_n (x := a1) gX12_trace_0.1 rfl ?_
  refine r_if_lt (t := 27) gX12_trace_0.2.1 rfl (fun h3 => ?_) (fun h3 => ?_)
  · refine r_iconst (v := (-1 : Int32)) gX12_trace_0.2.2.2.2.2.2.2.2.2.2.2.2.2.2.1 rfl ?_
    exact r_ireturn gX12_trace_0.2.2.2.2.2.2.2.2.2.2.2.2.2.2.2.1 rfl rfl
  · refine r_iload_n (x := a1) gX12_trace_0.2.2.1 rfl ?_
    refine r_aload_n (x := 60) gX12_trace_0.2.2.2.1 rfl ?_
    refine r_getI gX12_trace_0.2.2.2.2.1 (ff_12_368_60 hE) (by decide) ?_
    refine r_icmp_ge (t := 27) gX12_trace_0.2.2.2.2.2.1 rfl (fun h2 => ?_) (fun h2 => ?_)
    · refine r_iconst (v := (-1 : Int32)) gX12_trace_0.2.2.2.2.2.2.2.2.2.2.2.2.2.2.1 rfl ?_
      exact r_ireturn gX12_trace_0.2.2.2.2.2.2.2.2.2.2.2.2.2.2.2.1 rfl rfl
    · refine r_iload_n (x := a1) gX12_trace_0.2.2.2.2.2.2.1 rfl ?_
      refine r_bipush (v := (24 : Int32)) gX12_trace_0.2.2.2.2.2.2.2.1 rfl ?_
      refine r_icmp_ge (t := 27) gX12_trace_0.2.2.2.2.2.2.2.2.1 rfl (fun h1 => ?_) (fun h1 => ?_)
      · refine r_iconst (v := (-1 : Int32)) gX12_trace_0.2.2.2.2.2.2.2.2.2.2.2.2.2.2.1 rfl ?_
        exact r_ireturn gX12_trace_0.2.2.2.2.2.2.2.2.2.2.2.2.2.2.2.1 rfl rfl
      · refine r_aload_n (x := 60) gX12_trace_0.2.2.2.2.2.2.2.2.2.1 rfl ?_
        refine r_getA gX12_trace_0.2.2.2.2.2.2.2.2.2.2.1 (fa_12_95_60 hE) ?_
        refine r_iload_n (x := a1) gX12_trace_0.2.2.2.2.2.2.2.2.2.2.2.1 rfl ?_
        refine r_iaload gX12_trace_0.2.2.2.2.2.2.2.2.2.2.2.2.1 (ar_88 hE) ?_
        refine r_goto (t := 28) gX12_trace_0.2.2.2.2.2.2.2.2.2.2.2.2.2.1 rfl ?_
        exact r_ireturn gX12_trace_0.2.2.2.2.2.2.2.2.2.2.2.2.2.2.2.1 rfl rfl
def b_X3_ownerOf_4 (q : SS) : Int32 → Int32 → Int32 → Option Int32 :=
  fx3 (fun (rec_4 : Int32 → Int32 → Int32 → Option Int32) (l1 : Int32) (l2 : Int32) (l3 : Int32) =>
  if (8 : Int32) ≤ l3 then
  (some (-1 : Int32))
  else
  ((f_X3_isKind q l2).bind fun r1 =>
  if r1 = 0 then
  (some (-1 : Int32))
  else
  (if vin ((l2 * (4 : Int32)) + l1) 32 then
  if (stV 2 ((l2 * (4 : Int32)) + l1).toNatClampNeg) = 0 then
  (if vin l2 8 then
  nm (stV 1 l2.toNatClampNeg) fun v2 =>
  rec_4 l1 v2 (l3 + (1 : Int32))
  else none)
  else
  (some l2)
  else none))) FU
theorem rb_X3_ownerOf_4 {E : EE} (hE : GE E) (q : SS) (l1 : Int32) (l2 : Int32) (l3 : Int32) : R E (κi E q) 1 38 4 [(1, .int l1), (2, .int l2), (3, .int l3)] [] q (b_X3_ownerOf_4 q l1 l2 l3) := by
  unfold b_X3_ownerOf_4
  refine fx3_ok (P := fun l1 l2 l3 o => R E (κi E q) 1 38 4 [(1, .int l1), (2, .int l2), (3, .int l3)] [] q o) (fun _ _ _ => r_no) (fun rec_4 hrec_4 l1 l2 l3 => ?_) _ _ _ _
  refine r_iload_n (x := l3) gX3_ownerOf_0.2.2.2.2.1 rfl ?_
  refine r_bipush (v := (8 : Int32)) gX3_ownerOf_0.2.2.2.2.2.1 rfl ?_
  refine r_icmp_ge (t := 43) gX3_ownerOf_0.2.2.2.2.2.2.1 rfl (fun h5 => ?_) (fun h5 => ?_)
  · refine r_iconst (v := (-1 : Int32)) gX3_ownerOf_25.2.2.2.2.2.2.2.2.2.2.1 rfl ?_
    exact r_ireturn gX3_ownerOf_25.2.2.2.2.2.2.2.2.2.2.2.1 rfl rfl
  · refine r_iload_n (x := l2) gX3_ownerOf_0.2.2.2.2.2.2.2.1 rfl ?_
    refine r_calli (k := 2) (idx := 18) (y := 27) (as := [.int l2]) (rest := []) (L0 := [(0, .int l2)]) gX3_ownerOf_0.2.2.2.2.2.2.2.2.1 rfl rfl rfl rfl rfl vok_s rfl (r_dep (by decide) (e_X3_isKind hE q l2)) (fun r1 => ?_)
    refine r_if_eq (t := 43) gX3_ownerOf_0.2.2.2.2.2.2.2.2.2.1 rfl (fun h4 => ?_) (fun h4 => ?_)
    · refine r_iconst (v := (-1 : Int32)) gX3_ownerOf_25.2.2.2.2.2.2.2.2.2.2.1 rfl ?_
      exact r_ireturn gX3_ownerOf_25.2.2.2.2.2.2.2.2.2.2.2.1 rfl rfl
    · refine r_gets (j := 2) gX3_ownerOf_0.2.2.2.2.2.2.2.2.2.2.1 rfl ?_
      refine r_iload_n (x := l2) gX3_ownerOf_0.2.2.2.2.2.2.2.2.2.2.2.1 rfl ?_
      refine r_iconst (v := (4 : Int32)) gX3_ownerOf_0.2.2.2.2.2.2.2.2.2.2.2.2.1 rfl ?_
      refine r_imul gX3_ownerOf_0.2.2.2.2.2.2.2.2.2.2.2.2.2.1 ?_
      refine r_iload_n (x := l1) gX3_ownerOf_0.2.2.2.2.2.2.2.2.2.2.2.2.2.2.1 rfl ?_
      refine r_iadd gX3_ownerOf_0.2.2.2.2.2.2.2.2.2.2.2.2.2.2.2.1 ?_
      refine r_stload (n := 32) gX3_ownerOf_25.1 rfl rfl (by decide) ?_
      refine r_if_eq (t := 31) gX3_ownerOf_25.2.1 rfl (fun h3 => ?_) (fun h3 => ?_)
      · refine r_gets (j := 1) gX3_ownerOf_25.2.2.2.2.1 rfl ?_
        refine r_iload_n (x := l2) gX3_ownerOf_25.2.2.2.2.2.1 rfl ?_
        refine r_stload (n := 8) gX3_ownerOf_25.2.2.2.2.2.2.1 rfl rfl (by decide) ?_
        refine r_nmI fun v2 _ => ?_
        refine r_istore_n (L2 := [(1, .int l1), (2, .int v2), (3, .int l3)]) gX3_ownerOf_25.2.2.2.2.2.2.2.1 rfl rfl ?_
        refine r_iinc (x := l3) (v := (l3 + (1 : Int32))) (L2 := [(1, .int l1), (2, .int v2), (3, .int (l3 + (1 : Int32)))]) gX3_ownerOf_25.2.2.2.2.2.2.2.2.1 rfl rfl rfl rfl ?_
        refine r_goto (t := 4) gX3_ownerOf_25.2.2.2.2.2.2.2.2.2.1 rfl ?_
        exact r_sub (L' := [(1, .int l1), (2, .int v2), (3, .int (l3 + (1 : Int32)))]) (sub_c rfl (sub_c rfl (sub_c rfl sub_n))) (hrec_4 l1 v2 (l3 + (1 : Int32)))
      · refine r_iload_n (x := l2) gX3_ownerOf_25.2.2.1 rfl ?_
        exact r_ireturn gX3_ownerOf_25.2.2.2.1 rfl rfl
def f_X3_ownerOf (q : SS) (a0 : Int32) (a1 : Int32) : Option Int32 :=
  b_X3_ownerOf_4 q a1 a0 (0 : Int32)
theorem e_X3_ownerOf {E : EE} (hE : GE E) (q : SS) (a0 : Int32) (a1 : Int32) : R E (κi E q) 1 38 0 [(0, .int a0), (1, .int a1)] [] q (f_X3_ownerOf q a0 a1) := by
  unfold f_X3_ownerOf
  refine r_iload_n (x := a0) gX3_ownerOf_0.1 rfl ?_
  refine r_istore_n (L2 := [(0, .int a0), (1, .int a1), (2, .int a0)]) gX3_ownerOf_0.2.1 rfl rfl ?_
  refine r_iconst (v := (0 : Int32)) gX3_ownerOf_0.2.2.1 rfl ?_
  refine r_istore_n (L2 := [(0, .int a0), (1, .int a1), (2, .int a0), (3, .int (0 : Int32))]) gX3_ownerOf_0.2.2.2.1 rfl rfl ?_
  exact r_sub (L' := [(1, .int a1), (2, .int a0), (3, .int (0 : Int32))]) (sub_c rfl (sub_c rfl (sub_c rfl sub_n))) (rb_X3_ownerOf_4 hE q a1 a0 (0 : Int32))
def b_X3_noteBody_19 (q : SS)  : Option SS :=
  nm (sI q 57 3 ((q.1 57 3) + (1 : Int32))) fun q1 =>
  some q1
theorem rb_X3_noteBody_19 {E : EE} (hE : GE E) (q : SS)  : R E (κV E) 0 37 19 [(0, .ref 57)] [] q (b_X3_noteBody_19 q) := by
  unfold b_X3_noteBody_19
  refine r_aload_n (x := 57) gX3_noteBody_0.2.2.2.2.2.2.2.2.2.2.1 rfl ?_
  refine r_dup gX3_noteBody_0.2.2.2.2.2.2.2.2.2.2.2.1 rfl ?_
  refine r_getI gX3_noteBody_0.2.2.2.2.2.2.2.2.2.2.2.2.1 (ff_3_32_57 hE) (by decide) ?_
  refine r_iconst (v := (1 : Int32)) gX3_noteBody_0.2.2.2.2.2.2.2.2.2.2.2.2.2.1 rfl ?_
  refine r_iadd gX3_noteBody_0.2.2.2.2.2.2.2.2.2.2.2.2.2.2.1 ?_
  refine r_putI gX3_noteBody_0.2.2.2.2.2.2.2.2.2.2.2.2.2.2.2.1 (ff_3_32_57 hE) ?_
  refine r_nmS fun q1 _ => ?_
  exact r_return gX3_noteBody_29.1 rfl rfl
def f_X3_noteBody (q : SS) (a1 : Int32) : Option SS :=
  if (24 : Int32) ≤ (q.1 57 3) then
  (b_X3_noteBody_19 q)
  else
  (if vin (q.1 57 3) 24 then
  nm (sI q 59 (q.1 57 3).toNatClampNeg a1) fun q2 =>
  b_X3_noteBody_19 q2
  else none)
theorem e_X3_noteBody {E : EE} (hE : GE E) (q : SS) (a1 : Int32) : R E (κV E) 0 37 0 [(0, .ref 57), (1, .int a1)] [] q (f_X3_noteBody q a1) := by
  unfold f_X3_noteBody
  refine r_aload_n (x := 57) gX3_noteBody_0.1 rfl ?_
  refine r_getI gX3_noteBody_0.2.1 (ff_3_32_57 hE) (by decide) ?_
  refine r_bipush (v := (24 : Int32)) gX3_noteBody_0.2.2.1 rfl ?_
  refine r_icmp_ge (t := 19) gX3_noteBody_0.2.2.2.1 rfl (fun h3 => ?_) (fun h3 => ?_)
  · exact r_sub (L' := [(0, .ref 57)]) (sub_c rfl sub_n) (rb_X3_noteBody_19 hE q)
  · refine r_aload_n (x := 57) gX3_noteBody_0.2.2.2.2.1 rfl ?_
    refine r_getA gX3_noteBody_0.2.2.2.2.2.1 (fa_3_15_57 hE) ?_
    refine r_aload_n (x := 57) gX3_noteBody_0.2.2.2.2.2.2.1 rfl ?_
    refine r_getI gX3_noteBody_0.2.2.2.2.2.2.2.1 (ff_3_32_57 hE) (by decide) ?_
    refine r_iload_n (x := a1) gX3_noteBody_0.2.2.2.2.2.2.2.2.1 rfl ?_
    refine r_iastore gX3_noteBody_0.2.2.2.2.2.2.2.2.2.1 (ar_59 hE) ?_
    refine r_nmS fun q2 _ => ?_
    exact r_sub (L' := [(0, .ref 57)]) (sub_c rfl sub_n) (rb_X3_noteBody_19 hE q2)
abbrev GT_X3_perform : Type := (SS → Int32 → Int32 → Int32 → Int32 → Option (Int32 × SS))
def GS_X3_perform (E : EE) (n : Nat) (r : GT_X3_perform) : Prop := (∀ (q : SS) (a1 : Int32) (a2 : Int32) (a3 : Int32) (a4 : Int32), R E (κI E) (2 + n) 39 0 [(0, .ref 57), (1, .int a1), (2, .int a2), (3, .int a3), (4, .int a4)] [] q (r q a1 a2 a3 a4))
def fb_X3_perform (r : GT_X3_perform) (q : SS) (a1 : Int32) (a2 : Int32) (a3 : Int32) (a4 : Int32) : Option (Int32 × SS) :=
  (f_X3_ownerOf q a1 a2).bind fun r1 =>
  if r1 < 0 then
  (some ((0 : Int32), q))
  else
  (if a4 ≤ (40 : Int32) then
  (if vin ((r1 * (4 : Int32)) + a2) 32 then
  nm (stV 2 ((r1 * (4 : Int32)) + a2).toNatClampNeg) fun v2 =>
  (f_X3_kindOf q (q.1 57 4)).bind fun r3 =>
  if vin r1 8 then
  nm (stV 1 r1.toNatClampNeg) fun v4 =>
  nm (a4 + (1 : Int32)) fun v5 =>
  (f_X3_noteBody q v2).bind fun r6 =>
  sw v2 [(1, (some ((a3 + (r6.1 57 4)), r6))), (2, ((r r6 r3 (1 : Int32) a3 v5).bind fun r9 =>
  (r r9.2 r3 (2 : Int32) (1 : Int32) v5).bind fun r10 =>
  some ((r9.1 - r10.1), r10.2))), (10, ((r r6 r3 (0 : Int32) a3 v5).bind fun r12 =>
  some ((r12.1 * (2 : Int32)), r12.2))), (11, (some ((a3 ^^^ (r6.1 57 4)), r6))), (20, ((r r6 v4 (0 : Int32) a3 v5).bind fun r15 =>
  some ((r15.1 + (3 : Int32)), r15.2))), (30, ((r r6 v4 (1 : Int32) a3 v5).bind fun r17 =>
  some ((-r17.1), r17.2))), (40, ((r r6 v4 (2 : Int32) a3 v5).bind fun r19 =>
  some ((r19.1 * (3 : Int32)), r19.2))), (41, ((r r6 v4 (1 : Int32) (a3 + (1 : Int32)) v5).bind fun r21 =>
  some (r21.1, r21.2))), (50, ((r r6 v4 (3 : Int32) a3 v5).bind fun r23 =>
  some ((r23.1 ^^^ (5 : Int32)), r23.2))), (60, ((r r6 v4 (2 : Int32) a3 v5).bind fun r25 =>
  (r r25.2 r3 (0 : Int32) (2 : Int32) v5).bind fun r26 =>
  some ((r25.1 - r26.1), r26.2))), (61, ((r r6 v4 (3 : Int32) a3 v5).bind fun r28 =>
  some ((r28.1 + (1 : Int32)), r28.2))), (70, ((r r6 v4 (0 : Int32) a3 v5).bind fun r30 =>
  some ((r30.1 * (2 : Int32)), r30.2))), (80, ((r r6 v4 (1 : Int32) a3 v5).bind fun r32 =>
  (r r32.2 r3 (2 : Int32) (2 : Int32) v5).bind fun r33 =>
  some ((r32.1 + r33.1), r33.2))), (81, ((r r6 v4 (0 : Int32) a3 v5).bind fun r35 =>
  some ((r35.1 - (1 : Int32)), r35.2)))]
  (some ((0 : Int32), r6))
  else none
  else none)
  else
  (some ((0 : Int32), q)))
theorem eb_X3_perform {E : EE} (hE : GE E) {r : GT_X3_perform} (n : Nat) (hr : GS_X3_perform E n r) (q : SS) (a1 : Int32) (a2 : Int32) (a3 : Int32) (a4 : Int32) : R E (κI E) (2 + n + 1) 39 0 [(0, .ref 57), (1, .int a1), (2, .int a2), (3, .int a3), (4, .int a4)] [] q (fb_X3_perform r q a1 a2 a3 a4) := by
  unfold fb_X3_perform
  refine r_iload_n (x := a1) gX3_perform_0.1 rfl ?_
  refine r_iload_n (x := a2) gX3_perform_0.2.1 rfl ?_
  refine r_calli (k := 2) (idx := 59) (y := 38) (as := [.int a1, .int a2]) (rest := []) (L0 := [(0, .int a1), (1, .int a2)]) gX3_perform_0.2.2.1 rfl rfl rfl rfl rfl vok_s rfl (r_dep (by omega) (e_X3_ownerOf hE q a1 a2)) (fun r1 => ?_)
  refine r_istore (L2 := [(0, .ref 57), (1, .int a1), (2, .int a2), (3, .int a3), (4, .int a4), (5, .int r1)]) gX3_perform_0.2.2.2.1 rfl rfl ?_
  refine r_iload (x := r1) gX3_perform_0.2.2.2.2.1 rfl ?_
  refine r_if_lt (t := 19) gX3_perform_0.2.2.2.2.2.1 rfl (fun h37 => ?_) (fun h37 => ?_)
  · refine r_iconst (v := (0 : Int32)) gX3_perform_0.2.2.2.2.2.2.2.2.2.1 rfl ?_
    exact r_ireturn gX3_perform_0.2.2.2.2.2.2.2.2.2.2.1 rfl rfl
  · refine r_iload (x := a4) gX3_perform_0.2.2.2.2.2.2.1 rfl ?_
    refine r_bipush (v := (40 : Int32)) gX3_perform_0.2.2.2.2.2.2.2.1 rfl ?_
    refine r_icmp_le (t := 21) gX3_perform_0.2.2.2.2.2.2.2.2.1 rfl (fun h36 => ?_) (fun h36 => ?_)
    · refine r_gets (j := 2) gX3_perform_0.2.2.2.2.2.2.2.2.2.2.2.1 rfl ?_
      refine r_iload (x := r1) gX3_perform_0.2.2.2.2.2.2.2.2.2.2.2.2.1 rfl ?_
      refine r_iconst (v := (4 : Int32)) gX3_perform_0.2.2.2.2.2.2.2.2.2.2.2.2.2.1 rfl ?_
      refine r_imul gX3_perform_0.2.2.2.2.2.2.2.2.2.2.2.2.2.2.1 ?_
      refine r_iload_n (x := a2) gX3_perform_0.2.2.2.2.2.2.2.2.2.2.2.2.2.2.2.1 rfl ?_
      refine r_iadd gX3_perform_29.1 ?_
      refine r_stload (n := 32) gX3_perform_29.2.1 rfl rfl (by decide) ?_
      refine r_nmI fun v2 _ => ?_
      refine r_istore (L2 := [(0, .ref 57), (1, .int a1), (2, .int a2), (3, .int a3), (4, .int a4), (5, .int r1), (6, .int v2)]) gX3_perform_29.2.2.1 rfl rfl ?_
      refine r_aload_n (x := 57) gX3_perform_29.2.2.2.1 rfl ?_
      refine r_aload_n (x := 57) gX3_perform_29.2.2.2.2.1 rfl ?_
      refine r_getI gX3_perform_29.2.2.2.2.2.1 (ff_3_45_57 hE) (by decide) ?_
      refine r_calli (k := 0) (idx := 48) (y := 30) (as := [.ref 57, .int (q.1 57 4)]) (rest := []) (L0 := [(0, .ref 57), (1, .int (q.1 57 4))]) gX3_perform_29.2.2.2.2.2.2.1 rfl rfl rfl rfl rfl (vok_v (ob_57 hE) rfl) rfl (r_dep (by omega) (e_X3_kindOf hE q (q.1 57 4))) (fun r3 => ?_)
      refine r_istore (L2 := [(0, .ref 57), (1, .int a1), (2, .int a2), (3, .int a3), (4, .int a4), (5, .int r1), (6, .int v2), (7, .int r3)]) gX3_perform_29.2.2.2.2.2.2.2.1 rfl rfl ?_
      refine r_gets (j := 1) gX3_perform_29.2.2.2.2.2.2.2.2.1 rfl ?_
      refine r_iload (x := r1) gX3_perform_29.2.2.2.2.2.2.2.2.2.1 rfl ?_
      refine r_stload (n := 8) gX3_perform_29.2.2.2.2.2.2.2.2.2.2.1 rfl rfl (by decide) ?_
      refine r_nmI fun v4 _ => ?_
      refine r_istore (L2 := [(0, .ref 57), (1, .int a1), (2, .int a2), (3, .int a3), (4, .int a4), (5, .int r1), (6, .int v2), (7, .int r3), (8, .int v4)]) gX3_perform_29.2.2.2.2.2.2.2.2.2.2.2.1 rfl rfl ?_
      refine r_iload (x := a4) gX3_perform_29.2.2.2.2.2.2.2.2.2.2.2.2.1 rfl ?_
      refine r_iconst (v := (1 : Int32)) gX3_perform_29.2.2.2.2.2.2.2.2.2.2.2.2.2.1 rfl ?_
      refine r_iadd gX3_perform_29.2.2.2.2.2.2.2.2.2.2.2.2.2.2.1 ?_
      refine r_nmI fun v5 _ => ?_
      refine r_istore (L2 := [(0, .ref 57), (1, .int a1), (2, .int a2), (3, .int a3), (4, .int a4), (5, .int r1), (6, .int v2), (7, .int r3), (8, .int v4), (9, .int v5)]) gX3_perform_29.2.2.2.2.2.2.2.2.2.2.2.2.2.2.2.1 rfl rfl ?_
      refine r_aload_n (x := 57) gX3_perform_57.1 rfl ?_
      refine r_iload (x := v2) gX3_perform_57.2.1 rfl ?_
      refine r_callV (k := 0) (idx := 62) (y := 37) (as := [.ref 57, .int v2]) (rest := []) (L0 := [(0, .ref 57), (1, .int v2)]) gX3_perform_57.2.2.1 rfl rfl rfl rfl rfl (vok_v (ob_57 hE) rfl) rfl (r_dep (by omega) (e_X3_noteBody hE q v2)) (fun r6 => ?_)
      refine r_iload (x := v2) gX3_perform_57.2.2.2.1 rfl ?_
      refine r_sw1 (fun h7 => ?_) (fun h7 => ?_)
      · refine r_jmp (t := 188) dX3_perform_65 rfl (by rw [h7]; rfl) ?_
        refine r_iload_n (x := a3) gX3_perform_188.1 rfl ?_
        refine r_aload_n (x := 57) gX3_perform_188.2.1 rfl ?_
        refine r_getI gX3_perform_188.2.2.1 (ff_3_45_57 hE) (by decide) ?_
        refine r_iadd gX3_perform_188.2.2.2.1 ?_
        exact r_ireturn gX3_perform_188.2.2.2.2.1 rfl rfl
      refine r_sw1 (fun h8 => ?_) (fun h8 => ?_)
      · refine r_jmp (t := 195) dX3_perform_65 rfl (by rw [h8]; rfl) ?_
        refine r_aload_n (x := 57) gX3_perform_188.2.2.2.2.2.1 rfl ?_
        refine r_iload (x := r3) gX3_perform_188.2.2.2.2.2.2.1 rfl ?_
        refine r_iconst (v := (1 : Int32)) gX3_perform_188.2.2.2.2.2.2.2.1 rfl ?_
        refine r_iload_n (x := a3) gX3_perform_188.2.2.2.2.2.2.2.2.1 rfl ?_
        refine r_iload (x := v5) gX3_perform_188.2.2.2.2.2.2.2.2.2.1 rfl ?_
        refine r_callI (k := 2) (idx := 52) (y := 39) (as := [.ref 57, .int r3, .int (1 : Int32), .int a3, .int v5]) (rest := []) (L0 := [(0, .ref 57), (1, .int r3), (2, .int (1 : Int32)), (3, .int a3), (4, .int v5)]) gX3_perform_188.2.2.2.2.2.2.2.2.2.2.1 rfl rfl rfl rfl rfl vok_s rfl (hr r6 r3 (1 : Int32) a3 v5) (fun r9 => ?_)
        refine r_aload_n (x := 57) gX3_perform_188.2.2.2.2.2.2.2.2.2.2.2.1 rfl ?_
        refine r_iload (x := r3) gX3_perform_188.2.2.2.2.2.2.2.2.2.2.2.2.1 rfl ?_
        refine r_iconst (v := (2 : Int32)) gX3_perform_188.2.2.2.2.2.2.2.2.2.2.2.2.2.1 rfl ?_
        refine r_iconst (v := (1 : Int32)) gX3_perform_188.2.2.2.2.2.2.2.2.2.2.2.2.2.2.1 rfl ?_
        refine r_iload (x := v5) gX3_perform_188.2.2.2.2.2.2.2.2.2.2.2.2.2.2.2.1 rfl ?_
        refine r_callI (k := 2) (idx := 52) (y := 39) (as := [.ref 57, .int r3, .int (2 : Int32), .int (1 : Int32), .int v5]) (rest := [.int r9.1]) (L0 := [(0, .ref 57), (1, .int r3), (2, .int (2 : Int32)), (3, .int (1 : Int32)), (4, .int v5)]) gX3_perform_212.1 rfl rfl rfl rfl rfl vok_s rfl (hr r9.2 r3 (2 : Int32) (1 : Int32) v5) (fun r10 => ?_)
        refine r_isub gX3_perform_212.2.1 ?_
        exact r_ireturn gX3_perform_212.2.2.1 rfl rfl
      refine r_sw1 (fun h11 => ?_) (fun h11 => ?_)
      · refine r_jmp (t := 217) dX3_perform_65 rfl (by rw [h11]; rfl) ?_
        refine r_aload_n (x := 57) gX3_perform_212.2.2.2.1 rfl ?_
        refine r_iload (x := r3) gX3_perform_212.2.2.2.2.1 rfl ?_
        refine r_iconst (v := (0 : Int32)) gX3_perform_212.2.2.2.2.2.1 rfl ?_
        refine r_iload_n (x := a3) gX3_perform_212.2.2.2.2.2.2.1 rfl ?_
        refine r_iload (x := v5) gX3_perform_212.2.2.2.2.2.2.2.1 rfl ?_
        refine r_callI (k := 2) (idx := 52) (y := 39) (as := [.ref 57, .int r3, .int (0 : Int32), .int a3, .int v5]) (rest := []) (L0 := [(0, .ref 57), (1, .int r3), (2, .int (0 : Int32)), (3, .int a3), (4, .int v5)]) gX3_perform_212.2.2.2.2.2.2.2.2.1 rfl rfl rfl rfl rfl vok_s rfl (hr r6 r3 (0 : Int32) a3 v5) (fun r12 => ?_)
        refine r_iconst (v := (2 : Int32)) gX3_perform_212.2.2.2.2.2.2.2.2.2.1 rfl ?_
        refine r_imul gX3_perform_212.2.2.2.2.2.2.2.2.2.2.1 ?_
        exact r_ireturn gX3_perform_212.2.2.2.2.2.2.2.2.2.2.2.1 rfl rfl
      refine r_sw1 (fun h13 => ?_) (fun h13 => ?_)
      · refine r_jmp (t := 230) dX3_perform_65 rfl (by rw [h13]; rfl) ?_
        refine r_iload_n (x := a3) gX3_perform_212.2.2.2.2.2.2.2.2.2.2.2.2.1 rfl ?_
        refine r_aload_n (x := 57) gX3_perform_212.2.2.2.2.2.2.2.2.2.2.2.2.2.1 rfl ?_
        refine r_getI gX3_perform_212.2.2.2.2.2.2.2.2.2.2.2.2.2.2.1 (ff_3_45_57 hE) (by decide) ?_
        refine r_ixor gX3_perform_212.2.2.2.2.2.2.2.2.2.2.2.2.2.2.2.1 ?_
        exact r_ireturn gX3_perform_236.1 rfl rfl
      refine r_sw1 (fun h14 => ?_) (fun h14 => ?_)
      · refine r_jmp (t := 237) dX3_perform_65 rfl (by rw [h14]; rfl) ?_
        refine r_aload_n (x := 57) gX3_perform_236.2.1 rfl ?_
        refine r_iload (x := v4) gX3_perform_236.2.2.1 rfl ?_
        refine r_iconst (v := (0 : Int32)) gX3_perform_236.2.2.2.1 rfl ?_
        refine r_iload_n (x := a3) gX3_perform_236.2.2.2.2.1 rfl ?_
        refine r_iload (x := v5) gX3_perform_236.2.2.2.2.2.1 rfl ?_
        refine r_callI (k := 2) (idx := 52) (y := 39) (as := [.ref 57, .int v4, .int (0 : Int32), .int a3, .int v5]) (rest := []) (L0 := [(0, .ref 57), (1, .int v4), (2, .int (0 : Int32)), (3, .int a3), (4, .int v5)]) gX3_perform_236.2.2.2.2.2.2.1 rfl rfl rfl rfl rfl vok_s rfl (hr r6 v4 (0 : Int32) a3 v5) (fun r15 => ?_)
        refine r_iconst (v := (3 : Int32)) gX3_perform_236.2.2.2.2.2.2.2.1 rfl ?_
        refine r_iadd gX3_perform_236.2.2.2.2.2.2.2.2.1 ?_
        exact r_ireturn gX3_perform_236.2.2.2.2.2.2.2.2.2.1 rfl rfl
      refine r_sw1 (fun h16 => ?_) (fun h16 => ?_)
      · refine r_jmp (t := 250) dX3_perform_65 rfl (by rw [h16]; rfl) ?_
        refine r_aload_n (x := 57) gX3_perform_236.2.2.2.2.2.2.2.2.2.2.1 rfl ?_
        refine r_iload (x := v4) gX3_perform_236.2.2.2.2.2.2.2.2.2.2.2.1 rfl ?_
        refine r_iconst (v := (1 : Int32)) gX3_perform_236.2.2.2.2.2.2.2.2.2.2.2.2.1 rfl ?_
        refine r_iload_n (x := a3) gX3_perform_236.2.2.2.2.2.2.2.2.2.2.2.2.2.1 rfl ?_
        refine r_iload (x := v5) gX3_perform_236.2.2.2.2.2.2.2.2.2.2.2.2.2.2.1 rfl ?_
        refine r_callI (k := 2) (idx := 52) (y := 39) (as := [.ref 57, .int v4, .int (1 : Int32), .int a3, .int v5]) (rest := []) (L0 := [(0, .ref 57), (1, .int v4), (2, .int (1 : Int32)), (3, .int a3), (4, .int v5)]) gX3_perform_236.2.2.2.2.2.2.2.2.2.2.2.2.2.2.2.1 rfl rfl rfl rfl rfl vok_s rfl (hr r6 v4 (1 : Int32) a3 v5) (fun r17 => ?_)
        refine r_ineg gX3_perform_260.1 ?_
        exact r_ireturn gX3_perform_260.2.1 rfl rfl
      refine r_sw1 (fun h18 => ?_) (fun h18 => ?_)
      · refine r_jmp (t := 262) dX3_perform_65 rfl (by rw [h18]; rfl) ?_
        refine r_aload_n (x := 57) gX3_perform_260.2.2.1 rfl ?_
        refine r_iload (x := v4) gX3_perform_260.2.2.2.1 rfl ?_
        refine r_iconst (v := (2 : Int32)) gX3_perform_260.2.2.2.2.1 rfl ?_
        refine r_iload_n (x := a3) gX3_perform_260.2.2.2.2.2.1 rfl ?_
        refine r_iload (x := v5) gX3_perform_260.2.2.2.2.2.2.1 rfl ?_
        refine r_callI (k := 2) (idx := 52) (y := 39) (as := [.ref 57, .int v4, .int (2 : Int32), .int a3, .int v5]) (rest := []) (L0 := [(0, .ref 57), (1, .int v4), (2, .int (2 : Int32)), (3, .int a3), (4, .int v5)]) gX3_perform_260.2.2.2.2.2.2.2.1 rfl rfl rfl rfl rfl vok_s rfl (hr r6 v4 (2 : Int32) a3 v5) (fun r19 => ?_)
        refine r_iconst (v := (3 : Int32)) gX3_perform_260.2.2.2.2.2.2.2.2.1 rfl ?_
        refine r_imul gX3_perform_260.2.2.2.2.2.2.2.2.2.1 ?_
        exact r_ireturn gX3_perform_260.2.2.2.2.2.2.2.2.2.2.1 rfl rfl
      refine r_sw1 (fun h20 => ?_) (fun h20 => ?_)
      · refine r_jmp (t := 275) dX3_perform_65 rfl (by rw [h20]; rfl) ?_
        refine r_aload_n (x := 57) gX3_perform_260.2.2.2.2.2.2.2.2.2.2.2.1 rfl ?_
        refine r_iload (x := v4) gX3_perform_260.2.2.2.2.2.2.2.2.2.2.2.2.1 rfl ?_
        refine r_iconst (v := (1 : Int32)) gX3_perform_260.2.2.2.2.2.2.2.2.2.2.2.2.2.1 rfl ?_
        refine r_iload_n (x := a3) gX3_perform_260.2.2.2.2.2.2.2.2.2.2.2.2.2.2.1 rfl ?_
        refine r_iconst (v := (1 : Int32)) gX3_perform_260.2.2.2.2.2.2.2.2.2.2.2.2.2.2.2.1 rfl ?_
        refine r_iadd gX3_perform_281.1 ?_
        refine r_iload (x := v5) gX3_perform_281.2.1 rfl ?_
        refine r_callI (k := 2) (idx := 52) (y := 39) (as := [.ref 57, .int v4, .int (1 : Int32), .int (a3 + (1 : Int32)), .int v5]) (rest := []) (L0 := [(0, .ref 57), (1, .int v4), (2, .int (1 : Int32)), (3, .int (a3 + (1 : Int32))), (4, .int v5)]) gX3_perform_281.2.2.1 rfl rfl rfl rfl rfl vok_s rfl (hr r6 v4 (1 : Int32) (a3 + (1 : Int32)) v5) (fun r21 => ?_)
        exact r_ireturn gX3_perform_281.2.2.2.1 rfl rfl
      refine r_sw1 (fun h22 => ?_) (fun h22 => ?_)
      · refine r_jmp (t := 288) dX3_perform_65 rfl (by rw [h22]; rfl) ?_
        refine r_aload_n (x := 57) gX3_perform_281.2.2.2.2.1 rfl ?_
        refine r_iload (x := v4) gX3_perform_281.2.2.2.2.2.1 rfl ?_
        refine r_iconst (v := (3 : Int32)) gX3_perform_281.2.2.2.2.2.2.1 rfl ?_
        refine r_iload_n (x := a3) gX3_perform_281.2.2.2.2.2.2.2.1 rfl ?_
        refine r_iload (x := v5) gX3_perform_281.2.2.2.2.2.2.2.2.1 rfl ?_
        refine r_callI (k := 2) (idx := 52) (y := 39) (as := [.ref 57, .int v4, .int (3 : Int32), .int a3, .int v5]) (rest := []) (L0 := [(0, .ref 57), (1, .int v4), (2, .int (3 : Int32)), (3, .int a3), (4, .int v5)]) gX3_perform_281.2.2.2.2.2.2.2.2.2.1 rfl rfl rfl rfl rfl vok_s rfl (hr r6 v4 (3 : Int32) a3 v5) (fun r23 => ?_)
        refine r_iconst (v := (5 : Int32)) gX3_perform_281.2.2.2.2.2.2.2.2.2.2.1 rfl ?_
        refine r_ixor gX3_perform_281.2.2.2.2.2.2.2.2.2.2.2.1 ?_
        exact r_ireturn gX3_perform_281.2.2.2.2.2.2.2.2.2.2.2.2.1 rfl rfl
      refine r_sw1 (fun h24 => ?_) (fun h24 => ?_)
      · refine r_jmp (t := 301) dX3_perform_65 rfl (by rw [h24]; rfl) ?_
        refine r_aload_n (x := 57) gX3_perform_281.2.2.2.2.2.2.2.2.2.2.2.2.2.1 rfl ?_
        refine r_iload (x := v4) gX3_perform_281.2.2.2.2.2.2.2.2.2.2.2.2.2.2.1 rfl ?_
        refine r_iconst (v := (2 : Int32)) gX3_perform_281.2.2.2.2.2.2.2.2.2.2.2.2.2.2.2.1 rfl ?_
        refine r_iload_n (x := a3) gX3_perform_305.1 rfl ?_
        refine r_iload (x := v5) gX3_perform_305.2.1 rfl ?_
        refine r_callI (k := 2) (idx := 52) (y := 39) (as := [.ref 57, .int v4, .int (2 : Int32), .int a3, .int v5]) (rest := []) (L0 := [(0, .ref 57), (1, .int v4), (2, .int (2 : Int32)), (3, .int a3), (4, .int v5)]) gX3_perform_305.2.2.1 rfl rfl rfl rfl rfl vok_s rfl (hr r6 v4 (2 : Int32) a3 v5) (fun r25 => ?_)
        refine r_aload_n (x := 57) gX3_perform_305.2.2.2.1 rfl ?_
        refine r_iload (x := r3) gX3_perform_305.2.2.2.2.1 rfl ?_
        refine r_iconst (v := (0 : Int32)) gX3_perform_305.2.2.2.2.2.1 rfl ?_
        refine r_iconst (v := (2 : Int32)) gX3_perform_305.2.2.2.2.2.2.1 rfl ?_
        refine r_iload (x := v5) gX3_perform_305.2.2.2.2.2.2.2.1 rfl ?_
        refine r_callI (k := 2) (idx := 52) (y := 39) (as := [.ref 57, .int r3, .int (0 : Int32), .int (2 : Int32), .int v5]) (rest := [.int r25.1]) (L0 := [(0, .ref 57), (1, .int r3), (2, .int (0 : Int32)), (3, .int (2 : Int32)), (4, .int v5)]) gX3_perform_305.2.2.2.2.2.2.2.2.1 rfl rfl rfl rfl rfl vok_s rfl (hr r25.2 r3 (0 : Int32) (2 : Int32) v5) (fun r26 => ?_)
        refine r_isub gX3_perform_305.2.2.2.2.2.2.2.2.2.1 ?_
        exact r_ireturn gX3_perform_305.2.2.2.2.2.2.2.2.2.2.1 rfl rfl
      refine r_sw1 (fun h27 => ?_) (fun h27 => ?_)
      · refine r_jmp (t := 323) dX3_perform_65 rfl (by rw [h27]; rfl) ?_
        refine r_aload_n (x := 57) gX3_perform_305.2.2.2.2.2.2.2.2.2.2.2.1 rfl ?_
        refine r_iload (x := v4) gX3_perform_305.2.2.2.2.2.2.2.2.2.2.2.2.1 rfl ?_
        refine r_iconst (v := (3 : Int32)) gX3_perform_305.2.2.2.2.2.2.2.2.2.2.2.2.2.1 rfl ?_
        refine r_iload_n (x := a3) gX3_perform_305.2.2.2.2.2.2.2.2.2.2.2.2.2.2.1 rfl ?_
        refine r_iload (x := v5) gX3_perform_305.2.2.2.2.2.2.2.2.2.2.2.2.2.2.2.1 rfl ?_
        refine r_callI (k := 2) (idx := 52) (y := 39) (as := [.ref 57, .int v4, .int (3 : Int32), .int a3, .int v5]) (rest := []) (L0 := [(0, .ref 57), (1, .int v4), (2, .int (3 : Int32)), (3, .int a3), (4, .int v5)]) gX3_perform_330.1 rfl rfl rfl rfl rfl vok_s rfl (hr r6 v4 (3 : Int32) a3 v5) (fun r28 => ?_)
        refine r_iconst (v := (1 : Int32)) gX3_perform_330.2.1 rfl ?_
        refine r_iadd gX3_perform_330.2.2.1 ?_
        exact r_ireturn gX3_perform_330.2.2.2.1 rfl rfl
      refine r_sw1 (fun h29 => ?_) (fun h29 => ?_)
      · refine r_jmp (t := 336) dX3_perform_65 rfl (by rw [h29]; rfl) ?_
        refine r_aload_n (x := 57) gX3_perform_330.2.2.2.2.1 rfl ?_
        refine r_iload (x := v4) gX3_perform_330.2.2.2.2.2.1 rfl ?_
        refine r_iconst (v := (0 : Int32)) gX3_perform_330.2.2.2.2.2.2.1 rfl ?_
        refine r_iload_n (x := a3) gX3_perform_330.2.2.2.2.2.2.2.1 rfl ?_
        refine r_iload (x := v5) gX3_perform_330.2.2.2.2.2.2.2.2.1 rfl ?_
        refine r_callI (k := 2) (idx := 52) (y := 39) (as := [.ref 57, .int v4, .int (0 : Int32), .int a3, .int v5]) (rest := []) (L0 := [(0, .ref 57), (1, .int v4), (2, .int (0 : Int32)), (3, .int a3), (4, .int v5)]) gX3_perform_330.2.2.2.2.2.2.2.2.2.1 rfl rfl rfl rfl rfl vok_s rfl (hr r6 v4 (0 : Int32) a3 v5) (fun r30 => ?_)
        refine r_iconst (v := (2 : Int32)) gX3_perform_330.2.2.2.2.2.2.2.2.2.2.1 rfl ?_
        refine r_imul gX3_perform_330.2.2.2.2.2.2.2.2.2.2.2.1 ?_
        exact r_ireturn gX3_perform_330.2.2.2.2.2.2.2.2.2.2.2.2.1 rfl rfl
      refine r_sw1 (fun h31 => ?_) (fun h31 => ?_)
      · refine r_jmp (t := 349) dX3_perform_65 rfl (by rw [h31]; rfl) ?_
        refine r_aload_n (x := 57) gX3_perform_330.2.2.2.2.2.2.2.2.2.2.2.2.2.1 rfl ?_
        refine r_iload (x := v4) gX3_perform_330.2.2.2.2.2.2.2.2.2.2.2.2.2.2.1 rfl ?_
        refine r_iconst (v := (1 : Int32)) gX3_perform_330.2.2.2.2.2.2.2.2.2.2.2.2.2.2.2.1 rfl ?_
        refine r_iload_n (x := a3) gX3_perform_353.1 rfl ?_
        refine r_iload (x := v5) gX3_perform_353.2.1 rfl ?_
        refine r_callI (k := 2) (idx := 52) (y := 39) (as := [.ref 57, .int v4, .int (1 : Int32), .int a3, .int v5]) (rest := []) (L0 := [(0, .ref 57), (1, .int v4), (2, .int (1 : Int32)), (3, .int a3), (4, .int v5)]) gX3_perform_353.2.2.1 rfl rfl rfl rfl rfl vok_s rfl (hr r6 v4 (1 : Int32) a3 v5) (fun r32 => ?_)
        refine r_aload_n (x := 57) gX3_perform_353.2.2.2.1 rfl ?_
        refine r_iload (x := r3) gX3_perform_353.2.2.2.2.1 rfl ?_
        refine r_iconst (v := (2 : Int32)) gX3_perform_353.2.2.2.2.2.1 rfl ?_
        refine r_iconst (v := (2 : Int32)) gX3_perform_353.2.2.2.2.2.2.1 rfl ?_
        refine r_iload (x := v5) gX3_perform_353.2.2.2.2.2.2.2.1 rfl ?_
        refine r_callI (k := 2) (idx := 52) (y := 39) (as := [.ref 57, .int r3, .int (2 : Int32), .int (2 : Int32), .int v5]) (rest := [.int r32.1]) (L0 := [(0, .ref 57), (1, .int r3), (2, .int (2 : Int32)), (3, .int (2 : Int32)), (4, .int v5)]) gX3_perform_353.2.2.2.2.2.2.2.2.1 rfl rfl rfl rfl rfl vok_s rfl (hr r32.2 r3 (2 : Int32) (2 : Int32) v5) (fun r33 => ?_)
        refine r_iadd gX3_perform_353.2.2.2.2.2.2.2.2.2.1 ?_
        exact r_ireturn gX3_perform_353.2.2.2.2.2.2.2.2.2.2.1 rfl rfl
      refine r_sw1 (fun h34 => ?_) (fun h34 => ?_)
      · refine r_jmp (t := 371) dX3_perform_65 rfl (by rw [h34]; rfl) ?_
        refine r_aload_n (x := 57) gX3_perform_353.2.2.2.2.2.2.2.2.2.2.2.1 rfl ?_
        refine r_iload (x := v4) gX3_perform_353.2.2.2.2.2.2.2.2.2.2.2.2.1 rfl ?_
        refine r_iconst (v := (0 : Int32)) gX3_perform_353.2.2.2.2.2.2.2.2.2.2.2.2.2.1 rfl ?_
        refine r_iload_n (x := a3) gX3_perform_353.2.2.2.2.2.2.2.2.2.2.2.2.2.2.1 rfl ?_
        refine r_iload (x := v5) gX3_perform_353.2.2.2.2.2.2.2.2.2.2.2.2.2.2.2.1 rfl ?_
        refine r_callI (k := 2) (idx := 52) (y := 39) (as := [.ref 57, .int v4, .int (0 : Int32), .int a3, .int v5]) (rest := []) (L0 := [(0, .ref 57), (1, .int v4), (2, .int (0 : Int32)), (3, .int a3), (4, .int v5)]) gX3_perform_378.1 rfl rfl rfl rfl rfl vok_s rfl (hr r6 v4 (0 : Int32) a3 v5) (fun r35 => ?_)
        refine r_iconst (v := (1 : Int32)) gX3_perform_378.2.1 rfl ?_
        refine r_isub gX3_perform_378.2.2.1 ?_
        exact r_ireturn gX3_perform_378.2.2.2.1 rfl rfl
      refine r_jmp (t := 384) dX3_perform_65 rfl ?_ ?_
      · exact sw_lk rfl (nq_c h7 (nq_c h8 (nq_c h11 (nq_c h13 (nq_c h14 (nq_c h16 (nq_c h18 (nq_c h20 (nq_c h22 (nq_c h24 (nq_c h27 (nq_c h29 (nq_c h31 (nq_c h34 nq_n)))))))))))))) rfl
      refine r_iconst (v := (0 : Int32)) gX3_perform_378.2.2.2.2.1 rfl ?_
      exact r_ireturn gX3_perform_378.2.2.2.2.2.1 rfl rfl
    · refine r_iconst (v := (0 : Int32)) gX3_perform_0.2.2.2.2.2.2.2.2.2.1 rfl ?_
      exact r_ireturn gX3_perform_0.2.2.2.2.2.2.2.2.2.2.1 rfl rfl
def g_X3_perform : Nat → GT_X3_perform
  | 0 => (fun _ _ _ _ _ => none)
  | n + 1 => (fb_X3_perform (g_X3_perform n))
theorem gs_X3_perform {E : EE} (hE : GE E) : ∀ n, GS_X3_perform E n (g_X3_perform n)
  | 0 => fun _ _ _ _ _ => r_no
  | n + 1 => eb_X3_perform hE n (gs_X3_perform hE n)
def f_X3_perform : SS → Int32 → Int32 → Int32 → Int32 → Option (Int32 × SS) := (g_X3_perform 60)
theorem e_X3_perform {E : EE} (hE : GE E) : ∀ (q : SS) (a1 : Int32) (a2 : Int32) (a3 : Int32) (a4 : Int32), R E (κI E) 62 39 0 [(0, .ref 57), (1, .int a1), (2, .int a2), (3, .int a3), (4, .int a4)] [] q (f_X3_perform q a1 a2 a3 a4) := (gs_X3_perform hE 60)
def f_X3_begin (q : SS) (a1 : Int32) (a2 : Int32) (a3 : Int32) : Option (Int32 × SS) :=
  nm (sI q 57 3 (0 : Int32)) fun q1 =>
  (f_X3_isBody q1 a1).bind fun r2 =>
  if r2 = 0 then
  (some ((0 : Int32), q1))
  else
  (if a2 < 0 then
  (some ((0 : Int32), q1))
  else
  (if a2 < (4 : Int32) then
  (nm (sI q1 57 4 a1) fun q3 =>
  (f_X3_kindOf q3 a1).bind fun r4 =>
  (f_X3_perform q3 r4 a2 a3 (0 : Int32)).bind fun r5 =>
  some (r5.1, r5.2))
  else
  (some ((0 : Int32), q1))))
theorem e_X3_begin {E : EE} (hE : GE E) (q : SS) (a1 : Int32) (a2 : Int32) (a3 : Int32) : R E (κI E) 63 36 0 [(0, .ref 57), (1, .int a1), (2, .int a2), (3, .int a3)] [] q (f_X3_begin q a1 a2 a3) := by
  unfold f_X3_begin
  refine r_aload_n (x := 57) gX3_begin_0.1 rfl ?_
  refine r_iconst (v := (0 : Int32)) gX3_begin_0.2.1 rfl ?_
  refine r_putI gX3_begin_0.2.2.1 (ff_3_32_57 hE) ?_
  refine r_nmS fun q1 _ => ?_
  refine r_aload_n (x := 57) gX3_begin_0.2.2.2.1 rfl ?_
  refine r_iload_n (x := a1) gX3_begin_0.2.2.2.2.1 rfl ?_
  refine r_calli (k := 0) (idx := 29) (y := 29) (as := [.ref 57, .int a1]) (rest := []) (L0 := [(0, .ref 57), (1, .int a1)]) gX3_begin_0.2.2.2.2.2.1 rfl rfl rfl rfl rfl (vok_v (ob_57 hE) rfl) rfl (r_dep (by decide) (e_X3_isBody hE q1 a1)) (fun r2 => ?_)
  refine r_if_eq (t := 22) gX3_begin_0.2.2.2.2.2.2.1 rfl (fun h8 => ?_) (fun h8 => ?_)
  · refine r_iconst (v := (0 : Int32)) gX3_begin_0.2.2.2.2.2.2.2.2.2.2.2.2.1 rfl ?_
    exact r_ireturn gX3_begin_0.2.2.2.2.2.2.2.2.2.2.2.2.2.1 rfl rfl
  · refine r_iload_n (x := a2) gX3_begin_0.2.2.2.2.2.2.2.1 rfl ?_
    refine r_if_lt (t := 22) gX3_begin_0.2.2.2.2.2.2.2.2.1 rfl (fun h7 => ?_) (fun h7 => ?_)
    · refine r_iconst (v := (0 : Int32)) gX3_begin_0.2.2.2.2.2.2.2.2.2.2.2.2.1 rfl ?_
      exact r_ireturn gX3_begin_0.2.2.2.2.2.2.2.2.2.2.2.2.2.1 rfl rfl
    · refine r_iload_n (x := a2) gX3_begin_0.2.2.2.2.2.2.2.2.2.1 rfl ?_
      refine r_iconst (v := (4 : Int32)) gX3_begin_0.2.2.2.2.2.2.2.2.2.2.1 rfl ?_
      refine r_icmp_lt (t := 24) gX3_begin_0.2.2.2.2.2.2.2.2.2.2.2.1 rfl (fun h6 => ?_) (fun h6 => ?_)
      · refine r_aload_n (x := 57) gX3_begin_0.2.2.2.2.2.2.2.2.2.2.2.2.2.2.1 rfl ?_
        refine r_iload_n (x := a1) gX3_begin_0.2.2.2.2.2.2.2.2.2.2.2.2.2.2.2.1 rfl ?_
        refine r_putI gX3_begin_26.1 (ff_3_45_57 hE) ?_
        refine r_nmS fun q3 _ => ?_
        refine r_aload_n (x := 57) gX3_begin_26.2.1 rfl ?_
        refine r_aload_n (x := 57) gX3_begin_26.2.2.1 rfl ?_
        refine r_iload_n (x := a1) gX3_begin_26.2.2.2.1 rfl ?_
        refine r_calli (k := 0) (idx := 48) (y := 30) (as := [.ref 57, .int a1]) (rest := [.ref 57]) (L0 := [(0, .ref 57), (1, .int a1)]) gX3_begin_26.2.2.2.2.1 rfl rfl rfl rfl rfl (vok_v (ob_57 hE) rfl) rfl (r_dep (by decide) (e_X3_kindOf hE q3 a1)) (fun r4 => ?_)
        refine r_iload_n (x := a2) gX3_begin_26.2.2.2.2.2.1 rfl ?_
        refine r_iload_n (x := a3) gX3_begin_26.2.2.2.2.2.2.1 rfl ?_
        refine r_iconst (v := (0 : Int32)) gX3_begin_26.2.2.2.2.2.2.2.1 rfl ?_
        refine r_callI (k := 2) (idx := 52) (y := 39) (as := [.ref 57, .int r4, .int a2, .int a3, .int (0 : Int32)]) (rest := []) (L0 := [(0, .ref 57), (1, .int r4), (2, .int a2), (3, .int a3), (4, .int (0 : Int32))]) gX3_begin_26.2.2.2.2.2.2.2.2.1 rfl rfl rfl rfl rfl vok_s rfl (r_dep (by decide) (e_X3_perform hE q3 r4 a2 a3 (0 : Int32))) (fun r5 => ?_)
        exact r_ireturn gX3_begin_26.2.2.2.2.2.2.2.2.2.1 rfl rfl
      · refine r_iconst (v := (0 : Int32)) gX3_begin_0.2.2.2.2.2.2.2.2.2.2.2.2.1 rfl ?_
        exact r_ireturn gX3_begin_0.2.2.2.2.2.2.2.2.2.2.2.2.2.1 rfl rfl
def f_X11_act (q : SS) (a1 : Int32) (a2 : Int32) (a3 : Int32) : Option (Int32 × SS) :=
  (f_X3_begin q a1 a2 a3).bind fun r1 =>
  some (r1.1, r1.2)
theorem e_X11_act {E : EE} (hE : GE E) (q : SS) (a1 : Int32) (a2 : Int32) (a3 : Int32) : R E (κI E) 64 179 0 [(0, .ref 0), (1, .int a1), (2, .int a2), (3, .int a3)] [] q (f_X11_act q a1 a2 a3) := by
  unfold f_X11_act
  refine r_aload_n (x := 0) gX11_act_0.1 rfl ?_
  refine r_getA gX11_act_0.2.1 (fa_11_90_0 hE) ?_
  refine r_iload_n (x := a1) gX11_act_0.2.2.1 rfl ?_
  refine r_iload_n (x := a2) gX11_act_0.2.2.2.1 rfl ?_
  refine r_iload_n (x := a3) gX11_act_0.2.2.2.2.1 rfl ?_
  refine r_callI (k := 0) (idx := 342) (y := 36) (as := [.ref 57, .int a1, .int a2, .int a3]) (rest := []) (L0 := [(0, .ref 57), (1, .int a1), (2, .int a2), (3, .int a3)]) gX11_act_0.2.2.2.2.2.1 rfl rfl rfl rfl rfl (vok_v (ob_57 hE) rfl) rfl (r_dep (by decide) (e_X3_begin hE q a1 a2 a3)) (fun r1 => ?_)
  exact r_ireturn gX11_act_0.2.2.2.2.2.2.1 rfl rfl
def b_X12_ran_19 (q : SS)  : Option SS :=
  nm (sI q 60 54 ((q.1 60 54) + (1 : Int32))) fun q1 =>
  some q1
theorem rb_X12_ran_19 {E : EE} (hE : GE E) (q : SS)  : R E (κV E) 0 271 19 [(0, .ref 60)] [] q (b_X12_ran_19 q) := by
  unfold b_X12_ran_19
  refine r_aload_n (x := 60) gX12_ran_0.2.2.2.2.2.2.2.2.2.2.1 rfl ?_
  refine r_dup gX12_ran_0.2.2.2.2.2.2.2.2.2.2.2.1 rfl ?_
  refine r_getI gX12_ran_0.2.2.2.2.2.2.2.2.2.2.2.2.1 (ff_12_368_60 hE) (by decide) ?_
  refine r_iconst (v := (1 : Int32)) gX12_ran_0.2.2.2.2.2.2.2.2.2.2.2.2.2.1 rfl ?_
  refine r_iadd gX12_ran_0.2.2.2.2.2.2.2.2.2.2.2.2.2.2.1 ?_
  refine r_putI gX12_ran_0.2.2.2.2.2.2.2.2.2.2.2.2.2.2.2.1 (ff_12_368_60 hE) ?_
  refine r_nmS fun q1 _ => ?_
  exact r_return gX12_ran_29.1 rfl rfl
def f_X12_ran (q : SS) (a1 : Int32) : Option SS :=
  if (24 : Int32) ≤ (q.1 60 54) then
  (b_X12_ran_19 q)
  else
  (if vin (q.1 60 54) 24 then
  nm (sI q 88 (q.1 60 54).toNatClampNeg a1) fun q2 =>
  b_X12_ran_19 q2
  else none)
theorem e_X12_ran {E : EE} (hE : GE E) (q : SS) (a1 : Int32) : R E (κV E) 0 271 0 [(0, .ref 60), (1, .int a1)] [] q (f_X12_ran q a1) := by
  unfold f_X12_ran
  refine r_aload_n (x := 60) gX12_ran_0.1 rfl ?_
  refine r_getI gX12_ran_0.2.1 (ff_12_368_60 hE) (by decide) ?_
  refine r_bipush (v := (24 : Int32)) gX12_ran_0.2.2.1 rfl ?_
  refine r_icmp_ge (t := 19) gX12_ran_0.2.2.2.1 rfl (fun h3 => ?_) (fun h3 => ?_)
  · exact r_sub (L' := [(0, .ref 60)]) (sub_c rfl sub_n) (rb_X12_ran_19 hE q)
  · refine r_aload_n (x := 60) gX12_ran_0.2.2.2.2.1 rfl ?_
    refine r_getA gX12_ran_0.2.2.2.2.2.1 (fa_12_95_60 hE) ?_
    refine r_aload_n (x := 60) gX12_ran_0.2.2.2.2.2.2.1 rfl ?_
    refine r_getI gX12_ran_0.2.2.2.2.2.2.2.1 (ff_12_368_60 hE) (by decide) ?_
    refine r_iload_n (x := a1) gX12_ran_0.2.2.2.2.2.2.2.2.1 rfl ?_
    refine r_iastore gX12_ran_0.2.2.2.2.2.2.2.2.2.1 (ar_88 hE) ?_
    refine r_nmS fun q2 _ => ?_
    exact r_sub (L' := [(0, .ref 60)]) (sub_c rfl sub_n) (rb_X12_ran_19 hE q2)
def f_X12_plainSlips (q : SS) (a1 : Int32) (a2 : Int32) : Option (Int32 × SS) :=
  (f_X12_ran q (1 : Int32)).bind fun r1 =>
  some ((a2 + a1), r1)
theorem e_X12_plainSlips {E : EE} (hE : GE E) (q : SS) (a1 : Int32) (a2 : Int32) : R E (κI E) 1 275 0 [(0, .ref 60), (1, .int a1), (2, .int a2)] [] q (f_X12_plainSlips q a1 a2) := by
  unfold f_X12_plainSlips
  refine r_aload_n (x := 60) gX12_plainSlips_0.1 rfl ?_
  refine r_iconst (v := (1 : Int32)) gX12_plainSlips_0.2.1 rfl ?_
  refine r_callV (k := 0) (idx := 371) (y := 271) (as := [.ref 60, .int (1 : Int32)]) (rest := []) (L0 := [(0, .ref 60), (1, .int (1 : Int32))]) gX12_plainSlips_0.2.2.1 rfl rfl rfl rfl rfl (vok_v (ob_60 hE) rfl) rfl (r_dep (by decide) (e_X12_ran hE q (1 : Int32))) (fun r1 => ?_)
  refine r_iload_n (x := a2) gX12_plainSlips_0.2.2.2.1 rfl ?_
  refine r_iload_n (x := a1) gX12_plainSlips_0.2.2.2.2.1 rfl ?_
  refine r_iadd gX12_plainSlips_0.2.2.2.2.2.1 ?_
  exact r_ireturn gX12_plainSlips_0.2.2.2.2.2.2.1 rfl rfl
def f_X12_wiseSlips (q : SS) (a1 : Int32) (a2 : Int32) : Option (Int32 × SS) :=
  (f_X12_ran q (70 : Int32)).bind fun r1 =>
  (f_X12_plainSlips r1 a1 a2).bind fun r2 =>
  some ((r2.1 * (2 : Int32)), r2.2)
theorem e_X12_wiseSlips {E : EE} (hE : GE E) (q : SS) (a1 : Int32) (a2 : Int32) : R E (κI E) 2 276 0 [(0, .ref 60), (1, .int a1), (2, .int a2)] [] q (f_X12_wiseSlips q a1 a2) := by
  unfold f_X12_wiseSlips
  refine r_aload_n (x := 60) gX12_wiseSlips_0.1 rfl ?_
  refine r_bipush (v := (70 : Int32)) gX12_wiseSlips_0.2.1 rfl ?_
  refine r_callV (k := 0) (idx := 371) (y := 271) (as := [.ref 60, .int (70 : Int32)]) (rest := []) (L0 := [(0, .ref 60), (1, .int (70 : Int32))]) gX12_wiseSlips_0.2.2.1 rfl rfl rfl rfl rfl (vok_v (ob_60 hE) rfl) rfl (r_dep (by decide) (e_X12_ran hE q (70 : Int32))) (fun r1 => ?_)
  refine r_aload_n (x := 60) gX12_wiseSlips_0.2.2.2.1 rfl ?_
  refine r_iload_n (x := a1) gX12_wiseSlips_0.2.2.2.2.1 rfl ?_
  refine r_iload_n (x := a2) gX12_wiseSlips_0.2.2.2.2.2.1 rfl ?_
  refine r_callI (k := 0) (idx := 375) (y := 275) (as := [.ref 60, .int a1, .int a2]) (rest := []) (L0 := [(0, .ref 60), (1, .int a1), (2, .int a2)]) gX12_wiseSlips_0.2.2.2.2.2.2.1 rfl rfl rfl rfl rfl (vok_v (ob_60 hE) rfl) rfl (r_dep (by decide) (e_X12_plainSlips hE r1 a1 a2)) (fun r2 => ?_)
  refine r_iconst (v := (2 : Int32)) gX12_wiseSlips_0.2.2.2.2.2.2.2.1 rfl ?_
  refine r_imul gX12_wiseSlips_0.2.2.2.2.2.2.2.2.1 ?_
  exact r_ireturn gX12_wiseSlips_0.2.2.2.2.2.2.2.2.2.1 rfl rfl
def f_X12_slipping (q : SS) (a1 : Int32) (a2 : Int32) : Option (Int32 × SS) :=
  if vin a1 50 then
  (f_X12_isUnder q (q.1 87 a1.toNatClampNeg) (1 : Int32)).bind fun r1 =>
  if r1 = 0 then
  (if vin a1 50 then
  if (q.1 87 a1.toNatClampNeg) = (7 : Int32) then
  ((f_X12_ran q (81 : Int32)).bind fun r2 =>
  (f_X12_wiseSlips r2 a1 a2).bind fun r3 =>
  some ((r3.1 - (1 : Int32)), r3.2))
  else
  (if vin a1 50 then
  if (q.1 87 a1.toNatClampNeg) = (6 : Int32) then
  ((f_X12_wiseSlips q a1 a2).bind fun r4 =>
  some (r4.1, r4.2))
  else
  ((f_X12_plainSlips q a1 a2).bind fun r5 =>
  some (r5.1, r5.2))
  else none)
  else none)
  else
  ((f_X12_ran q (20 : Int32)).bind fun r8 =>
  (f_X12_plainSlips r8 a1 a2).bind fun r9 =>
  some ((r9.1 + (3 : Int32)), r9.2))
  else none
theorem e_X12_slipping {E : EE} (hE : GE E) (q : SS) (a1 : Int32) (a2 : Int32) : R E (κI E) 3 277 0 [(0, .ref 60), (1, .int a1), (2, .int a2)] [] q (f_X12_slipping q a1 a2) := by
  unfold f_X12_slipping
  refine r_aload_n (x := 60) gX12_slipping_0.1 rfl ?_
  refine r_getA gX12_slipping_0.2.1 (fa_12_92_60 hE) ?_
  refine r_iload_n (x := a1) gX12_slipping_0.2.2.1 rfl ?_
  refine r_iaload gX12_slipping_0.2.2.2.1 (ar_87 hE) ?_
  refine r_iconst (v := (1 : Int32)) gX12_slipping_0.2.2.2.2.1 rfl ?_
  refine r_calli (k := 2) (idx := 378) (y := 274) (as := [.int (q.1 87 a1.toNatClampNeg), .int (1 : Int32)]) (rest := []) (L0 := [(0, .int (q.1 87 a1.toNatClampNeg)), (1, .int (1 : Int32))]) gX12_slipping_0.2.2.2.2.2.1 rfl rfl rfl rfl rfl vok_s rfl (r_dep (by decide) (e_X12_isUnder hE q (q.1 87 a1.toNatClampNeg) (1 : Int32))) (fun r1 => ?_)
  refine r_if_eq (t := 28) gX12_slipping_0.2.2.2.2.2.2.1 rfl (fun h10 => ?_) (fun h10 => ?_)
  · refine r_aload_n (x := 60) gX12_slipping_27.2.1 rfl ?_
    refine r_getA gX12_slipping_27.2.2.1 (fa_12_92_60 hE) ?_
    refine r_iload_n (x := a1) gX12_slipping_27.2.2.2.1 rfl ?_
    refine r_iaload gX12_slipping_27.2.2.2.2.1 (ar_87 hE) ?_
    refine r_bipush (v := (7 : Int32)) gX12_slipping_27.2.2.2.2.2.1 rfl ?_
    refine r_icmp_ne (t := 54) gX12_slipping_27.2.2.2.2.2.2.1 rfl (fun h7 => ?_) (fun h7 => ?_)
    · refine r_aload_n (x := 60) gX12_slipping_27.2.2.2.2.2.2.2.1 rfl ?_
      refine r_bipush (v := (81 : Int32)) gX12_slipping_27.2.2.2.2.2.2.2.2.1 rfl ?_
      refine r_callV (k := 0) (idx := 371) (y := 271) (as := [.ref 60, .int (81 : Int32)]) (rest := []) (L0 := [(0, .ref 60), (1, .int (81 : Int32))]) gX12_slipping_27.2.2.2.2.2.2.2.2.2.1 rfl rfl rfl rfl rfl (vok_v (ob_60 hE) rfl) rfl (r_dep (by decide) (e_X12_ran hE q (81 : Int32))) (fun r2 => ?_)
      refine r_aload_n (x := 60) gX12_slipping_27.2.2.2.2.2.2.2.2.2.2.1 rfl ?_
      refine r_iload_n (x := a1) gX12_slipping_27.2.2.2.2.2.2.2.2.2.2.2.1 rfl ?_
      refine r_iload_n (x := a2) gX12_slipping_27.2.2.2.2.2.2.2.2.2.2.2.2.1 rfl ?_
      refine r_callI (k := 0) (idx := 381) (y := 276) (as := [.ref 60, .int a1, .int a2]) (rest := []) (L0 := [(0, .ref 60), (1, .int a1), (2, .int a2)]) gX12_slipping_27.2.2.2.2.2.2.2.2.2.2.2.2.2.1 rfl rfl rfl rfl rfl (vok_v (ob_60 hE) rfl) rfl (r_dep (by decide) (e_X12_wiseSlips hE r2 a1 a2)) (fun r3 => ?_)
      refine r_iconst (v := (1 : Int32)) gX12_slipping_27.2.2.2.2.2.2.2.2.2.2.2.2.2.2.1 rfl ?_
      refine r_isub gX12_slipping_27.2.2.2.2.2.2.2.2.2.2.2.2.2.2.2.1 ?_
      exact r_ireturn gX12_slipping_53.1 rfl rfl
    · refine r_aload_n (x := 60) gX12_slipping_53.2.1 rfl ?_
      refine r_getA gX12_slipping_53.2.2.1 (fa_12_92_60 hE) ?_
      refine r_iload_n (x := a1) gX12_slipping_53.2.2.2.1 rfl ?_
      refine r_iaload gX12_slipping_53.2.2.2.2.1 (ar_87 hE) ?_
      refine r_bipush (v := (6 : Int32)) gX12_slipping_53.2.2.2.2.2.1 rfl ?_
      refine r_icmp_ne (t := 74) gX12_slipping_53.2.2.2.2.2.2.1 rfl (fun h6 => ?_) (fun h6 => ?_)
      · refine r_aload_n (x := 60) gX12_slipping_53.2.2.2.2.2.2.2.1 rfl ?_
        refine r_iload_n (x := a1) gX12_slipping_53.2.2.2.2.2.2.2.2.1 rfl ?_
        refine r_iload_n (x := a2) gX12_slipping_53.2.2.2.2.2.2.2.2.2.1 rfl ?_
        refine r_callI (k := 0) (idx := 381) (y := 276) (as := [.ref 60, .int a1, .int a2]) (rest := []) (L0 := [(0, .ref 60), (1, .int a1), (2, .int a2)]) gX12_slipping_53.2.2.2.2.2.2.2.2.2.2.1 rfl rfl rfl rfl rfl (vok_v (ob_60 hE) rfl) rfl (r_dep (by decide) (e_X12_wiseSlips hE q a1 a2)) (fun r4 => ?_)
        refine r_goto (t := 80) gX12_slipping_53.2.2.2.2.2.2.2.2.2.2.2.1 rfl ?_
        exact r_ireturn gX12_slipping_80.1 rfl rfl
      · refine r_aload_n (x := 60) gX12_slipping_53.2.2.2.2.2.2.2.2.2.2.2.2.1 rfl ?_
        refine r_iload_n (x := a1) gX12_slipping_53.2.2.2.2.2.2.2.2.2.2.2.2.2.1 rfl ?_
        refine r_iload_n (x := a2) gX12_slipping_53.2.2.2.2.2.2.2.2.2.2.2.2.2.2.1 rfl ?_
        refine r_callI (k := 0) (idx := 375) (y := 275) (as := [.ref 60, .int a1, .int a2]) (rest := []) (L0 := [(0, .ref 60), (1, .int a1), (2, .int a2)]) gX12_slipping_53.2.2.2.2.2.2.2.2.2.2.2.2.2.2.2.1 rfl rfl rfl rfl rfl (vok_v (ob_60 hE) rfl) rfl (r_dep (by decide) (e_X12_plainSlips hE q a1 a2)) (fun r5 => ?_)
        exact r_ireturn gX12_slipping_80.1 rfl rfl
  · refine r_aload_n (x := 60) gX12_slipping_0.2.2.2.2.2.2.2.1 rfl ?_
    refine r_bipush (v := (20 : Int32)) gX12_slipping_0.2.2.2.2.2.2.2.2.1 rfl ?_
    refine r_callV (k := 0) (idx := 371) (y := 271) (as := [.ref 60, .int (20 : Int32)]) (rest := []) (L0 := [(0, .ref 60), (1, .int (20 : Int32))]) gX12_slipping_0.2.2.2.2.2.2.2.2.2.1 rfl rfl rfl rfl rfl (vok_v (ob_60 hE) rfl) rfl (r_dep (by decide) (e_X12_ran hE q (20 : Int32))) (fun r8 => ?_)
    refine r_aload_n (x := 60) gX12_slipping_0.2.2.2.2.2.2.2.2.2.2.1 rfl ?_
    refine r_iload_n (x := a1) gX12_slipping_0.2.2.2.2.2.2.2.2.2.2.2.1 rfl ?_
    refine r_iload_n (x := a2) gX12_slipping_0.2.2.2.2.2.2.2.2.2.2.2.2.1 rfl ?_
    refine r_callI (k := 0) (idx := 375) (y := 275) (as := [.ref 60, .int a1, .int a2]) (rest := []) (L0 := [(0, .ref 60), (1, .int a1), (2, .int a2)]) gX12_slipping_0.2.2.2.2.2.2.2.2.2.2.2.2.2.1 rfl rfl rfl rfl rfl (vok_v (ob_60 hE) rfl) rfl (r_dep (by decide) (e_X12_plainSlips hE r8 a1 a2)) (fun r9 => ?_)
    refine r_iconst (v := (3 : Int32)) gX12_slipping_0.2.2.2.2.2.2.2.2.2.2.2.2.2.2.1 rfl ?_
    refine r_iadd gX12_slipping_0.2.2.2.2.2.2.2.2.2.2.2.2.2.2.2.1 ?_
    exact r_ireturn gX12_slipping_27.1 rfl rfl
def f_X12_plainFolds (q : SS) (a1 : Int32) (a2 : Int32) : Option (Int32 × SS) :=
  (f_X12_ran q (10 : Int32)).bind fun r1 =>
  (f_X12_slipping r1 a1 a2).bind fun r2 =>
  some ((r2.1 * (2 : Int32)), r2.2)
theorem e_X12_plainFolds {E : EE} (hE : GE E) (q : SS) (a1 : Int32) (a2 : Int32) : R E (κI E) 4 278 0 [(0, .ref 60), (1, .int a1), (2, .int a2)] [] q (f_X12_plainFolds q a1 a2) := by
  unfold f_X12_plainFolds
  refine r_aload_n (x := 60) gX12_plainFolds_0.1 rfl ?_
  refine r_bipush (v := (10 : Int32)) gX12_plainFolds_0.2.1 rfl ?_
  refine r_callV (k := 0) (idx := 371) (y := 271) (as := [.ref 60, .int (10 : Int32)]) (rest := []) (L0 := [(0, .ref 60), (1, .int (10 : Int32))]) gX12_plainFolds_0.2.2.1 rfl rfl rfl rfl rfl (vok_v (ob_60 hE) rfl) rfl (r_dep (by decide) (e_X12_ran hE q (10 : Int32))) (fun r1 => ?_)
  refine r_aload_n (x := 60) gX12_plainFolds_0.2.2.2.1 rfl ?_
  refine r_iload_n (x := a1) gX12_plainFolds_0.2.2.2.2.1 rfl ?_
  refine r_iload_n (x := a2) gX12_plainFolds_0.2.2.2.2.2.1 rfl ?_
  refine r_callI (k := 0) (idx := 384) (y := 277) (as := [.ref 60, .int a1, .int a2]) (rest := []) (L0 := [(0, .ref 60), (1, .int a1), (2, .int a2)]) gX12_plainFolds_0.2.2.2.2.2.2.1 rfl rfl rfl rfl rfl (vok_v (ob_60 hE) rfl) rfl (r_dep (by decide) (e_X12_slipping hE r1 a1 a2)) (fun r2 => ?_)
  refine r_iconst (v := (2 : Int32)) gX12_plainFolds_0.2.2.2.2.2.2.2.1 rfl ?_
  refine r_imul gX12_plainFolds_0.2.2.2.2.2.2.2.2.1 ?_
  exact r_ireturn gX12_plainFolds_0.2.2.2.2.2.2.2.2.2.1 rfl rfl
def f_X12_brideFolds (q : SS) (a1 : Int32) (a2 : Int32) : Option (Int32 × SS) :=
  (f_X12_ran q (30 : Int32)).bind fun r1 =>
  (f_X12_plainFolds r1 a1 a2).bind fun r2 =>
  some ((-r2.1), r2.2)
theorem e_X12_brideFolds {E : EE} (hE : GE E) (q : SS) (a1 : Int32) (a2 : Int32) : R E (κI E) 5 279 0 [(0, .ref 60), (1, .int a1), (2, .int a2)] [] q (f_X12_brideFolds q a1 a2) := by
  unfold f_X12_brideFolds
  refine r_aload_n (x := 60) gX12_brideFolds_0.1 rfl ?_
  refine r_bipush (v := (30 : Int32)) gX12_brideFolds_0.2.1 rfl ?_
  refine r_callV (k := 0) (idx := 371) (y := 271) (as := [.ref 60, .int (30 : Int32)]) (rest := []) (L0 := [(0, .ref 60), (1, .int (30 : Int32))]) gX12_brideFolds_0.2.2.1 rfl rfl rfl rfl rfl (vok_v (ob_60 hE) rfl) rfl (r_dep (by decide) (e_X12_ran hE q (30 : Int32))) (fun r1 => ?_)
  refine r_aload_n (x := 60) gX12_brideFolds_0.2.2.2.1 rfl ?_
  refine r_iload_n (x := a1) gX12_brideFolds_0.2.2.2.2.1 rfl ?_
  refine r_iload_n (x := a2) gX12_brideFolds_0.2.2.2.2.2.1 rfl ?_
  refine r_callI (k := 0) (idx := 387) (y := 278) (as := [.ref 60, .int a1, .int a2]) (rest := []) (L0 := [(0, .ref 60), (1, .int a1), (2, .int a2)]) gX12_brideFolds_0.2.2.2.2.2.2.1 rfl rfl rfl rfl rfl (vok_v (ob_60 hE) rfl) rfl (r_dep (by decide) (e_X12_plainFolds hE r1 a1 a2)) (fun r2 => ?_)
  refine r_ineg gX12_brideFolds_0.2.2.2.2.2.2.2.1 ?_
  exact r_ireturn gX12_brideFolds_0.2.2.2.2.2.2.2.2.1 rfl rfl
def f_X12_plainProves (q : SS) (a1 : Int32) (a2 : Int32) : Option (Int32 × SS) :=
  (f_X12_ran q (11 : Int32)).bind fun r1 =>
  some ((a2 ^^^ a1), r1)
theorem e_X12_plainProves {E : EE} (hE : GE E) (q : SS) (a1 : Int32) (a2 : Int32) : R E (κI E) 1 281 0 [(0, .ref 60), (1, .int a1), (2, .int a2)] [] q (f_X12_plainProves q a1 a2) := by
  unfold f_X12_plainProves
  refine r_aload_n (x := 60) gX12_plainProves_0.1 rfl ?_
  refine r_bipush (v := (11 : Int32)) gX12_plainProves_0.2.1 rfl ?_
  refine r_callV (k := 0) (idx := 371) (y := 271) (as := [.ref 60, .int (11 : Int32)]) (rest := []) (L0 := [(0, .ref 60), (1, .int (11 : Int32))]) gX12_plainProves_0.2.2.1 rfl rfl rfl rfl rfl (vok_v (ob_60 hE) rfl) rfl (r_dep (by decide) (e_X12_ran hE q (11 : Int32))) (fun r1 => ?_)
  refine r_iload_n (x := a2) gX12_plainProves_0.2.2.2.1 rfl ?_
  refine r_iload_n (x := a1) gX12_plainProves_0.2.2.2.2.1 rfl ?_
  refine r_ixor gX12_plainProves_0.2.2.2.2.2.1 ?_
  exact r_ireturn gX12_plainProves_0.2.2.2.2.2.2.1 rfl rfl
def f_X12_childProves (q : SS) (a1 : Int32) (a2 : Int32) : Option (Int32 × SS) :=
  (f_X12_ran q (40 : Int32)).bind fun r1 =>
  (f_X12_plainProves r1 a1 a2).bind fun r2 =>
  some ((r2.1 * (3 : Int32)), r2.2)
theorem e_X12_childProves {E : EE} (hE : GE E) (q : SS) (a1 : Int32) (a2 : Int32) : R E (κI E) 2 282 0 [(0, .ref 60), (1, .int a1), (2, .int a2)] [] q (f_X12_childProves q a1 a2) := by
  unfold f_X12_childProves
  refine r_aload_n (x := 60) gX12_childProves_0.1 rfl ?_
  refine r_bipush (v := (40 : Int32)) gX12_childProves_0.2.1 rfl ?_
  refine r_callV (k := 0) (idx := 371) (y := 271) (as := [.ref 60, .int (40 : Int32)]) (rest := []) (L0 := [(0, .ref 60), (1, .int (40 : Int32))]) gX12_childProves_0.2.2.1 rfl rfl rfl rfl rfl (vok_v (ob_60 hE) rfl) rfl (r_dep (by decide) (e_X12_ran hE q (40 : Int32))) (fun r1 => ?_)
  refine r_aload_n (x := 60) gX12_childProves_0.2.2.2.1 rfl ?_
  refine r_iload_n (x := a1) gX12_childProves_0.2.2.2.2.1 rfl ?_
  refine r_iload_n (x := a2) gX12_childProves_0.2.2.2.2.2.1 rfl ?_
  refine r_callI (k := 0) (idx := 396) (y := 281) (as := [.ref 60, .int a1, .int a2]) (rest := []) (L0 := [(0, .ref 60), (1, .int a1), (2, .int a2)]) gX12_childProves_0.2.2.2.2.2.2.1 rfl rfl rfl rfl rfl (vok_v (ob_60 hE) rfl) rfl (r_dep (by decide) (e_X12_plainProves hE r1 a1 a2)) (fun r2 => ?_)
  refine r_iconst (v := (3 : Int32)) gX12_childProves_0.2.2.2.2.2.2.2.1 rfl ?_
  refine r_imul gX12_childProves_0.2.2.2.2.2.2.2.2.1 ?_
  exact r_ireturn gX12_childProves_0.2.2.2.2.2.2.2.2.2.1 rfl rfl

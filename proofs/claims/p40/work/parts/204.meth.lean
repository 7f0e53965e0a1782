def b_X4_workOut_145 (rec_56 : SS → Int32 → Int32 → Option (Int32 × SS)) (q : SS) (l7 : Int32) (l8 : Int32) : Option (Int32 × SS) :=
  rec_56 q l7 (l8 + (1 : Int32))
theorem rb_X4_workOut_145 {E : EE} (hE : GE E) {rec_56 : SS → Int32 → Int32 → Option (Int32 × SS)} (hrec_56 : ∀ (yq : SS) (yl7 : Int32) (yl8 : Int32), R E (κI E) 2 45 56 [(0, .ref 12), (7, .int yl7), (8, .int yl8)] [] yq (rec_56 yq yl7 yl8)) (q : SS) (l7 : Int32) (l8 : Int32) : R E (κI E) 2 45 145 [(0, .ref 12), (7, .int l7), (8, .int l8)] [] q (b_X4_workOut_145 rec_56 q l7 l8) := by
  unfold b_X4_workOut_145
  refine r_iinc (x := l8) (v := (l8 + (1 : Int32))) (L2 := [(0, .ref 12), (7, .int l7), (8, .int (l8 + (1 : Int32)))]) gX4_workOut_145.1 rfl rfl rfl rfl ?_
  refine r_goto (t := 56) gX4_workOut_145.2.1 rfl ?_
  exact r_sub (L' := [(0, .ref 12), (7, .int l7), (8, .int (l8 + (1 : Int32)))]) (sub_c rfl (sub_c rfl (sub_c rfl sub_n))) (hrec_56 q l7 (l8 + (1 : Int32)))
def b_X4_workOut_100 (rec_56 : SS → Int32 → Int32 → Option (Int32 × SS)) (q : SS) (l8 : Int32) (s0 : Int32) : Option (Int32 × SS) :=
  b_X4_workOut_145 rec_56 q s0 l8
theorem rb_X4_workOut_100 {E : EE} (hE : GE E) {rec_56 : SS → Int32 → Int32 → Option (Int32 × SS)} (hrec_56 : ∀ (yq : SS) (yl7 : Int32) (yl8 : Int32), R E (κI E) 2 45 56 [(0, .ref 12), (7, .int yl7), (8, .int yl8)] [] yq (rec_56 yq yl7 yl8)) (q : SS) (l8 : Int32) (s0 : Int32) : R E (κI E) 2 45 100 [(0, .ref 12), (8, .int l8)] [.int s0] q (b_X4_workOut_100 rec_56 q l8 s0) := by
  unfold b_X4_workOut_100
  refine r_istore (L2 := [(0, .ref 12), (7, .int s0), (8, .int l8)]) gX4_workOut_79.2.2.2.2.2.2.2.2.2.2.1 rfl rfl ?_
  refine r_goto (t := 145) gX4_workOut_79.2.2.2.2.2.2.2.2.2.2.2.1 rfl ?_
  exact r_sub (L' := [(0, .ref 12), (7, .int s0), (8, .int l8)]) (sub_c rfl (sub_c rfl (sub_c rfl sub_n))) (rb_X4_workOut_145 hE hrec_56 q s0 l8)
def b_X4_workOut_56 : SS → Int32 → Int32 → Option (Int32 × SS) :=
  fx3 (fun (rec_56 : SS → Int32 → Int32 → Option (Int32 × SS)) (q : SS) (l7 : Int32) (l8 : Int32) =>
  if (q.1 12 4) ≤ l8 then
  (some ((0 : Int32), q))
  else
  (if (121 : Int32) ≤ l8 then
  (some ((0 : Int32), q))
  else
  (if vin l8 121 then
  nm (q.1 13 l8.toNatClampNeg) fun v8 =>
  if v8 = (63 : Int32) then
  ((f_X4_pop q).bind fun r9 =>
  if r9.1 = 0 then
  (b_X4_workOut_100 rec_56 r9.2 l8 (0 : Int32))
  else
  (b_X4_workOut_100 rec_56 r9.2 l8 (1 : Int32)))
  else
  (if v8 = (59 : Int32) then
  ((f_X4_pop q).bind fun r11 =>
  if l7 = 0 then
  (b_X4_workOut_145 rec_56 r11.2 (1 : Int32) l8)
  else
  (some (r11.1, r11.2)))
  else
  (if vin l8 121 then
  (f_X4_doStep q v8 (q.1 14 l8.toNatClampNeg)).bind fun r13 =>
  b_X4_workOut_145 rec_56 r13 l7 l8
  else none))
  else none))) FU
theorem rb_X4_workOut_56 {E : EE} (hE : GE E) (q : SS) (l7 : Int32) (l8 : Int32) : R E (κI E) 2 45 56 [(0, .ref 12), (7, .int l7), (8, .int l8)] [] q (b_X4_workOut_56 q l7 l8) := by
  unfold b_X4_workOut_56
  refine fx3_ok (P := fun q l7 l8 o => R E (κI E) 2 45 56 [(0, .ref 12), (7, .int l7), (8, .int l8)] [] q o) (fun _ _ _ => r_no) (fun rec_56 hrec_56 q l7 l8 => ?_) _ _ _ _
  refine r_iload (x := l8) gX4_workOut_47.2.2.2.2.2.1 rfl ?_
  refine r_aload_n (x := 12) gX4_workOut_47.2.2.2.2.2.2.1 rfl ?_
  refine r_getI gX4_workOut_47.2.2.2.2.2.2.2.1 (ff_4_24_12 hE) (by decide) ?_
  refine r_icmp_ge (t := 151) gX4_workOut_47.2.2.2.2.2.2.2.2.1 rfl (fun h17 => ?_) (fun h17 => ?_)
  · refine r_iconst (v := (0 : Int32)) gX4_workOut_145.2.2.1 rfl ?_
    exact r_ireturn gX4_workOut_145.2.2.2.1 rfl rfl
  · refine r_iload (x := l8) gX4_workOut_47.2.2.2.2.2.2.2.2.2.1 rfl ?_
    refine r_bipush (v := (121 : Int32)) gX4_workOut_47.2.2.2.2.2.2.2.2.2.2.1 rfl ?_
    refine r_icmp_ge (t := 151) gX4_workOut_47.2.2.2.2.2.2.2.2.2.2.2.1 rfl (fun h16 => ?_) (fun h16 => ?_)
    · refine r_iconst (v := (0 : Int32)) gX4_workOut_145.2.2.1 rfl ?_
      exact r_ireturn gX4_workOut_145.2.2.2.1 rfl rfl
    · refine r_aload_n (x := 12) gX4_workOut_47.2.2.2.2.2.2.2.2.2.2.2.2.1 rfl ?_
      refine r_getA gX4_workOut_47.2.2.2.2.2.2.2.2.2.2.2.2.2.1 (fa_4_11_12 hE) ?_
      refine r_iload (x := l8) gX4_workOut_47.2.2.2.2.2.2.2.2.2.2.2.2.2.2.1 rfl ?_
      refine r_iaload gX4_workOut_47.2.2.2.2.2.2.2.2.2.2.2.2.2.2.2.1 (ar_13 hE) ?_
      refine r_nmI fun v8 _ => ?_
      refine r_istore (L2 := [(0, .ref 12), (7, .int l7), (8, .int l8), (9, .int v8)]) gX4_workOut_79.1 rfl rfl ?_
      refine r_iload (x := v8) gX4_workOut_79.2.1 rfl ?_
      refine r_bipush (v := (63 : Int32)) gX4_workOut_79.2.2.1 rfl ?_
      refine r_icmp_ne (t := 105) gX4_workOut_79.2.2.2.1 rfl (fun h15 => ?_) (fun h15 => ?_)
      · refine r_aload_n (x := 12) gX4_workOut_79.2.2.2.2.1 rfl ?_
        refine r_callI (k := 0) (idx := 37) (y := 49) (as := [.ref 12]) (rest := []) (L0 := [(0, .ref 12)]) gX4_workOut_79.2.2.2.2.2.1 rfl rfl rfl rfl rfl (vok_v (ob_12 hE) rfl) rfl (r_dep (by decide) (e_X4_pop hE q)) (fun r9 => ?_)
        refine r_if_eq (t := 99) gX4_workOut_79.2.2.2.2.2.2.1 rfl (fun h10 => ?_) (fun h10 => ?_)
        · refine r_iconst (v := (0 : Int32)) gX4_workOut_79.2.2.2.2.2.2.2.2.2.1 rfl ?_
          exact r_sub (L' := [(0, .ref 12), (8, .int l8)]) (sub_c rfl (sub_c rfl sub_n)) (rb_X4_workOut_100 hE hrec_56 r9.2 l8 (0 : Int32))
        · refine r_iconst (v := (1 : Int32)) gX4_workOut_79.2.2.2.2.2.2.2.1 rfl ?_
          refine r_goto (t := 100) gX4_workOut_79.2.2.2.2.2.2.2.2.1 rfl ?_
          exact r_sub (L' := [(0, .ref 12), (8, .int l8)]) (sub_c rfl (sub_c rfl sub_n)) (rb_X4_workOut_100 hE hrec_56 r9.2 l8 (1 : Int32))
      · refine r_iload (x := v8) gX4_workOut_79.2.2.2.2.2.2.2.2.2.2.2.2.1 rfl ?_
        refine r_bipush (v := (59 : Int32)) gX4_workOut_79.2.2.2.2.2.2.2.2.2.2.2.2.2.1 rfl ?_
        refine r_icmp_ne (t := 132) gX4_workOut_79.2.2.2.2.2.2.2.2.2.2.2.2.2.2.1 rfl (fun h14 => ?_) (fun h14 => ?_)
        · refine r_aload_n (x := 12) gX4_workOut_79.2.2.2.2.2.2.2.2.2.2.2.2.2.2.2.1 rfl ?_
          refine r_callI (k := 0) (idx := 37) (y := 49) (as := [.ref 12]) (rest := []) (L0 := [(0, .ref 12)]) gX4_workOut_113.1 rfl rfl rfl rfl rfl (vok_v (ob_12 hE) rfl) rfl (r_dep (by decide) (e_X4_pop hE q)) (fun r11 => ?_)
          refine r_istore (L2 := [(0, .ref 12), (7, .int l7), (8, .int l8), (9, .int v8), (10, .int r11.1)]) gX4_workOut_113.2.1 rfl rfl ?_
          refine r_iload (x := l7) gX4_workOut_113.2.2.1 rfl ?_
          refine r_if_eq (t := 126) gX4_workOut_113.2.2.2.1 rfl (fun h12 => ?_) (fun h12 => ?_)
          · refine r_iconst (v := (1 : Int32)) gX4_workOut_113.2.2.2.2.2.2.1 rfl ?_
            refine r_istore (L2 := [(0, .ref 12), (7, .int (1 : Int32)), (8, .int l8), (9, .int v8), (10, .int r11.1)]) gX4_workOut_113.2.2.2.2.2.2.2.1 rfl rfl ?_
            refine r_goto (t := 145) gX4_workOut_113.2.2.2.2.2.2.2.2.1 rfl ?_
            exact r_sub (L' := [(0, .ref 12), (7, .int (1 : Int32)), (8, .int l8)]) (sub_c rfl (sub_c rfl (sub_c rfl sub_n))) (rb_X4_workOut_145 hE hrec_56 r11.2 (1 : Int32) l8)
          · refine r_iload (x := r11.1) gX4_workOut_113.2.2.2.2.1 rfl ?_
            exact r_ireturn gX4_workOut_113.2.2.2.2.2.1 rfl rfl
        · refine r_aload_n (x := 12) gX4_workOut_113.2.2.2.2.2.2.2.2.2.1 rfl ?_
          refine r_iload (x := v8) gX4_workOut_113.2.2.2.2.2.2.2.2.2.2.1 rfl ?_
          refine r_aload_n (x := 12) gX4_workOut_113.2.2.2.2.2.2.2.2.2.2.2.1 rfl ?_
          refine r_getA gX4_workOut_113.2.2.2.2.2.2.2.2.2.2.2.2.1 (fa_4_15_12 hE) ?_
          refine r_iload (x := l8) gX4_workOut_113.2.2.2.2.2.2.2.2.2.2.2.2.2.1 rfl ?_
          refine r_iaload gX4_workOut_113.2.2.2.2.2.2.2.2.2.2.2.2.2.2.1 (ar_14 hE) ?_
          refine r_callV (k := 0) (idx := 41) (y := 46) (as := [.ref 12, .int v8, .int (q.1 14 l8.toNatClampNeg)]) (rest := []) (L0 := [(0, .ref 12), (1, .int v8), (2, .int (q.1 14 l8.toNatClampNeg))]) gX4_workOut_113.2.2.2.2.2.2.2.2.2.2.2.2.2.2.2.1 rfl rfl rfl rfl rfl (vok_v (ob_12 hE) rfl) rfl (r_dep (by decide) (e_X4_doStep hE q v8 (q.1 14 l8.toNatClampNeg))) (fun r13 => ?_)
          exact r_sub (L' := [(0, .ref 12), (7, .int l7), (8, .int l8)]) (sub_c rfl (sub_c rfl (sub_c rfl sub_n))) (rb_X4_workOut_145 hE hrec_56 r13 l7 l8)
def f_X4_workOut (q : SS) (a1 : Int32) (a2 : Int32) (a3 : Int32) (a4 : Int32) (a5 : Int32) (a6 : Int32) : Option (Int32 × SS) :=
  if vin (0 : Int32) 6 then
  nm (sI q 16 (0 : Int32).toNatClampNeg a1) fun q1 =>
  if vin (1 : Int32) 6 then
  nm (sI q1 16 (1 : Int32).toNatClampNeg a2) fun q2 =>
  if vin (2 : Int32) 6 then
  nm (sI q2 16 (2 : Int32).toNatClampNeg a3) fun q3 =>
  if vin (3 : Int32) 6 then
  nm (sI q3 16 (3 : Int32).toNatClampNeg a4) fun q4 =>
  if vin (4 : Int32) 6 then
  nm (sI q4 16 (4 : Int32).toNatClampNeg a5) fun q5 =>
  if vin (5 : Int32) 6 then
  nm (sI q5 16 (5 : Int32).toNatClampNeg a6) fun q6 =>
  nm (sI q6 12 5 (0 : Int32)) fun q7 =>
  b_X4_workOut_56 q7 (1 : Int32) (0 : Int32)
  else none
  else none
  else none
  else none
  else none
  else none
theorem e_X4_workOut {E : EE} (hE : GE E) (q : SS) (a1 : Int32) (a2 : Int32) (a3 : Int32) (a4 : Int32) (a5 : Int32) (a6 : Int32) : R E (κI E) 2 45 0 [(0, .ref 12), (1, .int a1), (2, .int a2), (3, .int a3), (4, .int a4), (5, .int a5), (6, .int a6)] [] q (f_X4_workOut q a1 a2 a3 a4 a5 a6) := by
  unfold f_X4_workOut
  refine r_aload_n (x := 12) gX4_workOut_0.1 rfl ?_
  refine r_getA gX4_workOut_0.2.1 (fa_4_21_12 hE) ?_
  refine r_iconst (v := (0 : Int32)) gX4_workOut_0.2.2.1 rfl ?_
  refine r_iload_n (x := a1) gX4_workOut_0.2.2.2.1 rfl ?_
  refine r_iastore gX4_workOut_0.2.2.2.2.1 (ar_16 hE) ?_
  refine r_nmS fun q1 _ => ?_
  refine r_aload_n (x := 12) gX4_workOut_0.2.2.2.2.2.1 rfl ?_
  refine r_getA gX4_workOut_0.2.2.2.2.2.2.1 (fa_4_21_12 hE) ?_
  refine r_iconst (v := (1 : Int32)) gX4_workOut_0.2.2.2.2.2.2.2.1 rfl ?_
  refine r_iload_n (x := a2) gX4_workOut_0.2.2.2.2.2.2.2.2.1 rfl ?_
  refine r_iastore gX4_workOut_0.2.2.2.2.2.2.2.2.2.1 (ar_16 hE) ?_
  refine r_nmS fun q2 _ => ?_
  refine r_aload_n (x := 12) gX4_workOut_0.2.2.2.2.2.2.2.2.2.2.1 rfl ?_
  refine r_getA gX4_workOut_0.2.2.2.2.2.2.2.2.2.2.2.1 (fa_4_21_12 hE) ?_
  refine r_iconst (v := (2 : Int32)) gX4_workOut_0.2.2.2.2.2.2.2.2.2.2.2.2.1 rfl ?_
  refine r_iload_n (x := a3) gX4_workOut_0.2.2.2.2.2.2.2.2.2.2.2.2.2.1 rfl ?_
  refine r_iastore gX4_workOut_0.2.2.2.2.2.2.2.2.2.2.2.2.2.2.1 (ar_16 hE) ?_
  refine r_nmS fun q3 _ => ?_
  refine r_aload_n (x := 12) gX4_workOut_0.2.2.2.2.2.2.2.2.2.2.2.2.2.2.2.1 rfl ?_
  refine r_getA gX4_workOut_22.1 (fa_4_21_12 hE) ?_
  refine r_iconst (v := (3 : Int32)) gX4_workOut_22.2.1 rfl ?_
  refine r_iload (x := a4) gX4_workOut_22.2.2.1 rfl ?_
  refine r_iastore gX4_workOut_22.2.2.2.1 (ar_16 hE) ?_
  refine r_nmS fun q4 _ => ?_
  refine r_aload_n (x := 12) gX4_workOut_22.2.2.2.2.1 rfl ?_
  refine r_getA gX4_workOut_22.2.2.2.2.2.1 (fa_4_21_12 hE) ?_
  refine r_iconst (v := (4 : Int32)) gX4_workOut_22.2.2.2.2.2.2.1 rfl ?_
  refine r_iload (x := a5) gX4_workOut_22.2.2.2.2.2.2.2.1 rfl ?_
  refine r_iastore gX4_workOut_22.2.2.2.2.2.2.2.2.1 (ar_16 hE) ?_
  refine r_nmS fun q5 _ => ?_
  refine r_aload_n (x := 12) gX4_workOut_22.2.2.2.2.2.2.2.2.2.1 rfl ?_
  refine r_getA gX4_workOut_22.2.2.2.2.2.2.2.2.2.2.1 (fa_4_21_12 hE) ?_
  refine r_iconst (v := (5 : Int32)) gX4_workOut_22.2.2.2.2.2.2.2.2.2.2.2.1 rfl ?_
  refine r_iload (x := a6) gX4_workOut_22.2.2.2.2.2.2.2.2.2.2.2.2.1 rfl ?_
  refine r_iastore gX4_workOut_22.2.2.2.2.2.2.2.2.2.2.2.2.2.1 (ar_16 hE) ?_
  refine r_nmS fun q6 _ => ?_
  refine r_aload_n (x := 12) gX4_workOut_22.2.2.2.2.2.2.2.2.2.2.2.2.2.2.1 rfl ?_
  refine r_iconst (v := (0 : Int32)) gX4_workOut_22.2.2.2.2.2.2.2.2.2.2.2.2.2.2.2.1 rfl ?_
  refine r_putI gX4_workOut_47.1 (ff_4_34_12 hE) ?_
  refine r_nmS fun q7 _ => ?_
  refine r_iconst (v := (1 : Int32)) gX4_workOut_47.2.1 rfl ?_
  refine r_istore (L2 := [(0, .ref 12), (1, .int a1), (2, .int a2), (3, .int a3), (4, .int a4), (5, .int a5), (6, .int a6), (7, .int (1 : Int32))]) gX4_workOut_47.2.2.1 rfl rfl ?_
  refine r_iconst (v := (0 : Int32)) gX4_workOut_47.2.2.2.1 rfl ?_
  refine r_istore (L2 := [(0, .ref 12), (1, .int a1), (2, .int a2), (3, .int a3), (4, .int a4), (5, .int a5), (6, .int a6), (7, .int (1 : Int32)), (8, .int (0 : Int32))]) gX4_workOut_47.2.2.2.2.1 rfl rfl ?_
  exact r_sub (L' := [(0, .ref 12), (7, .int (1 : Int32)), (8, .int (0 : Int32))]) (sub_c rfl (sub_c rfl (sub_c rfl sub_n))) (rb_X4_workOut_56 hE q7 (1 : Int32) (0 : Int32))
def b_X8_oddsBy_87 (q : SS) (l8 : Int32) : Option (Int32 × SS) :=
  some ((jmax (0 : Int32) (jmin (12 : Int32) l8)), q)
theorem rb_X8_oddsBy_87 {E : EE} (hE : GE E) (q : SS) (l8 : Int32) : R E (κI E) 3 110 87 [(8, .int l8)] [] q (b_X8_oddsBy_87 q l8) := by
  unfold b_X8_oddsBy_87
  refine r_iconst (v := (0 : Int32)) gX8_oddsBy_60.2.2.2.2.2.2.2.2.2.2.2.2.2.2.1 rfl ?_
  refine r_bipush (v := (12 : Int32)) gX8_oddsBy_60.2.2.2.2.2.2.2.2.2.2.2.2.2.2.2.1 rfl ?_
  refine r_iload (x := l8) gX8_oddsBy_90.1 rfl ?_
  refine r_mm (j := 1) (v := (jmin (12 : Int32) l8)) gX8_oddsBy_90.2.1 ⟨rfl, rfl, rfl, rfl⟩ rfl rfl ?_
  refine r_mm (j := 0) (v := (jmax (0 : Int32) (jmin (12 : Int32) l8))) gX8_oddsBy_90.2.2.1 ⟨rfl, rfl, rfl, rfl⟩ rfl rfl ?_
  exact r_ireturn gX8_oddsBy_90.2.2.2.1 rfl rfl
def f_X8_oddsBy (q : SS) (a1 : Int32) (a2 : Int32) (a3 : Int32) (a4 : Int32) (a5 : Int32) : Option (Int32 × SS) :=
  (f_X8_canGive q a1 a2).bind fun r1 =>
  if r1 = 0 then
  (some ((0 : Int32), q))
  else
  (if a4 < (4 : Int32) then
  ((f_X10_get q (0 : Int32) a2).bind fun r2 =>
  (f_X10_get q (8 : Int32) (0 : Int32)).bind fun r3 =>
  nm (((12 : Int32) - r2) - r3) fun v4 =>
  (f_X4_isTold q).bind fun r5 =>
  if r5 = 0 then
  (b_X8_oddsBy_87 q v4)
  else
  ((f_X10_get q (0 : Int32) a1).bind fun r6 =>
  (f_X4_workOut q r2 r6 a3 a4 a5 r3).bind fun r7 =>
  b_X8_oddsBy_87 r7.2 r7.1))
  else
  (some ((0 : Int32), q)))
theorem e_X8_oddsBy {E : EE} (hE : GE E) (q : SS) (a1 : Int32) (a2 : Int32) (a3 : Int32) (a4 : Int32) (a5 : Int32) : R E (κI E) 3 110 0 [(0, .ref 24), (1, .int a1), (2, .int a2), (3, .int a3), (4, .int a4), (5, .int a5)] [] q (f_X8_oddsBy q a1 a2 a3 a4 a5) := by
  unfold f_X8_oddsBy
  refine r_aload_n (x := 24) gX8_oddsBy_0.1 rfl ?_
  refine r_iload_n (x := a1) gX8_oddsBy_0.2.1 rfl ?_
  refine r_iload_n (x := a2) gX8_oddsBy_0.2.2.1 rfl ?_
  refine r_calli (k := 0) (idx := 47) (y := 108) (as := [.ref 24, .int a1, .int a2]) (rest := []) (L0 := [(0, .ref 24), (1, .int a1), (2, .int a2)]) gX8_oddsBy_0.2.2.2.1 rfl rfl rfl rfl rfl (vok_v (ob_24 hE) rfl) rfl (r_dep (by decide) (e_X8_canGive hE q a1 a2)) (fun r1 => ?_)
  refine r_if_eq (t := 15) gX8_oddsBy_0.2.2.2.2.1 rfl (fun h10 => ?_) (fun h10 => ?_)
  · refine r_iconst (v := (0 : Int32)) gX8_oddsBy_0.2.2.2.2.2.2.2.2.1 rfl ?_
    exact r_ireturn gX8_oddsBy_0.2.2.2.2.2.2.2.2.2.1 rfl rfl
  · refine r_iload (x := a4) gX8_oddsBy_0.2.2.2.2.2.1 rfl ?_
    refine r_iconst (v := (4 : Int32)) gX8_oddsBy_0.2.2.2.2.2.2.1 rfl ?_
    refine r_icmp_lt (t := 17) gX8_oddsBy_0.2.2.2.2.2.2.2.1 rfl (fun h9 => ?_) (fun h9 => ?_)
    · refine r_aload_n (x := 24) gX8_oddsBy_0.2.2.2.2.2.2.2.2.2.2.1 rfl ?_
      refine r_getA gX8_oddsBy_0.2.2.2.2.2.2.2.2.2.2.2.1 (fa_8_9_24 hE) ?_
      refine r_iconst (v := (0 : Int32)) gX8_oddsBy_0.2.2.2.2.2.2.2.2.2.2.2.2.1 rfl ?_
      refine r_iload_n (x := a2) gX8_oddsBy_0.2.2.2.2.2.2.2.2.2.2.2.2.2.1 rfl ?_
      refine r_calli (k := 0) (idx := 23) (y := 134) (as := [.ref 1, .int (0 : Int32), .int a2]) (rest := []) (L0 := [(0, .ref 1), (1, .int (0 : Int32)), (2, .int a2)]) gX8_oddsBy_0.2.2.2.2.2.2.2.2.2.2.2.2.2.2.1 rfl rfl rfl rfl rfl (vok_v (ob_1 hE) rfl) rfl (r_dep (by decide) (e_X10_get hE q (0 : Int32) a2)) (fun r2 => ?_)
      refine r_istore (L2 := [(0, .ref 24), (1, .int a1), (2, .int a2), (3, .int a3), (4, .int a4), (5, .int a5), (6, .int r2)]) gX8_oddsBy_0.2.2.2.2.2.2.2.2.2.2.2.2.2.2.2.1 rfl rfl ?_
      refine r_aload_n (x := 24) gX8_oddsBy_28.1 rfl ?_
      refine r_getA gX8_oddsBy_28.2.1 (fa_8_9_24 hE) ?_
      refine r_bipush (v := (8 : Int32)) gX8_oddsBy_28.2.2.1 rfl ?_
      refine r_iconst (v := (0 : Int32)) gX8_oddsBy_28.2.2.2.1 rfl ?_
      refine r_calli (k := 0) (idx := 23) (y := 134) (as := [.ref 1, .int (8 : Int32), .int (0 : Int32)]) (rest := []) (L0 := [(0, .ref 1), (1, .int (8 : Int32)), (2, .int (0 : Int32))]) gX8_oddsBy_28.2.2.2.2.1 rfl rfl rfl rfl rfl (vok_v (ob_1 hE) rfl) rfl (r_dep (by decide) (e_X10_get hE q (8 : Int32) (0 : Int32))) (fun r3 => ?_)
      refine r_istore (L2 := [(0, .ref 24), (1, .int a1), (2, .int a2), (3, .int a3), (4, .int a4), (5, .int a5), (6, .int r2), (7, .int r3)]) gX8_oddsBy_28.2.2.2.2.2.1 rfl rfl ?_
      refine r_bipush (v := (12 : Int32)) gX8_oddsBy_28.2.2.2.2.2.2.1 rfl ?_
      refine r_iload (x := r2) gX8_oddsBy_28.2.2.2.2.2.2.2.1 rfl ?_
      refine r_isub gX8_oddsBy_28.2.2.2.2.2.2.2.2.1 ?_
      refine r_iload (x := r3) gX8_oddsBy_28.2.2.2.2.2.2.2.2.2.1 rfl ?_
      refine r_isub gX8_oddsBy_28.2.2.2.2.2.2.2.2.2.2.1 ?_
      refine r_nmI fun v4 _ => ?_
      refine r_istore (L2 := [(0, .ref 24), (1, .int a1), (2, .int a2), (3, .int a3), (4, .int a4), (5, .int a5), (6, .int r2), (7, .int r3), (8, .int v4)]) gX8_oddsBy_28.2.2.2.2.2.2.2.2.2.2.2.1 rfl rfl ?_
      refine r_aload_n (x := 24) gX8_oddsBy_28.2.2.2.2.2.2.2.2.2.2.2.2.1 rfl ?_
      refine r_getA gX8_oddsBy_28.2.2.2.2.2.2.2.2.2.2.2.2.2.1 (fa_8_15_24 hE) ?_
      refine r_calli (k := 0) (idx := 67) (y := 41) (as := [.ref 12]) (rest := []) (L0 := [(0, .ref 12)]) gX8_oddsBy_28.2.2.2.2.2.2.2.2.2.2.2.2.2.2.1 rfl rfl rfl rfl rfl (vok_v (ob_12 hE) rfl) rfl (r_dep (by decide) (e_X4_isTold hE q)) (fun r5 => ?_)
      refine r_if_eq (t := 87) gX8_oddsBy_28.2.2.2.2.2.2.2.2.2.2.2.2.2.2.2.1 rfl (fun h8 => ?_) (fun h8 => ?_)
      · exact r_sub (L' := [(8, .int v4)]) (sub_c rfl sub_n) (rb_X8_oddsBy_87 hE q v4)
      · refine r_aload_n (x := 24) gX8_oddsBy_60.1 rfl ?_
        refine r_getA gX8_oddsBy_60.2.1 (fa_8_15_24 hE) ?_
        refine r_iload (x := r2) gX8_oddsBy_60.2.2.1 rfl ?_
        refine r_aload_n (x := 24) gX8_oddsBy_60.2.2.2.1 rfl ?_
        refine r_getA gX8_oddsBy_60.2.2.2.2.1 (fa_8_9_24 hE) ?_
        refine r_iconst (v := (0 : Int32)) gX8_oddsBy_60.2.2.2.2.2.1 rfl ?_
        refine r_iload_n (x := a1) gX8_oddsBy_60.2.2.2.2.2.2.1 rfl ?_
        refine r_calli (k := 0) (idx := 23) (y := 134) (as := [.ref 1, .int (0 : Int32), .int a1]) (rest := [.int r2, .ref 12]) (L0 := [(0, .ref 1), (1, .int (0 : Int32)), (2, .int a1)]) gX8_oddsBy_60.2.2.2.2.2.2.2.1 rfl rfl rfl rfl rfl (vok_v (ob_1 hE) rfl) rfl (r_dep (by decide) (e_X10_get hE q (0 : Int32) a1)) (fun r6 => ?_)
        refine r_iload_n (x := a3) gX8_oddsBy_60.2.2.2.2.2.2.2.2.1 rfl ?_
        refine r_iload (x := a4) gX8_oddsBy_60.2.2.2.2.2.2.2.2.2.1 rfl ?_
        refine r_iload (x := a5) gX8_oddsBy_60.2.2.2.2.2.2.2.2.2.2.1 rfl ?_
        refine r_iload (x := r3) gX8_oddsBy_60.2.2.2.2.2.2.2.2.2.2.2.1 rfl ?_
        refine r_callI (k := 0) (idx := 73) (y := 45) (as := [.ref 12, .int r2, .int r6, .int a3, .int a4, .int a5, .int r3]) (rest := []) (L0 := [(0, .ref 12), (1, .int r2), (2, .int r6), (3, .int a3), (4, .int a4), (5, .int a5), (6, .int r3)]) gX8_oddsBy_60.2.2.2.2.2.2.2.2.2.2.2.2.1 rfl rfl rfl rfl rfl (vok_v (ob_12 hE) rfl) rfl (r_dep (by decide) (e_X4_workOut hE q r2 r6 a3 a4 a5 r3)) (fun r7 => ?_)
        refine r_istore (L2 := [(0, .ref 24), (1, .int a1), (2, .int a2), (3, .int a3), (4, .int a4), (5, .int a5), (6, .int r2), (7, .int r3), (8, .int r7.1)]) gX8_oddsBy_60.2.2.2.2.2.2.2.2.2.2.2.2.2.1 rfl rfl ?_
        exact r_sub (L' := [(8, .int r7.1)]) (sub_c rfl sub_n) (rb_X8_oddsBy_87 hE r7.2 r7.1)
    · refine r_iconst (v := (0 : Int32)) gX8_oddsBy_0.2.2.2.2.2.2.2.2.1 rfl ?_
      exact r_ireturn gX8_oddsBy_0.2.2.2.2.2.2.2.2.2.1 rfl rfl
def f_X8_oddsOf (q : SS) (a1 : Int32) (a2 : Int32) : Option (Int32 × SS) :=
  (f_X8_canSlip q a1 a2).bind fun r1 =>
  if r1 = 0 then
  (some ((0 : Int32), q))
  else
  ((f_X8_holderOf q a1).bind fun r2 =>
  (f_X8_heldBy q a2).bind fun r3 =>
  (f_X10_get q (6 : Int32) a1).bind fun r4 =>
  (f_X10_hourNow q).bind fun r5 =>
  (f_X8_oddsBy q r2 a2 r3 r4 r5).bind fun r6 =>
  some (r6.1, r6.2))
theorem e_X8_oddsOf {E : EE} (hE : GE E) (q : SS) (a1 : Int32) (a2 : Int32) : R E (κI E) 4 109 0 [(0, .ref 24), (1, .int a1), (2, .int a2)] [] q (f_X8_oddsOf q a1 a2) := by
  unfold f_X8_oddsOf
  refine r_aload_n (x := 24) gX8_oddsOf_0.1 rfl ?_
  refine r_iload_n (x := a1) gX8_oddsOf_0.2.1 rfl ?_
  refine r_iload_n (x := a2) gX8_oddsOf_0.2.2.1 rfl ?_
  refine r_calli (k := 0) (idx := 54) (y := 107) (as := [.ref 24, .int a1, .int a2]) (rest := []) (L0 := [(0, .ref 24), (1, .int a1), (2, .int a2)]) gX8_oddsOf_0.2.2.2.1 rfl rfl rfl rfl rfl (vok_v (ob_24 hE) rfl) rfl (r_dep (by decide) (e_X8_canSlip hE q a1 a2)) (fun r1 => ?_)
  refine r_if_ne (t := 11) gX8_oddsOf_0.2.2.2.2.1 rfl (fun h7 => ?_) (fun h7 => ?_)
  · refine r_iconst (v := (0 : Int32)) gX8_oddsOf_0.2.2.2.2.2.1 rfl ?_
    exact r_ireturn gX8_oddsOf_0.2.2.2.2.2.2.1 rfl rfl
  · refine r_aload_n (x := 24) gX8_oddsOf_0.2.2.2.2.2.2.2.1 rfl ?_
    refine r_aload_n (x := 24) gX8_oddsOf_0.2.2.2.2.2.2.2.2.1 rfl ?_
    refine r_iload_n (x := a1) gX8_oddsOf_0.2.2.2.2.2.2.2.2.2.1 rfl ?_
    refine r_calli (k := 0) (idx := 37) (y := 98) (as := [.ref 24, .int a1]) (rest := [.ref 24]) (L0 := [(0, .ref 24), (1, .int a1)]) gX8_oddsOf_0.2.2.2.2.2.2.2.2.2.2.1 rfl rfl rfl rfl rfl (vok_v (ob_24 hE) rfl) rfl (r_dep (by decide) (e_X8_holderOf hE q a1)) (fun r2 => ?_)
    refine r_iload_n (x := a2) gX8_oddsOf_0.2.2.2.2.2.2.2.2.2.2.2.1 rfl ?_
    refine r_aload_n (x := 24) gX8_oddsOf_0.2.2.2.2.2.2.2.2.2.2.2.2.1 rfl ?_
    refine r_iload_n (x := a2) gX8_oddsOf_0.2.2.2.2.2.2.2.2.2.2.2.2.2.1 rfl ?_
    refine r_calli (k := 0) (idx := 57) (y := 100) (as := [.ref 24, .int a2]) (rest := [.int a2, .int r2, .ref 24]) (L0 := [(0, .ref 24), (1, .int a2)]) gX8_oddsOf_0.2.2.2.2.2.2.2.2.2.2.2.2.2.2.1 rfl rfl rfl rfl rfl (vok_v (ob_24 hE) rfl) rfl (r_dep (by decide) (e_X8_heldBy hE q a2)) (fun r3 => ?_)
    refine r_aload_n (x := 24) gX8_oddsOf_0.2.2.2.2.2.2.2.2.2.2.2.2.2.2.2.1 rfl ?_
    refine r_getA gX8_oddsOf_24.1 (fa_8_9_24 hE) ?_
    refine r_bipush (v := (6 : Int32)) gX8_oddsOf_24.2.1 rfl ?_
    refine r_iload_n (x := a1) gX8_oddsOf_24.2.2.1 rfl ?_
    refine r_calli (k := 0) (idx := 23) (y := 134) (as := [.ref 1, .int (6 : Int32), .int a1]) (rest := [.int r3, .int a2, .int r2, .ref 24]) (L0 := [(0, .ref 1), (1, .int (6 : Int32)), (2, .int a1)]) gX8_oddsOf_24.2.2.2.1 rfl rfl rfl rfl rfl (vok_v (ob_1 hE) rfl) rfl (r_dep (by decide) (e_X10_get hE q (6 : Int32) a1)) (fun r4 => ?_)
    refine r_aload_n (x := 24) gX8_oddsOf_24.2.2.2.2.1 rfl ?_
    refine r_getA gX8_oddsOf_24.2.2.2.2.2.1 (fa_8_9_24 hE) ?_
    refine r_calli (k := 0) (idx := 60) (y := 127) (as := [.ref 1]) (rest := [.int r4, .int r3, .int a2, .int r2, .ref 24]) (L0 := [(0, .ref 1)]) gX8_oddsOf_24.2.2.2.2.2.2.1 rfl rfl rfl rfl rfl (vok_v (ob_1 hE) rfl) rfl (r_dep (by decide) (e_X10_hourNow hE q)) (fun r5 => ?_)
    refine r_callI (k := 0) (idx := 63) (y := 110) (as := [.ref 24, .int r2, .int a2, .int r3, .int r4, .int r5]) (rest := []) (L0 := [(0, .ref 24), (1, .int r2), (2, .int a2), (3, .int r3), (4, .int r4), (5, .int r5)]) gX8_oddsOf_24.2.2.2.2.2.2.2.1 rfl rfl rfl rfl rfl (vok_v (ob_24 hE) rfl) rfl (r_dep (by decide) (e_X8_oddsBy hE q r2 a2 r3 r4 r5)) (fun r6 => ?_)
    exact r_ireturn gX8_oddsOf_24.2.2.2.2.2.2.2.2.1 rfl rfl
def f_X8_give (q : SS) (a1 : Int32) (a2 : Int32) : Option SS :=
  (f_X10_isTicket q a1).bind fun r1 =>
  if r1 = 0 then
  (some q)
  else
  (if vin a1 12 then
  nm (sI q 25 a1.toNatClampNeg a2) fun q2 =>
  some q2
  else none)
theorem e_X8_give {E : EE} (hE : GE E) (q : SS) (a1 : Int32) (a2 : Int32) : R E (κV E) 1 99 0 [(0, .ref 24), (1, .int a1), (2, .int a2)] [] q (f_X8_give q a1 a2) := by
  unfold f_X8_give
  refine r_aload_n (x := 24) gX8_give_0.1 rfl ?_
  refine r_getA gX8_give_0.2.1 (fa_8_9_24 hE) ?_
  refine r_iload_n (x := a1) gX8_give_0.2.2.1 rfl ?_
  refine r_calli (k := 0) (idx := 29) (y := 129) (as := [.ref 1, .int a1]) (rest := []) (L0 := [(0, .ref 1), (1, .int a1)]) gX8_give_0.2.2.2.1 rfl rfl rfl rfl rfl (vok_v (ob_1 hE) rfl) rfl (r_dep (by decide) (e_X10_isTicket hE q a1)) (fun r1 => ?_)
  refine r_if_eq (t := 18) gX8_give_0.2.2.2.2.1 rfl (fun h3 => ?_) (fun h3 => ?_)
  · exact r_return gX8_give_0.2.2.2.2.2.2.2.2.2.2.1 rfl rfl
  · refine r_aload_n (x := 24) gX8_give_0.2.2.2.2.2.1 rfl ?_
    refine r_getA gX8_give_0.2.2.2.2.2.2.1 (fa_8_19_24 hE) ?_
    refine r_iload_n (x := a1) gX8_give_0.2.2.2.2.2.2.2.1 rfl ?_
    refine r_iload_n (x := a2) gX8_give_0.2.2.2.2.2.2.2.2.1 rfl ?_
    refine r_iastore gX8_give_0.2.2.2.2.2.2.2.2.2.1 (ar_25 hE) ?_
    refine r_nmS fun q2 _ => ?_
    exact r_return gX8_give_0.2.2.2.2.2.2.2.2.2.2.1 rfl rfl
def b_X8_slipDrawn_65 (q : SS) (l4 : Int32) (l5 : Int32) (s0 : Int32) : Option (Int32 × SS) :=
  if s0 = 0 then
  (if s0 = 0 ∨ s0 = 1 then some (s0, q) else none)
  else
  ((f_X8_give q l4 l5).bind fun r6 =>
  if s0 = 0 ∨ s0 = 1 then some (s0, r6) else none)
theorem rb_X8_slipDrawn_65 {E : EE} (hE : GE E) (q : SS) (l4 : Int32) (l5 : Int32) (s0 : Int32) : R E (κI E) 5 111 65 [(0, .ref 24), (4, .int l4), (5, .int l5)] [.int s0] q (b_X8_slipDrawn_65 q l4 l5 s0) := by
  unfold b_X8_slipDrawn_65
  refine r_istore (L2 := [(0, .ref 24), (4, .int l4), (5, .int l5), (6, .int s0)]) gX8_slipDrawn_50.2.2.2.2.2.2.2.1 rfl rfl ?_
  refine r_iload (x := s0) gX8_slipDrawn_50.2.2.2.2.2.2.2.2.1 rfl ?_
  refine r_if_eq (t := 80) gX8_slipDrawn_50.2.2.2.2.2.2.2.2.2.1 rfl (fun h7 => ?_) (fun h7 => ?_)
  · refine r_iload (x := s0) gX8_slipDrawn_50.2.2.2.2.2.2.2.2.2.2.2.2.2.2.1 rfl ?_
    exact r_zreturn gX8_slipDrawn_50.2.2.2.2.2.2.2.2.2.2.2.2.2.2.2.1 rfl rfl
  · refine r_aload_n (x := 24) gX8_slipDrawn_50.2.2.2.2.2.2.2.2.2.2.1 rfl ?_
    refine r_iload (x := l4) gX8_slipDrawn_50.2.2.2.2.2.2.2.2.2.2.2.1 rfl ?_
    refine r_iload (x := l5) gX8_slipDrawn_50.2.2.2.2.2.2.2.2.2.2.2.2.1 rfl ?_
    refine r_callV (k := 0) (idx := 91) (y := 99) (as := [.ref 24, .int l4, .int l5]) (rest := []) (L0 := [(0, .ref 24), (1, .int l4), (2, .int l5)]) gX8_slipDrawn_50.2.2.2.2.2.2.2.2.2.2.2.2.2.1 rfl rfl rfl rfl rfl (vok_v (ob_24 hE) rfl) rfl (r_dep (by decide) (e_X8_give hE q l4 l5)) (fun r6 => ?_)
    refine r_iload (x := s0) gX8_slipDrawn_50.2.2.2.2.2.2.2.2.2.2.2.2.2.2.1 rfl ?_
    exact r_zreturn gX8_slipDrawn_50.2.2.2.2.2.2.2.2.2.2.2.2.2.2.2.1 rfl rfl
def f_X8_slipDrawn (q : SS) (a1 : Int32) : Option (Int32 × SS) :=
  (f_X10_tickets q).bind fun r1 =>
  (f_X10_people q).bind fun r2 =>
  if r1 ≤ 0 then
  (some ((0 : Int32), q))
  else
  (if 0 < r2 then
  (if r1 = 0 then none else
  nm (jrem (jushr a1 (8 : Int32)) r1) fun v3 =>
  if r2 = 0 then none else
  nm (jrem (jushr a1 (12 : Int32)) r2) fun v4 =>
  (f_X8_oddsOf q v3 v4).bind fun r5 =>
  if r5.1 ≤ (jrem (jushr a1 (20 : Int32)) (12 : Int32)) then
  (b_X8_slipDrawn_65 r5.2 v3 v4 (0 : Int32))
  else
  (b_X8_slipDrawn_65 r5.2 v3 v4 (1 : Int32)))
  else
  (some ((0 : Int32), q)))
theorem e_X8_slipDrawn {E : EE} (hE : GE E) (q : SS) (a1 : Int32) : R E (κI E) 5 111 0 [(0, .ref 24), (1, .int a1)] [] q (f_X8_slipDrawn q a1) := by
  unfold f_X8_slipDrawn
  refine r_aload_n (x := 24) gX8_slipDrawn_0.1 rfl ?_
  refine r_getA gX8_slipDrawn_0.2.1 (fa_8_9_24 hE) ?_
  refine r_calli (k := 0) (idx := 33) (y := 126) (as := [.ref 1]) (rest := []) (L0 := [(0, .ref 1)]) gX8_slipDrawn_0.2.2.1 rfl rfl rfl rfl rfl (vok_v (ob_1 hE) rfl) rfl (r_dep (by decide) (e_X10_tickets hE q)) (fun r1 => ?_)
  refine r_istore_n (L2 := [(0, .ref 24), (1, .int a1), (2, .int r1)]) gX8_slipDrawn_0.2.2.2.1 rfl rfl ?_
  refine r_aload_n (x := 24) gX8_slipDrawn_0.2.2.2.2.1 rfl ?_
  refine r_getA gX8_slipDrawn_0.2.2.2.2.2.1 (fa_8_9_24 hE) ?_
  refine r_calli (k := 0) (idx := 85) (y := 125) (as := [.ref 1]) (rest := []) (L0 := [(0, .ref 1)]) gX8_slipDrawn_0.2.2.2.2.2.2.1 rfl rfl rfl rfl rfl (vok_v (ob_1 hE) rfl) rfl (r_dep (by decide) (e_X10_people hE q)) (fun r2 => ?_)
  refine r_istore_n (L2 := [(0, .ref 24), (1, .int a1), (2, .int r1), (3, .int r2)]) gX8_slipDrawn_0.2.2.2.2.2.2.2.1 rfl rfl ?_
  refine r_iload_n (x := r1) gX8_slipDrawn_0.2.2.2.2.2.2.2.2.1 rfl ?_
  refine r_if_le (t := 24) gX8_slipDrawn_0.2.2.2.2.2.2.2.2.2.1 rfl (fun h10 => ?_) (fun h10 => ?_)
  · refine r_iconst (v := (0 : Int32)) gX8_slipDrawn_0.2.2.2.2.2.2.2.2.2.2.2.2.1 rfl ?_
    exact r_ireturn gX8_slipDrawn_0.2.2.2.2.2.2.2.2.2.2.2.2.2.1 rfl rfl
  · refine r_iload_n (x := r2) gX8_slipDrawn_0.2.2.2.2.2.2.2.2.2.2.1 rfl ?_
    refine r_if_gt (t := 26) gX8_slipDrawn_0.2.2.2.2.2.2.2.2.2.2.2.1 rfl (fun h9 => ?_) (fun h9 => ?_)
    · refine r_iload_n (x := a1) gX8_slipDrawn_0.2.2.2.2.2.2.2.2.2.2.2.2.2.2.1 rfl ?_
      refine r_bipush (v := (8 : Int32)) gX8_slipDrawn_0.2.2.2.2.2.2.2.2.2.2.2.2.2.2.2.1 rfl ?_
      refine r_iushr gX8_slipDrawn_29.1 ?_
      refine r_iload_n (x := r1) gX8_slipDrawn_29.2.1 rfl ?_
      refine r_irem gX8_slipDrawn_29.2.2.1 ?_
      refine r_nmI fun v3 _ => ?_
      refine r_istore (L2 := [(0, .ref 24), (1, .int a1), (2, .int r1), (3, .int r2), (4, .int v3)]) gX8_slipDrawn_29.2.2.2.1 rfl rfl ?_
      refine r_iload_n (x := a1) gX8_slipDrawn_29.2.2.2.2.1 rfl ?_
      refine r_bipush (v := (12 : Int32)) gX8_slipDrawn_29.2.2.2.2.2.1 rfl ?_
      refine r_iushr gX8_slipDrawn_29.2.2.2.2.2.2.1 ?_
      refine r_iload_n (x := r2) gX8_slipDrawn_29.2.2.2.2.2.2.2.1 rfl ?_
      refine r_irem gX8_slipDrawn_29.2.2.2.2.2.2.2.2.1 ?_
      refine r_nmI fun v4 _ => ?_
      refine r_istore (L2 := [(0, .ref 24), (1, .int a1), (2, .int r1), (3, .int r2), (4, .int v3), (5, .int v4)]) gX8_slipDrawn_29.2.2.2.2.2.2.2.2.2.1 rfl rfl ?_
      refine r_iload_n (x := a1) gX8_slipDrawn_29.2.2.2.2.2.2.2.2.2.2.1 rfl ?_
      refine r_bipush (v := (20 : Int32)) gX8_slipDrawn_29.2.2.2.2.2.2.2.2.2.2.2.1 rfl ?_
      refine r_iushr gX8_slipDrawn_29.2.2.2.2.2.2.2.2.2.2.2.2.1 ?_
      refine r_bipush (v := (12 : Int32)) gX8_slipDrawn_29.2.2.2.2.2.2.2.2.2.2.2.2.2.1 rfl ?_
      refine r_iremC gX8_slipDrawn_29.2.2.2.2.2.2.2.2.2.2.2.2.2.2.1 (by decide) ?_
      refine r_aload_n (x := 24) gX8_slipDrawn_29.2.2.2.2.2.2.2.2.2.2.2.2.2.2.2.1 rfl ?_
      refine r_iload (x := v3) gX8_slipDrawn_50.1 rfl ?_
      refine r_iload (x := v4) gX8_slipDrawn_50.2.1 rfl ?_
      refine r_callI (k := 0) (idx := 88) (y := 109) (as := [.ref 24, .int v3, .int v4]) (rest := [.int (jrem (jushr a1 (20 : Int32)) (12 : Int32))]) (L0 := [(0, .ref 24), (1, .int v3), (2, .int v4)]) gX8_slipDrawn_50.2.2.1 rfl rfl rfl rfl rfl (vok_v (ob_24 hE) rfl) rfl (r_dep (by decide) (e_X8_oddsOf hE q v3 v4)) (fun r5 => ?_)
      refine r_icmp_ge (t := 64) gX8_slipDrawn_50.2.2.2.1 rfl (fun h8 => ?_) (fun h8 => ?_)
      · refine r_iconst (v := (0 : Int32)) gX8_slipDrawn_50.2.2.2.2.2.2.1 rfl ?_
        exact r_sub (L' := [(0, .ref 24), (4, .int v3), (5, .int v4)]) (sub_c rfl (sub_c rfl (sub_c rfl sub_n))) (rb_X8_slipDrawn_65 hE r5.2 v3 v4 (0 : Int32))
      · refine r_iconst (v := (1 : Int32)) gX8_slipDrawn_50.2.2.2.2.1 rfl ?_
        refine r_goto (t := 65) gX8_slipDrawn_50.2.2.2.2.2.1 rfl ?_
        exact r_sub (L' := [(0, .ref 24), (4, .int v3), (5, .int v4)]) (sub_c rfl (sub_c rfl (sub_c rfl sub_n))) (rb_X8_slipDrawn_65 hE r5.2 v3 v4 (1 : Int32))
    · refine r_iconst (v := (0 : Int32)) gX8_slipDrawn_0.2.2.2.2.2.2.2.2.2.2.2.2.1 rfl ?_
      exact r_ireturn gX8_slipDrawn_0.2.2.2.2.2.2.2.2.2.2.2.2.2.1 rfl rfl
def f_X10_isReal (q : SS) (a1 : Int32) : Option Int32 :=
  (f_X10_isTicket q a1).bind fun r1 =>
  if r1 = 0 then
  (some (0 : Int32))
  else
  ((f_X10_get q (5 : Int32) a1).bind fun r2 =>
  if r2 = 0 then
  (some (1 : Int32))
  else
  (some (0 : Int32)))
theorem e_X10_isReal {E : EE} (hE : GE E) (q : SS) (a1 : Int32) : R E (κi E q) 2 131 0 [(0, .ref 1), (1, .int a1)] [] q (f_X10_isReal q a1) := by
  unfold f_X10_isReal
  refine r_aload_n (x := 1) gX10_isReal_0.1 rfl ?_
  refine r_iload_n (x := a1) gX10_isReal_0.2.1 rfl ?_
  refine r_calli (k := 0) (idx := 27) (y := 129) (as := [.ref 1, .int a1]) (rest := []) (L0 := [(0, .ref 1), (1, .int a1)]) gX10_isReal_0.2.2.1 rfl rfl rfl rfl rfl (vok_v (ob_1 hE) rfl) rfl (r_dep (by decide) (e_X10_isTicket hE q a1)) (fun r1 => ?_)
  refine r_if_eq (t := 21) gX10_isReal_0.2.2.2.1 rfl (fun h4 => ?_) (fun h4 => ?_)
  · refine r_iconst (v := (0 : Int32)) gX10_isReal_0.2.2.2.2.2.2.2.2.2.2.2.1 rfl ?_
    exact r_ireturn gX10_isReal_0.2.2.2.2.2.2.2.2.2.2.2.2.1 rfl rfl
  · refine r_aload_n (x := 1) gX10_isReal_0.2.2.2.2.1 rfl ?_
    refine r_iconst (v := (5 : Int32)) gX10_isReal_0.2.2.2.2.2.1 rfl ?_
    refine r_iload_n (x := a1) gX10_isReal_0.2.2.2.2.2.2.1 rfl ?_
    refine r_calli (k := 0) (idx := 23) (y := 134) (as := [.ref 1, .int (5 : Int32), .int a1]) (rest := []) (L0 := [(0, .ref 1), (1, .int (5 : Int32)), (2, .int a1)]) gX10_isReal_0.2.2.2.2.2.2.2.1 rfl rfl rfl rfl rfl (vok_v (ob_1 hE) rfl) rfl (r_dep (by decide) (e_X10_get hE q (5 : Int32) a1)) (fun r2 => ?_)
    refine r_if_ne (t := 21) gX10_isReal_0.2.2.2.2.2.2.2.2.1 rfl (fun h3 => ?_) (fun h3 => ?_)
    · refine r_iconst (v := (1 : Int32)) gX10_isReal_0.2.2.2.2.2.2.2.2.2.1 rfl ?_
      refine r_goto (t := 22) gX10_isReal_0.2.2.2.2.2.2.2.2.2.2.1 rfl ?_
      exact r_ireturn gX10_isReal_0.2.2.2.2.2.2.2.2.2.2.2.2.1 rfl rfl
    · refine r_iconst (v := (0 : Int32)) gX10_isReal_0.2.2.2.2.2.2.2.2.2.2.2.1 rfl ?_
      exact r_ireturn gX10_isReal_0.2.2.2.2.2.2.2.2.2.2.2.2.1 rfl rfl
def b_X8_reals_32 (rec_4 : Int32 → Int32 → Option Int32) (q : SS) (l2 : Int32) (s0 : Int32) (s1 : Int32) : Option Int32 :=
  nm (s1 + s0) fun v3 =>
  rec_4 v3 (l2 + (1 : Int32))
theorem rb_X8_reals_32 {E : EE} (hE : GE E) {q : SS} {rec_4 : Int32 → Int32 → Option Int32} (hrec_4 : ∀ (yl1 : Int32) (yl2 : Int32), R E (κi E q) 3 102 4 [(0, .ref 24), (1, .int yl1), (2, .int yl2)] [] q (rec_4 yl1 yl2)) (l2 : Int32) (s0 : Int32) (s1 : Int32) : R E (κi E q) 3 102 32 [(0, .ref 24), (2, .int l2)] [.int s0, .int s1] q (b_X8_reals_32 rec_4 q l2 s0 s1) := by
  unfold b_X8_reals_32
  refine r_iadd gX8_reals_28.2.2.1 ?_
  refine r_nmI fun v3 _ => ?_
  refine r_istore_n (L2 := [(0, .ref 24), (1, .int v3), (2, .int l2)]) gX8_reals_28.2.2.2.1 rfl rfl ?_
  refine r_iinc (x := l2) (v := (l2 + (1 : Int32))) (L2 := [(0, .ref 24), (1, .int v3), (2, .int (l2 + (1 : Int32)))]) gX8_reals_28.2.2.2.2.1 rfl rfl rfl rfl ?_
  refine r_goto (t := 4) gX8_reals_28.2.2.2.2.2.1 rfl ?_
  exact r_sub (L' := [(0, .ref 24), (1, .int v3), (2, .int (l2 + (1 : Int32)))]) (sub_c rfl (sub_c rfl (sub_c rfl sub_n))) (hrec_4 v3 (l2 + (1 : Int32)))
def b_X8_reals_4 (q : SS) : Int32 → Int32 → Option Int32 :=
  fx2 (fun (rec_4 : Int32 → Int32 → Option Int32) (l1 : Int32) (l2 : Int32) =>
  (f_X10_tickets q).bind fun r1 =>
  if r1 ≤ l2 then
  (some l1)
  else
  ((f_X10_isReal q l2).bind fun r2 =>
  if r2 = 0 then
  (b_X8_reals_32 rec_4 q l2 (0 : Int32) l1)
  else
  (b_X8_reals_32 rec_4 q l2 (1 : Int32) l1))) FU
theorem rb_X8_reals_4 {E : EE} (hE : GE E) (q : SS) (l1 : Int32) (l2 : Int32) : R E (κi E q) 3 102 4 [(0, .ref 24), (1, .int l1), (2, .int l2)] [] q (b_X8_reals_4 q l1 l2) := by
  unfold b_X8_reals_4
  refine fx2_ok (P := fun l1 l2 o => R E (κi E q) 3 102 4 [(0, .ref 24), (1, .int l1), (2, .int l2)] [] q o) (fun _ _ => r_no) (fun rec_4 hrec_4 l1 l2 => ?_) _ _ _
  refine r_iload_n (x := l2) gX8_reals_0.2.2.2.2.1 rfl ?_
  refine r_aload_n (x := 24) gX8_reals_0.2.2.2.2.2.1 rfl ?_
  refine r_getA gX8_reals_0.2.2.2.2.2.2.1 (fa_8_9_24 hE) ?_
  refine r_calli (k := 0) (idx := 33) (y := 126) (as := [.ref 1]) (rest := [.int l2]) (L0 := [(0, .ref 1)]) gX8_reals_0.2.2.2.2.2.2.2.1 rfl rfl rfl rfl rfl (vok_v (ob_1 hE) rfl) rfl (r_dep (by decide) (e_X10_tickets hE q)) (fun r1 => ?_)
  refine r_icmp_ge (t := 40) gX8_reals_0.2.2.2.2.2.2.2.2.1 rfl (fun h5 => ?_) (fun h5 => ?_)
  · refine r_iload_n (x := l1) gX8_reals_28.2.2.2.2.2.2.1 rfl ?_
    exact r_ireturn gX8_reals_28.2.2.2.2.2.2.2.1 rfl rfl
  · refine r_iload_n (x := l1) gX8_reals_0.2.2.2.2.2.2.2.2.2.1 rfl ?_
    refine r_aload_n (x := 24) gX8_reals_0.2.2.2.2.2.2.2.2.2.2.1 rfl ?_
    refine r_getA gX8_reals_0.2.2.2.2.2.2.2.2.2.2.2.1 (fa_8_9_24 hE) ?_
    refine r_iload_n (x := l2) gX8_reals_0.2.2.2.2.2.2.2.2.2.2.2.2.1 rfl ?_
    refine r_calli (k := 0) (idx := 41) (y := 131) (as := [.ref 1, .int l2]) (rest := [.int l1]) (L0 := [(0, .ref 1), (1, .int l2)]) gX8_reals_0.2.2.2.2.2.2.2.2.2.2.2.2.2.1 rfl rfl rfl rfl rfl (vok_v (ob_1 hE) rfl) rfl (r_dep (by decide) (e_X10_isReal hE q l2)) (fun r2 => ?_)
    refine r_if_eq (t := 31) gX8_reals_0.2.2.2.2.2.2.2.2.2.2.2.2.2.2.1 rfl (fun h4 => ?_) (fun h4 => ?_)
    · refine r_iconst (v := (0 : Int32)) gX8_reals_28.2.1 rfl ?_
      exact r_sub (L' := [(0, .ref 24), (2, .int l2)]) (sub_c rfl (sub_c rfl sub_n)) (rb_X8_reals_32 hE hrec_4 l2 (0 : Int32) l1)
    · refine r_iconst (v := (1 : Int32)) gX8_reals_0.2.2.2.2.2.2.2.2.2.2.2.2.2.2.2.1 rfl ?_
      refine r_goto (t := 32) gX8_reals_28.1 rfl ?_
      exact r_sub (L' := [(0, .ref 24), (2, .int l2)]) (sub_c rfl (sub_c rfl sub_n)) (rb_X8_reals_32 hE hrec_4 l2 (1 : Int32) l1)
def f_X8_reals (q : SS)  : Option Int32 :=
  b_X8_reals_4 q (0 : Int32) (0 : Int32)
theorem e_X8_reals {E : EE} (hE : GE E) (q : SS)  : R E (κi E q) 3 102 0 [(0, .ref 24)] [] q (f_X8_reals q) := by
  unfold f_X8_reals
  refine r_iconst (v := (0 : Int32)) gX8_reals_0.1 rfl ?_
  refine r_istore_n (L2 := [(0, .ref 24), (1, .int (0 : Int32))]) gX8_reals_0.2.1 rfl rfl ?_
  refine r_iconst (v := (0 : Int32)) gX8_reals_0.2.2.1 rfl ?_
  refine r_istore_n (L2 := [(0, .ref 24), (1, .int (0 : Int32)), (2, .int (0 : Int32))]) gX8_reals_0.2.2.2.1 rfl rfl ?_
  exact r_sub (L' := [(0, .ref 24), (1, .int (0 : Int32)), (2, .int (0 : Int32))]) (sub_c rfl (sub_c rfl (sub_c rfl sub_n))) (rb_X8_reals_4 hE q (0 : Int32) (0 : Int32))
def b_X8_kingDrawn_60 (rec_22 : Int32 → Int32 → Option Int32) (q : SS) (l3 : Int32) (l4 : Int32) : Option Int32 :=
  rec_22 l3 (l4 + (1 : Int32))
theorem rb_X8_kingDrawn_60 {E : EE} (hE : GE E) {q : SS} {rec_22 : Int32 → Int32 → Option Int32} (hrec_22 : ∀ (yl3 : Int32) (yl4 : Int32), R E (κi E q) 4 112 22 [(0, .ref 24), (3, .int yl3), (4, .int yl4)] [] q (rec_22 yl3 yl4)) (l3 : Int32) (l4 : Int32) : R E (κi E q) 4 112 60 [(0, .ref 24), (3, .int l3), (4, .int l4)] [] q (b_X8_kingDrawn_60 rec_22 q l3 l4) := by
  unfold b_X8_kingDrawn_60
  refine r_iinc (x := l4) (v := (l4 + (1 : Int32))) (L2 := [(0, .ref 24), (3, .int l3), (4, .int (l4 + (1 : Int32)))]) gX8_kingDrawn_60.1 rfl rfl rfl rfl ?_
  refine r_goto (t := 22) gX8_kingDrawn_60.2.1 rfl ?_
  exact r_sub (L' := [(0, .ref 24), (3, .int l3), (4, .int (l4 + (1 : Int32)))]) (sub_c rfl (sub_c rfl (sub_c rfl sub_n))) (hrec_22 l3 (l4 + (1 : Int32)))
def b_X8_kingDrawn_22 (q : SS) : Int32 → Int32 → Option Int32 :=
  fx2 (fun (rec_22 : Int32 → Int32 → Option Int32) (l3 : Int32) (l4 : Int32) =>
  (f_X10_tickets q).bind fun r3 =>
  if r3 ≤ l4 then
  (some (-2 : Int32))
  else
  ((f_X10_isReal q l4).bind fun r4 =>
  if r4 = 0 then
  (b_X8_kingDrawn_60 rec_22 q l3 l4)
  else
  (if l3 = 0 then
  ((f_X8_holderOf q l4).bind fun r5 =>
  some r5)
  else
  (b_X8_kingDrawn_60 rec_22 q (l3 + (-1 : Int32)) l4)))) FU
theorem rb_X8_kingDrawn_22 {E : EE} (hE : GE E) (q : SS) (l3 : Int32) (l4 : Int32) : R E (κi E q) 4 112 22 [(0, .ref 24), (3, .int l3), (4, .int l4)] [] q (b_X8_kingDrawn_22 q l3 l4) := by
  unfold b_X8_kingDrawn_22
  refine fx2_ok (P := fun l3 l4 o => R E (κi E q) 4 112 22 [(0, .ref 24), (3, .int l3), (4, .int l4)] [] q o) (fun _ _ => r_no) (fun rec_22 hrec_22 l3 l4 => ?_) _ _ _
  refine r_iload (x := l4) gX8_kingDrawn_0.2.2.2.2.2.2.2.2.2.2.2.2.2.2.2.1 rfl ?_
  refine r_aload_n (x := 24) gX8_kingDrawn_24.1 rfl ?_
  refine r_getA gX8_kingDrawn_24.2.1 (fa_8_9_24 hE) ?_
  refine r_calli (k := 0) (idx := 33) (y := 126) (as := [.ref 1]) (rest := [.int l4]) (L0 := [(0, .ref 1)]) gX8_kingDrawn_24.2.2.1 rfl rfl rfl rfl rfl (vok_v (ob_1 hE) rfl) rfl (r_dep (by decide) (e_X10_tickets hE q)) (fun r3 => ?_)
  refine r_icmp_ge (t := 66) gX8_kingDrawn_24.2.2.2.1 rfl (fun h8 => ?_) (fun h8 => ?_)
  · refine r_bipush (v := (-2 : Int32)) gX8_kingDrawn_60.2.2.1 rfl ?_
    exact r_ireturn gX8_kingDrawn_60.2.2.2.1 rfl rfl
  · refine r_aload_n (x := 24) gX8_kingDrawn_24.2.2.2.2.1 rfl ?_
    refine r_getA gX8_kingDrawn_24.2.2.2.2.2.1 (fa_8_9_24 hE) ?_
    refine r_iload (x := l4) gX8_kingDrawn_24.2.2.2.2.2.2.1 rfl ?_
    refine r_calli (k := 0) (idx := 41) (y := 131) (as := [.ref 1, .int l4]) (rest := []) (L0 := [(0, .ref 1), (1, .int l4)]) gX8_kingDrawn_24.2.2.2.2.2.2.2.1 rfl rfl rfl rfl rfl (vok_v (ob_1 hE) rfl) rfl (r_dep (by decide) (e_X10_isReal hE q l4)) (fun r4 => ?_)
    refine r_if_eq (t := 60) gX8_kingDrawn_24.2.2.2.2.2.2.2.2.1 rfl (fun h7 => ?_) (fun h7 => ?_)
    · exact r_sub (L' := [(0, .ref 24), (3, .int l3), (4, .int l4)]) (sub_c rfl (sub_c rfl (sub_c rfl sub_n))) (rb_X8_kingDrawn_60 hE hrec_22 l3 l4)
    · refine r_iload_n (x := l3) gX8_kingDrawn_24.2.2.2.2.2.2.2.2.2.1 rfl ?_
      refine r_if_ne (t := 57) gX8_kingDrawn_24.2.2.2.2.2.2.2.2.2.2.1 rfl (fun h6 => ?_) (fun h6 => ?_)
      · refine r_aload_n (x := 24) gX8_kingDrawn_24.2.2.2.2.2.2.2.2.2.2.2.1 rfl ?_
        refine r_iload (x := l4) gX8_kingDrawn_24.2.2.2.2.2.2.2.2.2.2.2.2.1 rfl ?_
        refine r_calli (k := 0) (idx := 37) (y := 98) (as := [.ref 24, .int l4]) (rest := []) (L0 := [(0, .ref 24), (1, .int l4)]) gX8_kingDrawn_24.2.2.2.2.2.2.2.2.2.2.2.2.2.1 rfl rfl rfl rfl rfl (vok_v (ob_24 hE) rfl) rfl (r_dep (by decide) (e_X8_holderOf hE q l4)) (fun r5 => ?_)
        exact r_ireturn gX8_kingDrawn_24.2.2.2.2.2.2.2.2.2.2.2.2.2.2.1 rfl rfl
      · refine r_iinc (x := l3) (v := (l3 + (-1 : Int32))) (L2 := [(0, .ref 24), (3, .int (l3 + (-1 : Int32))), (4, .int l4)]) gX8_kingDrawn_24.2.2.2.2.2.2.2.2.2.2.2.2.2.2.2.1 rfl rfl rfl rfl ?_
        exact r_sub (L' := [(0, .ref 24), (3, .int (l3 + (-1 : Int32))), (4, .int l4)]) (sub_c rfl (sub_c rfl (sub_c rfl sub_n))) (rb_X8_kingDrawn_60 hE hrec_22 (l3 + (-1 : Int32)) l4)
def f_X8_kingDrawn (q : SS) (a1 : Int32) : Option Int32 :=
  (f_X8_reals q).bind fun r1 =>
  if 0 < r1 then
  (if r1 = 0 then none else
  nm (jrem (jushr a1 (8 : Int32)) r1) fun v2 =>
  b_X8_kingDrawn_22 q v2 (0 : Int32))
  else
  (some (-2 : Int32))
theorem e_X8_kingDrawn {E : EE} (hE : GE E) (q : SS) (a1 : Int32) : R E (κi E q) 4 112 0 [(0, .ref 24), (1, .int a1)] [] q (f_X8_kingDrawn q a1) := by
  unfold f_X8_kingDrawn
  refine r_aload_n (x := 24) gX8_kingDrawn_0.1 rfl ?_
  refine r_calli (k := 0) (idx := 95) (y := 102) (as := [.ref 24]) (rest := []) (L0 := [(0, .ref 24)]) gX8_kingDrawn_0.2.1 rfl rfl rfl rfl rfl (vok_v (ob_24 hE) rfl) rfl (r_dep (by decide) (e_X8_reals hE q)) (fun r1 => ?_)
  refine r_istore_n (L2 := [(0, .ref 24), (1, .int a1), (2, .int r1)]) gX8_kingDrawn_0.2.2.1 rfl rfl ?_
  refine r_iload_n (x := r1) gX8_kingDrawn_0.2.2.2.1 rfl ?_
  refine r_if_gt (t := 12) gX8_kingDrawn_0.2.2.2.2.1 rfl (fun h9 => ?_) (fun h9 => ?_)
  · refine r_iload_n (x := a1) gX8_kingDrawn_0.2.2.2.2.2.2.2.1 rfl ?_
    refine r_bipush (v := (8 : Int32)) gX8_kingDrawn_0.2.2.2.2.2.2.2.2.1 rfl ?_
    refine r_iushr gX8_kingDrawn_0.2.2.2.2.2.2.2.2.2.1 ?_
    refine r_iload_n (x := r1) gX8_kingDrawn_0.2.2.2.2.2.2.2.2.2.2.1 rfl ?_
    refine r_irem gX8_kingDrawn_0.2.2.2.2.2.2.2.2.2.2.2.1 ?_
    refine r_nmI fun v2 _ => ?_
    refine r_istore_n (L2 := [(0, .ref 24), (1, .int a1), (2, .int r1), (3, .int v2)]) gX8_kingDrawn_0.2.2.2.2.2.2.2.2.2.2.2.2.1 rfl rfl ?_
    refine r_iconst (v := (0 : Int32)) gX8_kingDrawn_0.2.2.2.2.2.2.2.2.2.2.2.2.2.1 rfl ?_
    refine r_istore (L2 := [(0, .ref 24), (1, .int a1), (2, .int r1), (3, .int v2), (4, .int (0 : Int32))]) gX8_kingDrawn_0.2.2.2.2.2.2.2.2.2.2.2.2.2.2.1 rfl rfl ?_
    exact r_sub (L' := [(0, .ref 24), (3, .int v2), (4, .int (0 : Int32))]) (sub_c rfl (sub_c rfl (sub_c rfl sub_n))) (rb_X8_kingDrawn_22 hE q v2 (0 : Int32))
  · refine r_bipush (v := (-2 : Int32)) gX8_kingDrawn_0.2.2.2.2.2.1 rfl ?_
    exact r_ireturn gX8_kingDrawn_0.2.2.2.2.2.2.1 rfl rfl
def b_X11_drawn_156 (rec_70 : SS → Int32 → Int32 → Int32 → Int32 → Int32 → Int32 → Int32 → Option (Int32 × SS)) (q : SS) (l3 : Int32) (l4 : Int32) (l5 : Int32) (l6 : Int32) (l7 : Int32) (l9 : Int32) (s0 : Int32) (s1 : Int32) : Option (Int32 × SS) :=
  nm (s1 + s0) fun v7 =>
  rec_70 q l3 l4 l5 l6 l7 v7 (l9 + (1 : Int32))
theorem rb_X11_drawn_156 {E : EE} (hE : GE E) {rec_70 : SS → Int32 → Int32 → Int32 → Int32 → Int32 → Int32 → Int32 → Option (Int32 × SS)} (hrec_70 : ∀ (yq : SS) (yl3 : Int32) (yl4 : Int32) (yl5 : Int32) (yl6 : Int32) (yl7 : Int32) (yl8 : Int32) (yl9 : Int32), R E (κI E) 6 168 70 [(0, .ref 0), (3, .int yl3), (4, .int yl4), (5, .int yl5), (6, .int yl6), (7, .int yl7), (8, .int yl8), (9, .int yl9)] [] yq (rec_70 yq yl3 yl4 yl5 yl6 yl7 yl8 yl9)) (q : SS) (l3 : Int32) (l4 : Int32) (l5 : Int32) (l6 : Int32) (l7 : Int32) (l9 : Int32) (s0 : Int32) (s1 : Int32) : R E (κI E) 6 168 156 [(0, .ref 0), (3, .int l3), (4, .int l4), (5, .int l5), (6, .int l6), (7, .int l7), (9, .int l9)] [.int s0, .int s1] q (b_X11_drawn_156 rec_70 q l3 l4 l5 l6 l7 l9 s0 s1) := by
  unfold b_X11_drawn_156
  refine r_iadd gX11_drawn_156.1 ?_
  refine r_nmI fun v7 _ => ?_
  refine r_istore (L2 := [(0, .ref 0), (3, .int l3), (4, .int l4), (5, .int l5), (6, .int l6), (7, .int l7), (8, .int v7), (9, .int l9)]) gX11_drawn_156.2.1 rfl rfl ?_
  refine r_iinc (x := l9) (v := (l9 + (1 : Int32))) (L2 := [(0, .ref 0), (3, .int l3), (4, .int l4), (5, .int l5), (6, .int l6), (7, .int l7), (8, .int v7), (9, .int (l9 + (1 : Int32)))]) gX11_drawn_156.2.2.1 rfl rfl rfl rfl ?_
  refine r_goto (t := 70) gX11_drawn_156.2.2.2.1 rfl ?_
  exact r_sub (L' := [(0, .ref 0), (3, .int l3), (4, .int l4), (5, .int l5), (6, .int l6), (7, .int l7), (8, .int v7), (9, .int (l9 + (1 : Int32)))]) (sub_c rfl (sub_c rfl (sub_c rfl (sub_c rfl (sub_c rfl (sub_c rfl (sub_c rfl (sub_c rfl sub_n)))))))) (hrec_70 q l3 l4 l5 l6 l7 v7 (l9 + (1 : Int32)))
def b_X11_drawn_120 (rec_70 : SS → Int32 → Int32 → Int32 → Int32 → Int32 → Int32 → Int32 → Option (Int32 × SS)) (rec_87 : SS → Int32 → Int32 → Int32 → Int32 → Int32 → Int32 → Int32 → Int32 → Option (Int32 × SS)) (q : SS) (l3 : Int32) (l4 : Int32) (l5 : Int32) (l6 : Int32) (l8 : Int32) (l9 : Int32) (l10 : Int32) (s0 : Int32) (s1 : Int32) : Option (Int32 × SS) :=
  nm (s1 + s0) fun v11 =>
  rec_87 q l3 l4 l5 l6 v11 l8 l9 (l10 + (1 : Int32))
theorem rb_X11_drawn_120 {E : EE} (hE : GE E) {rec_70 : SS → Int32 → Int32 → Int32 → Int32 → Int32 → Int32 → Int32 → Option (Int32 × SS)} (hrec_70 : ∀ (yq : SS) (yl3 : Int32) (yl4 : Int32) (yl5 : Int32) (yl6 : Int32) (yl7 : Int32) (yl8 : Int32) (yl9 : Int32), R E (κI E) 6 168 70 [(0, .ref 0), (3, .int yl3), (4, .int yl4), (5, .int yl5), (6, .int yl6), (7, .int yl7), (8, .int yl8), (9, .int yl9)] [] yq (rec_70 yq yl3 yl4 yl5 yl6 yl7 yl8 yl9)) {rec_87 : SS → Int32 → Int32 → Int32 → Int32 → Int32 → Int32 → Int32 → Int32 → Option (Int32 × SS)} (hrec_87 : ∀ (yq : SS) (yl3 : Int32) (yl4 : Int32) (yl5 : Int32) (yl6 : Int32) (yl7 : Int32) (yl8 : Int32) (yl9 : Int32) (yl10 : Int32), R E (κI E) 6 168 87 [(0, .ref 0), (3, .int yl3), (4, .int yl4), (5, .int yl5), (6, .int yl6), (7, .int yl7), (8, .int yl8), (9, .int yl9), (10, .int yl10)] [] yq (rec_87 yq yl3 yl4 yl5 yl6 yl7 yl8 yl9 yl10)) (q : SS) (l3 : Int32) (l4 : Int32) (l5 : Int32) (l6 : Int32) (l8 : Int32) (l9 : Int32) (l10 : Int32) (s0 : Int32) (s1 : Int32) : R E (κI E) 6 168 120 [(0, .ref 0), (3, .int l3), (4, .int l4), (5, .int l5), (6, .int l6), (8, .int l8), (9, .int l9), (10, .int l10)] [.int s0, .int s1] q (b_X11_drawn_120 rec_70 rec_87 q l3 l4 l5 l6 l8 l9 l10 s0 s1) := by
  unfold b_X11_drawn_120
  refine r_iadd gX11_drawn_87.2.2.2.2.2.2.2.2.2.2.2.2.2.2.2.1 ?_
  refine r_nmI fun v11 _ => ?_
  refine r_istore (L2 := [(0, .ref 0), (3, .int l3), (4, .int l4), (5, .int l5), (6, .int l6), (7, .int v11), (8, .int l8), (9, .int l9), (10, .int l10)]) gX11_drawn_121.1 rfl rfl ?_
  refine r_iinc (x := l10) (v := (l10 + (1 : Int32))) (L2 := [(0, .ref 0), (3, .int l3), (4, .int l4), (5, .int l5), (6, .int l6), (7, .int v11), (8, .int l8), (9, .int l9), (10, .int (l10 + (1 : Int32)))]) gX11_drawn_121.2.1 rfl rfl rfl rfl ?_
  refine r_goto (t := 87) gX11_drawn_121.2.2.1 rfl ?_
  exact r_sub (L' := [(0, .ref 0), (3, .int l3), (4, .int l4), (5, .int l5), (6, .int l6), (7, .int v11), (8, .int l8), (9, .int l9), (10, .int (l10 + (1 : Int32)))]) (sub_c rfl (sub_c rfl (sub_c rfl (sub_c rfl (sub_c rfl (sub_c rfl (sub_c rfl (sub_c rfl (sub_c rfl sub_n))))))))) (hrec_87 q l3 l4 l5 l6 v11 l8 l9 (l10 + (1 : Int32)))
def b_X11_drawn_87 (rec_70 : SS → Int32 → Int32 → Int32 → Int32 → Int32 → Int32 → Int32 → Option (Int32 × SS)) : SS → Int32 → Int32 → Int32 → Int32 → Int32 → Int32 → Int32 → Int32 → Option (Int32 × SS) :=
  fx9 (fun (rec_87 : SS → Int32 → Int32 → Int32 → Int32 → Int32 → Int32 → Int32 → Int32 → Option (Int32 × SS)) (q : SS) (l3 : Int32) (l4 : Int32) (l5 : Int32) (l6 : Int32) (l7 : Int32) (l8 : Int32) (l9 : Int32) (l10 : Int32) =>
  if l5 ≤ l10 then
  ((f_X11_nextDraw q l6).bind fun r5 =>
  (f_X8_kingDrawn q r5).bind fun r6 =>
  if r6 = l3 then
  (b_X11_drawn_156 rec_70 q l3 l4 l5 r5 l7 l9 (1 : Int32) l8)
  else
  (b_X11_drawn_156 rec_70 q l3 l4 l5 r5 l7 l9 (0 : Int32) l8))
  else
  ((f_X11_nextDraw q l6).bind fun r9 =>
  (f_X8_slipDrawn q r9).bind fun r10 =>
  if r10.1 = 0 then
  (b_X11_drawn_120 rec_70 rec_87 r10.2 l3 l4 l5 r9 l8 l9 l10 (0 : Int32) l7)
  else
  (b_X11_drawn_120 rec_70 rec_87 r10.2 l3 l4 l5 r9 l8 l9 l10 (1 : Int32) l7))) FU
theorem rb_X11_drawn_87 {E : EE} (hE : GE E) {rec_70 : SS → Int32 → Int32 → Int32 → Int32 → Int32 → Int32 → Int32 → Option (Int32 × SS)} (hrec_70 : ∀ (yq : SS) (yl3 : Int32) (yl4 : Int32) (yl5 : Int32) (yl6 : Int32) (yl7 : Int32) (yl8 : Int32) (yl9 : Int32), R E (κI E) 6 168 70 [(0, .ref 0), (3, .int yl3), (4, .int yl4), (5, .int yl5), (6, .int yl6), (7, .int yl7), (8, .int yl8), (9, .int yl9)] [] yq (rec_70 yq yl3 yl4 yl5 yl6 yl7 yl8 yl9)) (q : SS) (l3 : Int32) (l4 : Int32) (l5 : Int32) (l6 : Int32) (l7 : Int32) (l8 : Int32) (l9 : Int32) (l10 : Int32) : R E (κI E) 6 168 87 [(0, .ref 0), (3, .int l3), (4, .int l4), (5, .int l5), (6, .int l6), (7, .int l7), (8, .int l8), (9, .int l9), (10, .int l10)] [] q (b_X11_drawn_87 rec_70 q l3 l4 l5 l6 l7 l8 l9 l10) := by
  unfold b_X11_drawn_87
  refine fx9_ok (P := fun q l3 l4 l5 l6 l7 l8 l9 l10 o => R E (κI E) 6 168 87 [(0, .ref 0), (3, .int l3), (4, .int l4), (5, .int l5), (6, .int l6), (7, .int l7), (8, .int l8), (9, .int l9), (10, .int l10)] [] q o) (fun _ _ _ _ _ _ _ _ _ => r_no) (fun rec_87 hrec_87 q l3 l4 l5 l6 l7 l8 l9 l10 => ?_) _ _ _ _ _ _ _ _ _ _
  refine r_iload (x := l10) gX11_drawn_87.1 rfl ?_
  refine r_iload (x := l5) gX11_drawn_87.2.1 rfl ?_
  refine r_icmp_ge (t := 129) gX11_drawn_87.2.2.1 rfl (fun h13 => ?_) (fun h13 => ?_)
  · refine r_iload (x := l6) gX11_drawn_121.2.2.2.1 rfl ?_
    refine r_calli (k := 2) (idx := 295) (y := 169) (as := [.int l6]) (rest := []) (L0 := [(0, .int l6)]) gX11_drawn_121.2.2.2.2.1 rfl rfl rfl rfl rfl vok_s rfl (r_dep (by decide) (e_X11_nextDraw hE q l6)) (fun r5 => ?_)
    refine r_istore (L2 := [(0, .ref 0), (3, .int l3), (4, .int l4), (5, .int l5), (6, .int r5), (7, .int l7), (8, .int l8), (9, .int l9), (10, .int l10)]) gX11_drawn_121.2.2.2.2.2.1 rfl rfl ?_
    refine r_iload (x := l8) gX11_drawn_121.2.2.2.2.2.2.1 rfl ?_
    refine r_aload_n (x := 0) gX11_drawn_121.2.2.2.2.2.2.2.1 rfl ?_
    refine r_getA gX11_drawn_121.2.2.2.2.2.2.2.2.1 (fa_11_35_0 hE) ?_
    refine r_iload (x := r5) gX11_drawn_121.2.2.2.2.2.2.2.2.2.1 rfl ?_
    refine r_calli (k := 0) (idx := 301) (y := 112) (as := [.ref 24, .int r5]) (rest := [.int l8]) (L0 := [(0, .ref 24), (1, .int r5)]) gX11_drawn_121.2.2.2.2.2.2.2.2.2.2.1 rfl rfl rfl rfl rfl (vok_v (ob_24 hE) rfl) rfl (r_dep (by decide) (e_X8_kingDrawn hE q r5)) (fun r6 => ?_)
    refine r_iload_n (x := l3) gX11_drawn_121.2.2.2.2.2.2.2.2.2.2.2.1 rfl ?_
    refine r_icmp_ne (t := 155) gX11_drawn_121.2.2.2.2.2.2.2.2.2.2.2.2.1 rfl (fun h8 => ?_) (fun h8 => ?_)
    · refine r_iconst (v := (1 : Int32)) gX11_drawn_121.2.2.2.2.2.2.2.2.2.2.2.2.2.1 rfl ?_
      refine r_goto (t := 156) gX11_drawn_121.2.2.2.2.2.2.2.2.2.2.2.2.2.2.1 rfl ?_
      exact r_sub (L' := [(0, .ref 0), (3, .int l3), (4, .int l4), (5, .int l5), (6, .int r5), (7, .int l7), (9, .int l9)]) (sub_c rfl (sub_c rfl (sub_c rfl (sub_c rfl (sub_c rfl (sub_c rfl (sub_c rfl sub_n))))))) (rb_X11_drawn_156 hE hrec_70 q l3 l4 l5 r5 l7 l9 (1 : Int32) l8)
    · refine r_iconst (v := (0 : Int32)) gX11_drawn_121.2.2.2.2.2.2.2.2.2.2.2.2.2.2.2.1 rfl ?_
      exact r_sub (L' := [(0, .ref 0), (3, .int l3), (4, .int l4), (5, .int l5), (6, .int r5), (7, .int l7), (9, .int l9)]) (sub_c rfl (sub_c rfl (sub_c rfl (sub_c rfl (sub_c rfl (sub_c rfl (sub_c rfl sub_n))))))) (rb_X11_drawn_156 hE hrec_70 q l3 l4 l5 r5 l7 l9 (0 : Int32) l8)
  · refine r_iload (x := l6) gX11_drawn_87.2.2.2.1 rfl ?_
    refine r_calli (k := 2) (idx := 295) (y := 169) (as := [.int l6]) (rest := []) (L0 := [(0, .int l6)]) gX11_drawn_87.2.2.2.2.1 rfl rfl rfl rfl rfl vok_s rfl (r_dep (by decide) (e_X11_nextDraw hE q l6)) (fun r9 => ?_)
    refine r_istore (L2 := [(0, .ref 0), (3, .int l3), (4, .int l4), (5, .int l5), (6, .int r9), (7, .int l7), (8, .int l8), (9, .int l9), (10, .int l10)]) gX11_drawn_87.2.2.2.2.2.1 rfl rfl ?_
    refine r_iload (x := l7) gX11_drawn_87.2.2.2.2.2.2.1 rfl ?_
    refine r_aload_n (x := 0) gX11_drawn_87.2.2.2.2.2.2.2.1 rfl ?_
    refine r_getA gX11_drawn_87.2.2.2.2.2.2.2.2.1 (fa_11_35_0 hE) ?_
    refine r_iload (x := r9) gX11_drawn_87.2.2.2.2.2.2.2.2.2.1 rfl ?_
    refine r_callI (k := 0) (idx := 298) (y := 111) (as := [.ref 24, .int r9]) (rest := [.int l7]) (L0 := [(0, .ref 24), (1, .int r9)]) gX11_drawn_87.2.2.2.2.2.2.2.2.2.2.1 rfl rfl rfl rfl rfl (vok_v (ob_24 hE) rfl) rfl (r_dep (by decide) (e_X8_slipDrawn hE q r9)) (fun r10 => ?_)
    refine r_if_eq (t := 119) gX11_drawn_87.2.2.2.2.2.2.2.2.2.2.2.1 rfl (fun h12 => ?_) (fun h12 => ?_)
    · refine r_iconst (v := (0 : Int32)) gX11_drawn_87.2.2.2.2.2.2.2.2.2.2.2.2.2.2.1 rfl ?_
      exact r_sub (L' := [(0, .ref 0), (3, .int l3), (4, .int l4), (5, .int l5), (6, .int r9), (8, .int l8), (9, .int l9), (10, .int l10)]) (sub_c rfl (sub_c rfl (sub_c rfl (sub_c rfl (sub_c rfl (sub_c rfl (sub_c rfl (sub_c rfl sub_n)))))))) (rb_X11_drawn_120 hE hrec_70 hrec_87 r10.2 l3 l4 l5 r9 l8 l9 l10 (0 : Int32) l7)
    · refine r_iconst (v := (1 : Int32)) gX11_drawn_87.2.2.2.2.2.2.2.2.2.2.2.2.1 rfl ?_
      refine r_goto (t := 120) gX11_drawn_87.2.2.2.2.2.2.2.2.2.2.2.2.2.1 rfl ?_
      exact r_sub (L' := [(0, .ref 0), (3, .int l3), (4, .int l4), (5, .int l5), (6, .int r9), (8, .int l8), (9, .int l9), (10, .int l10)]) (sub_c rfl (sub_c rfl (sub_c rfl (sub_c rfl (sub_c rfl (sub_c rfl (sub_c rfl (sub_c rfl sub_n)))))))) (rb_X11_drawn_120 hE hrec_70 hrec_87 r10.2 l3 l4 l5 r9 l8 l9 l10 (1 : Int32) l7)
def b_X11_drawn_70 : SS → Int32 → Int32 → Int32 → Int32 → Int32 → Int32 → Int32 → Option (Int32 × SS) :=
  fx8 (fun (rec_70 : SS → Int32 → Int32 → Int32 → Int32 → Int32 → Int32 → Int32 → Option (Int32 × SS)) (q : SS) (l3 : Int32) (l4 : Int32) (l5 : Int32) (l6 : Int32) (l7 : Int32) (l8 : Int32) (l9 : Int32) =>
  if l4 ≤ l9 then
  (if l3 = (-1 : Int32) then
  (some (l7, q))
  else
  (some (l8, q)))
  else
  ((f_X8_begin q).bind fun r4 =>
  b_X11_drawn_87 rec_70 r4 l3 l4 l5 l6 l7 l8 l9 (0 : Int32))) FU
theorem rb_X11_drawn_70 {E : EE} (hE : GE E) (q : SS) (l3 : Int32) (l4 : Int32) (l5 : Int32) (l6 : Int32) (l7 : Int32) (l8 : Int32) (l9 : Int32) : R E (κI E) 6 168 70 [(0, .ref 0), (3, .int l3), (4, .int l4), (5, .int l5), (6, .int l6), (7, .int l7), (8, .int l8), (9, .int l9)] [] q (b_X11_drawn_70 q l3 l4 l5 l6 l7 l8 l9) := by
  unfold b_X11_drawn_70
  refine fx8_ok (P := fun q l3 l4 l5 l6 l7 l8 l9 o => R E (κI E) 6 168 70 [(0, .ref 0), (3, .int l3), (4, .int l4), (5, .int l5), (6, .int l6), (7, .int l7), (8, .int l8), (9, .int l9)] [] q o) (fun _ _ _ _ _ _ _ _ => r_no) (fun rec_70 hrec_70 q l3 l4 l5 l6 l7 l8 l9 => ?_) _ _ _ _ _ _ _ _ _
  refine r_iload (x := l9) gX11_drawn_58.2.2.2.2.2.2.2.2.1 rfl ?_
  refine r_iload (x := l4) gX11_drawn_58.2.2.2.2.2.2.2.2.2.1 rfl ?_
  refine r_icmp_ge (t := 165) gX11_drawn_58.2.2.2.2.2.2.2.2.2.2.1 rfl (fun h14 => ?_) (fun h14 => ?_)
  · refine r_iload_n (x := l3) gX11_drawn_156.2.2.2.2.1 rfl ?_
    refine r_iconst (v := (-1 : Int32)) gX11_drawn_156.2.2.2.2.2.1 rfl ?_
    refine r_icmp_ne (t := 175) gX11_drawn_156.2.2.2.2.2.2.1 rfl (fun h3 => ?_) (fun h3 => ?_)
    · refine r_iload (x := l7) gX11_drawn_156.2.2.2.2.2.2.2.1 rfl ?_
      refine r_goto (t := 177) gX11_drawn_156.2.2.2.2.2.2.2.2.1 rfl ?_
      exact r_ireturn gX11_drawn_156.2.2.2.2.2.2.2.2.2.2.1 rfl rfl
    · refine r_iload (x := l8) gX11_drawn_156.2.2.2.2.2.2.2.2.2.1 rfl ?_
      exact r_ireturn gX11_drawn_156.2.2.2.2.2.2.2.2.2.2.1 rfl rfl
  · refine r_aload_n (x := 0) gX11_drawn_58.2.2.2.2.2.2.2.2.2.2.2.1 rfl ?_
    refine r_getA gX11_drawn_58.2.2.2.2.2.2.2.2.2.2.2.2.1 (fa_11_35_0 hE) ?_
    refine r_callV (k := 0) (idx := 177) (y := 97) (as := [.ref 24]) (rest := []) (L0 := [(0, .ref 24)]) gX11_drawn_58.2.2.2.2.2.2.2.2.2.2.2.2.2.1 rfl rfl rfl rfl rfl (vok_v (ob_24 hE) rfl) rfl (r_dep (by decide) (e_X8_begin hE q)) (fun r4 => ?_)
    refine r_iconst (v := (0 : Int32)) gX11_drawn_58.2.2.2.2.2.2.2.2.2.2.2.2.2.2.1 rfl ?_
    refine r_istore (L2 := [(0, .ref 0), (3, .int l3), (4, .int l4), (5, .int l5), (6, .int l6), (7, .int l7), (8, .int l8), (9, .int l9), (10, .int (0 : Int32))]) gX11_drawn_58.2.2.2.2.2.2.2.2.2.2.2.2.2.2.2.1 rfl rfl ?_
    exact r_sub (L' := [(0, .ref 0), (3, .int l3), (4, .int l4), (5, .int l5), (6, .int l6), (7, .int l7), (8, .int l8), (9, .int l9), (10, .int (0 : Int32))]) (sub_c rfl (sub_c rfl (sub_c rfl (sub_c rfl (sub_c rfl (sub_c rfl (sub_c rfl (sub_c rfl (sub_c rfl sub_n))))))))) (rb_X11_drawn_87 hE hrec_70 r4 l3 l4 l5 l6 l7 l8 l9 (0 : Int32))
def b_X11_drawn_58 (q : SS) (l1 : Int32) (l3 : Int32) (l4 : Int32) (l5 : Int32) : Option (Int32 × SS) :=
  b_X11_drawn_70 q l3 l4 l5 l1 (0 : Int32) (0 : Int32) (0 : Int32)
theorem rb_X11_drawn_58 {E : EE} (hE : GE E) (q : SS) (l1 : Int32) (l3 : Int32) (l4 : Int32) (l5 : Int32) : R E (κI E) 6 168 58 [(0, .ref 0), (1, .int l1), (3, .int l3), (4, .int l4), (5, .int l5)] [] q (b_X11_drawn_58 q l1 l3 l4 l5) := by
  unfold b_X11_drawn_58
  refine r_iload_n (x := l1) gX11_drawn_58.1 rfl ?_
  refine r_istore (L2 := [(0, .ref 0), (1, .int l1), (3, .int l3), (4, .int l4), (5, .int l5), (6, .int l1)]) gX11_drawn_58.2.1 rfl rfl ?_
  refine r_iconst (v := (0 : Int32)) gX11_drawn_58.2.2.1 rfl ?_
  refine r_istore (L2 := [(0, .ref 0), (1, .int l1), (3, .int l3), (4, .int l4), (5, .int l5), (6, .int l1), (7, .int (0 : Int32))]) gX11_drawn_58.2.2.2.1 rfl rfl ?_
  refine r_iconst (v := (0 : Int32)) gX11_drawn_58.2.2.2.2.1 rfl ?_
  refine r_istore (L2 := [(0, .ref 0), (1, .int l1), (3, .int l3), (4, .int l4), (5, .int l5), (6, .int l1), (7, .int (0 : Int32)), (8, .int (0 : Int32))]) gX11_drawn_58.2.2.2.2.2.1 rfl rfl ?_
  refine r_iconst (v := (0 : Int32)) gX11_drawn_58.2.2.2.2.2.2.1 rfl ?_
  refine r_istore (L2 := [(0, .ref 0), (1, .int l1), (3, .int l3), (4, .int l4), (5, .int l5), (6, .int l1), (7, .int (0 : Int32)), (8, .int (0 : Int32)), (9, .int (0 : Int32))]) gX11_drawn_58.2.2.2.2.2.2.2.1 rfl rfl ?_
  exact r_sub (L' := [(0, .ref 0), (3, .int l3), (4, .int l4), (5, .int l5), (6, .int l1), (7, .int (0 : Int32)), (8, .int (0 : Int32)), (9, .int (0 : Int32))]) (sub_c rfl (sub_c rfl (sub_c rfl (sub_c rfl (sub_c rfl (sub_c rfl (sub_c rfl (sub_c rfl sub_n)))))))) (rb_X11_drawn_70 hE q l3 l4 l5 l1 (0 : Int32) (0 : Int32) (0 : Int32))
def f_X11_drawn (q : SS) (a1 : Int32) (a2 : Int32) (a3 : Int32) : Option (Int32 × SS) :=
  nm (a2 / (100 : Int32)) fun v1 =>
  nm (jrem a2 (100 : Int32)) fun v2 =>
  if v1 < (1 : Int32) then
  (some ((-1 : Int32), q))
  else
  (if (30 : Int32) < v1 then
  (some ((-1 : Int32), q))
  else
  (if v2 < (1 : Int32) then
  (some ((-1 : Int32), q))
  else
  (if v2 ≤ (30 : Int32) then
  (if a3 = (-1 : Int32) then
  (b_X11_drawn_58 q a1 a3 v1 v2)
  else
  ((f_X10_isPerson q a3).bind fun r15 =>
  if r15 = 0 then
  (some ((-1 : Int32), q))
  else
  (b_X11_drawn_58 q a1 a3 v1 v2)))
  else
  (some ((-1 : Int32), q)))))
theorem e_X11_drawn {E : EE} (hE : GE E) (q : SS) (a1 : Int32) (a2 : Int32) (a3 : Int32) : R E (κI E) 6 168 0 [(0, .ref 0), (1, .int a1), (2, .int a2), (3, .int a3)] [] q (f_X11_drawn q a1 a2 a3) := by
  unfold f_X11_drawn
  refine r_iload_n (x := a2) gX11_drawn_0.1 rfl ?_
  refine r_bipush (v := (100 : Int32)) gX11_drawn_0.2.1 rfl ?_
  refine r_idivC gX11_drawn_0.2.2.1 (by decide) ?_
  refine r_nmI fun v1 _ => ?_
  refine r_istore (L2 := [(0, .ref 0), (1, .int a1), (2, .int a2), (3, .int a3), (4, .int v1)]) gX11_drawn_0.2.2.2.1 rfl rfl ?_
  refine r_iload_n (x := a2) gX11_drawn_0.2.2.2.2.1 rfl ?_
  refine r_bipush (v := (100 : Int32)) gX11_drawn_0.2.2.2.2.2.1 rfl ?_
  refine r_iremC gX11_drawn_0.2.2.2.2.2.2.1 (by decide) ?_
  refine r_nmI fun v2 _ => ?_
  refine r_istore (L2 := [(0, .ref 0), (1, .int a1), (2, .int a2), (3, .int a3), (4, .int v1), (5, .int v2)]) gX11_drawn_0.2.2.2.2.2.2.2.1 rfl rfl ?_
  refine r_iload (x := v1) gX11_drawn_0.2.2.2.2.2.2.2.2.1 rfl ?_
  refine r_iconst (v := (1 : Int32)) gX11_drawn_0.2.2.2.2.2.2.2.2.2.1 rfl ?_
  refine r_icmp_lt (t := 38) gX11_drawn_0.2.2.2.2.2.2.2.2.2.2.1 rfl (fun h21 => ?_) (fun h21 => ?_)
  · refine r_iconst (v := (-1 : Int32)) gX11_drawn_28.2.2.2.2.1 rfl ?_
    exact r_ireturn gX11_drawn_28.2.2.2.2.2.1 rfl rfl
  · refine r_iload (x := v1) gX11_drawn_0.2.2.2.2.2.2.2.2.2.2.2.1 rfl ?_
    refine r_bipush (v := (30 : Int32)) gX11_drawn_0.2.2.2.2.2.2.2.2.2.2.2.2.1 rfl ?_
    refine r_icmp_gt (t := 38) gX11_drawn_0.2.2.2.2.2.2.2.2.2.2.2.2.2.1 rfl (fun h20 => ?_) (fun h20 => ?_)
    · refine r_iconst (v := (-1 : Int32)) gX11_drawn_28.2.2.2.2.1 rfl ?_
      exact r_ireturn gX11_drawn_28.2.2.2.2.2.1 rfl rfl
    · refine r_iload (x := v2) gX11_drawn_0.2.2.2.2.2.2.2.2.2.2.2.2.2.2.1 rfl ?_
      refine r_iconst (v := (1 : Int32)) gX11_drawn_0.2.2.2.2.2.2.2.2.2.2.2.2.2.2.2.1 rfl ?_
      refine r_icmp_lt (t := 38) gX11_drawn_28.1 rfl (fun h19 => ?_) (fun h19 => ?_)
      · refine r_iconst (v := (-1 : Int32)) gX11_drawn_28.2.2.2.2.1 rfl ?_
        exact r_ireturn gX11_drawn_28.2.2.2.2.2.1 rfl rfl
      · refine r_iload (x := v2) gX11_drawn_28.2.1 rfl ?_
        refine r_bipush (v := (30 : Int32)) gX11_drawn_28.2.2.1 rfl ?_
        refine r_icmp_le (t := 40) gX11_drawn_28.2.2.2.1 rfl (fun h18 => ?_) (fun h18 => ?_)
        · refine r_iload_n (x := a3) gX11_drawn_28.2.2.2.2.2.2.1 rfl ?_
          refine r_iconst (v := (-1 : Int32)) gX11_drawn_28.2.2.2.2.2.2.2.1 rfl ?_
          refine r_icmp_eq (t := 58) gX11_drawn_28.2.2.2.2.2.2.2.2.1 rfl (fun h17 => ?_) (fun h17 => ?_)
          · exact r_sub (L' := [(0, .ref 0), (1, .int a1), (3, .int a3), (4, .int v1), (5, .int v2)]) (sub_c rfl (sub_c rfl (sub_c rfl (sub_c rfl (sub_c rfl sub_n))))) (rb_X11_drawn_58 hE q a1 a3 v1 v2)
          · refine r_aload_n (x := 0) gX11_drawn_28.2.2.2.2.2.2.2.2.2.1 rfl ?_
            refine r_getA gX11_drawn_28.2.2.2.2.2.2.2.2.2.2.1 (fa_11_10_0 hE) ?_
            refine r_iload_n (x := a3) gX11_drawn_28.2.2.2.2.2.2.2.2.2.2.2.1 rfl ?_
            refine r_calli (k := 0) (idx := 140) (y := 128) (as := [.ref 1, .int a3]) (rest := []) (L0 := [(0, .ref 1), (1, .int a3)]) gX11_drawn_28.2.2.2.2.2.2.2.2.2.2.2.2.1 rfl rfl rfl rfl rfl (vok_v (ob_1 hE) rfl) rfl (r_dep (by decide) (e_X10_isPerson hE q a3)) (fun r15 => ?_)
            refine r_if_ne (t := 58) gX11_drawn_28.2.2.2.2.2.2.2.2.2.2.2.2.2.1 rfl (fun h16 => ?_) (fun h16 => ?_)
            · refine r_iconst (v := (-1 : Int32)) gX11_drawn_28.2.2.2.2.2.2.2.2.2.2.2.2.2.2.1 rfl ?_
              exact r_ireturn gX11_drawn_28.2.2.2.2.2.2.2.2.2.2.2.2.2.2.2.1 rfl rfl
            · exact r_sub (L' := [(0, .ref 0), (1, .int a1), (3, .int a3), (4, .int v1), (5, .int v2)]) (sub_c rfl (sub_c rfl (sub_c rfl (sub_c rfl (sub_c rfl sub_n))))) (rb_X11_drawn_58 hE q a1 a3 v1 v2)
        · refine r_iconst (v := (-1 : Int32)) gX11_drawn_28.2.2.2.2.1 rfl ?_
          exact r_ireturn gX11_drawn_28.2.2.2.2.2.1 rfl rfl
def b_X12_manyOf_25 (rec_4 : Int32 → Int32 → Int32 → Option Int32) (q : SS) (l1 : Int32) (l2 : Int32) (l3 : Int32) : Option Int32 :=
  rec_4 l1 l2 (l3 + (1 : Int32))
theorem rb_X12_manyOf_25 {E : EE} (hE : GE E) {q : SS} {rec_4 : Int32 → Int32 → Int32 → Option Int32} (hrec_4 : ∀ (yl1 : Int32) (yl2 : Int32) (yl3 : Int32), R E (κi E q) 0 227 4 [(0, .ref 60), (1, .int yl1), (2, .int yl2), (3, .int yl3)] [] q (rec_4 yl1 yl2 yl3)) (l1 : Int32) (l2 : Int32) (l3 : Int32) : R E (κi E q) 0 227 25 [(0, .ref 60), (1, .int l1), (2, .int l2), (3, .int l3)] [] q (b_X12_manyOf_25 rec_4 q l1 l2 l3) := by
  unfold b_X12_manyOf_25
  refine r_iinc (x := l3) (v := (l3 + (1 : Int32))) (L2 := [(0, .ref 60), (1, .int l1), (2, .int l2), (3, .int (l3 + (1 : Int32)))]) gX12_manyOf_0.2.2.2.2.2.2.2.2.2.2.2.2.2.2.2.1 rfl rfl rfl rfl ?_
  refine r_goto (t := 4) gX12_manyOf_28.1 rfl ?_
  exact r_sub (L' := [(0, .ref 60), (1, .int l1), (2, .int l2), (3, .int (l3 + (1 : Int32)))]) (sub_c rfl (sub_c rfl (sub_c rfl (sub_c rfl sub_n)))) (hrec_4 l1 l2 (l3 + (1 : Int32)))
def b_X12_manyOf_4 (q : SS) : Int32 → Int32 → Int32 → Option Int32 :=
  fx3 (fun (rec_4 : Int32 → Int32 → Int32 → Option Int32) (l1 : Int32) (l2 : Int32) (l3 : Int32) =>
  if (q.1 60 6) ≤ l3 then
  (some l2)
  else
  (if vin l3 12 then
  if (q.1 81 l3.toNatClampNeg) = l1 then
  (b_X12_manyOf_25 rec_4 q l1 (l2 + (1 : Int32)) l3)
  else
  (b_X12_manyOf_25 rec_4 q l1 l2 l3)
  else none)) FU
theorem rb_X12_manyOf_4 {E : EE} (hE : GE E) (q : SS) (l1 : Int32) (l2 : Int32) (l3 : Int32) : R E (κi E q) 0 227 4 [(0, .ref 60), (1, .int l1), (2, .int l2), (3, .int l3)] [] q (b_X12_manyOf_4 q l1 l2 l3) := by
  unfold b_X12_manyOf_4
  refine fx3_ok (P := fun l1 l2 l3 o => R E (κi E q) 0 227 4 [(0, .ref 60), (1, .int l1), (2, .int l2), (3, .int l3)] [] q o) (fun _ _ _ => r_no) (fun rec_4 hrec_4 l1 l2 l3 => ?_) _ _ _ _
  refine r_iload_n (x := l3) gX12_manyOf_0.2.2.2.2.1 rfl ?_
  refine r_aload_n (x := 60) gX12_manyOf_0.2.2.2.2.2.1 rfl ?_
  refine r_getI gX12_manyOf_0.2.2.2.2.2.2.1 (ff_12_122_60 hE) (by decide) ?_
  refine r_icmp_ge (t := 31) gX12_manyOf_0.2.2.2.2.2.2.2.1 rfl (fun h2 => ?_) (fun h2 => ?_)
  · refine r_iload_n (x := l2) gX12_manyOf_28.2.1 rfl ?_
    exact r_ireturn gX12_manyOf_28.2.2.1 rfl rfl
  · refine r_aload_n (x := 60) gX12_manyOf_0.2.2.2.2.2.2.2.2.1 rfl ?_
    refine r_getA gX12_manyOf_0.2.2.2.2.2.2.2.2.2.1 (fa_12_74_60 hE) ?_
    refine r_iload_n (x := l3) gX12_manyOf_0.2.2.2.2.2.2.2.2.2.2.1 rfl ?_
    refine r_iaload gX12_manyOf_0.2.2.2.2.2.2.2.2.2.2.2.1 (ar_81 hE) ?_
    refine r_iload_n (x := l1) gX12_manyOf_0.2.2.2.2.2.2.2.2.2.2.2.2.1 rfl ?_
    refine r_icmp_ne (t := 25) gX12_manyOf_0.2.2.2.2.2.2.2.2.2.2.2.2.2.1 rfl (fun h1 => ?_) (fun h1 => ?_)
    · refine r_iinc (x := l2) (v := (l2 + (1 : Int32))) (L2 := [(0, .ref 60), (1, .int l1), (2, .int (l2 + (1 : Int32))), (3, .int l3)]) gX12_manyOf_0.2.2.2.2.2.2.2.2.2.2.2.2.2.2.1 rfl rfl rfl rfl ?_
      exact r_sub (L' := [(0, .ref 60), (1, .int l1), (2, .int (l2 + (1 : Int32))), (3, .int l3)]) (sub_c rfl (sub_c rfl (sub_c rfl (sub_c rfl sub_n)))) (rb_X12_manyOf_25 hE hrec_4 l1 (l2 + (1 : Int32)) l3)
    · exact r_sub (L' := [(0, .ref 60), (1, .int l1), (2, .int l2), (3, .int l3)]) (sub_c rfl (sub_c rfl (sub_c rfl (sub_c rfl sub_n)))) (rb_X12_manyOf_25 hE hrec_4 l1 l2 l3)
def f_X12_manyOf (q : SS) (a1 : Int32) : Option Int32 :=
  b_X12_manyOf_4 q a1 (0 : Int32) (0 : Int32)
theorem e_X12_manyOf {E : EE} (hE : GE E) (q : SS) (a1 : Int32) : R E (κi E q) 0 227 0 [(0, .ref 60), (1, .int a1)] [] q (f_X12_manyOf q a1) := by
  unfold f_X12_manyOf
  refine r_iconst (v := (0 : Int32)) gX12_manyOf_0.1 rfl ?_
  refine r_istore_n (L2 := [(0, .ref 60), (1, .int a1), (2, .int (0 : Int32))]) gX12_manyOf_0.2.1 rfl rfl ?_
  refine r_iconst (v := (0 : Int32)) gX12_manyOf_0.2.2.1 rfl ?_
  refine r_istore_n (L2 := [(0, .ref 60), (1, .int a1), (2, .int (0 : Int32)), (3, .int (0 : Int32))]) gX12_manyOf_0.2.2.2.1 rfl rfl ?_
  exact r_sub (L' := [(0, .ref 60), (1, .int a1), (2, .int (0 : Int32)), (3, .int (0 : Int32))]) (sub_c rfl (sub_c rfl (sub_c rfl (sub_c rfl sub_n)))) (rb_X12_manyOf_4 hE q a1 (0 : Int32) (0 : Int32))
def b_X12_twoOf_163 (q : SS)  : Option Int32 :=
  some (0 : Int32)
theorem rb_X12_twoOf_163 {E : EE} (hE : GE E) (q : SS)  : R E (κi E q) 0 222 163 [] [] q (b_X12_twoOf_163 q) := by
  unfold b_X12_twoOf_163
  refine r_iconst (v := (0 : Int32)) gX12_twoOf_140.2.2.2.2.2.2.2.2.2.2.2.2.2.2.2.1 rfl ?_
  refine r_goto (t := 170) gX12_twoOf_164.1 rfl ?_
  exact r_ireturn gX12_twoOf_164.2.2.2.2.1 rfl rfl
def b_X12_twoOf_226 (q : SS)  : Option Int32 :=
  some (1 : Int32)
theorem rb_X12_twoOf_226 {E : EE} (hE : GE E) (q : SS)  : R E (κi E q) 0 222 226 [] [] q (b_X12_twoOf_226 q) := by
  unfold b_X12_twoOf_226
  refine r_iconst (v := (1 : Int32)) gX12_twoOf_216.2.2.2.2.2.2.1 rfl ?_
  refine r_goto (t := 231) gX12_twoOf_216.2.2.2.2.2.2.2.1 rfl ?_
  exact r_ireturn gX12_twoOf_216.2.2.2.2.2.2.2.2.2.1 rfl rfl
def f_X12_twoOf (q : SS) (a0 : Int32) (a1 : Int32) (a2 : Int32) : Option Int32 :=
  sw a0 [(37, (if a2 = 0 then
  (b_X12_twoOf_163 q)
  else
  (if a2 = (-1 : Int32) then
  (b_X12_twoOf_163 q)
  else
  (if a2 = 0 then none else
  some (jrem a1 a2))))), (38, (if a1 = 0 then
  (some (0 : Int32))
  else
  (if a2 = 0 then
  (some (0 : Int32))
  else
  (some (1 : Int32))))), (39, (if a1 = 0 then
  (if a2 = 0 then
  (some (0 : Int32))
  else
  (b_X12_twoOf_226 q))
  else
  (b_X12_twoOf_226 q))), (40, (if a1 = 0 then
  (if a2 = 0 then
  (some (0 : Int32))
  else
  (b_X12_twoOf_226 q))
  else
  (b_X12_twoOf_226 q))), (41, (if a1 = 0 then
  (if a2 = 0 then
  (some (0 : Int32))
  else
  (b_X12_twoOf_226 q))
  else
  (b_X12_twoOf_226 q))), (42, (some (a1 * a2))), (43, (some (a1 + a2))), (44, (if a1 = 0 then
  (if a2 = 0 then
  (some (0 : Int32))
  else
  (b_X12_twoOf_226 q))
  else
  (b_X12_twoOf_226 q))), (45, (some (a1 - a2))), (46, (if a1 = 0 then
  (if a2 = 0 then
  (some (0 : Int32))
  else
  (b_X12_twoOf_226 q))
  else
  (b_X12_twoOf_226 q))), (47, (if a2 = 0 then
  (some (0 : Int32))
  else
  (if a2 = (-1 : Int32) then
  (some (-a1))
  else
  (if a2 = 0 then none else
  some (a1 / a2))))), (48, (if a1 = 0 then
  (if a2 = 0 then
  (some (0 : Int32))
  else
  (b_X12_twoOf_226 q))
  else
  (b_X12_twoOf_226 q))), (49, (if a1 = 0 then
  (if a2 = 0 then
  (some (0 : Int32))
  else
  (b_X12_twoOf_226 q))
  else
  (b_X12_twoOf_226 q))), (50, (if a1 = 0 then
  (if a2 = 0 then
  (some (0 : Int32))
  else
  (b_X12_twoOf_226 q))
  else
  (b_X12_twoOf_226 q))), (51, (if a1 = 0 then
  (if a2 = 0 then
  (some (0 : Int32))
  else
  (b_X12_twoOf_226 q))
  else
  (b_X12_twoOf_226 q))), (52, (if a1 = 0 then
  (if a2 = 0 then
  (some (0 : Int32))
  else
  (b_X12_twoOf_226 q))
  else
  (b_X12_twoOf_226 q))), (53, (if a1 = 0 then
  (if a2 = 0 then
  (some (0 : Int32))
  else
  (b_X12_twoOf_226 q))
  else
  (b_X12_twoOf_226 q))), (54, (if a1 = 0 then
  (if a2 = 0 then
  (some (0 : Int32))
  else
  (b_X12_twoOf_226 q))
  else
  (b_X12_twoOf_226 q))), (55, (if a1 = 0 then
  (if a2 = 0 then
  (some (0 : Int32))
  else
  (b_X12_twoOf_226 q))
  else
  (b_X12_twoOf_226 q))), (56, (if a1 = 0 then
  (if a2 = 0 then
  (some (0 : Int32))
  else
  (b_X12_twoOf_226 q))
  else
  (b_X12_twoOf_226 q))), (57, (if a1 = 0 then
  (if a2 = 0 then
  (some (0 : Int32))
  else
  (b_X12_twoOf_226 q))
  else
  (b_X12_twoOf_226 q))), (58, (if a1 = 0 then
  (if a2 = 0 then
  (some (0 : Int32))
  else
  (b_X12_twoOf_226 q))
  else
  (b_X12_twoOf_226 q))), (59, (if a1 = 0 then
  (if a2 = 0 then
  (some (0 : Int32))
  else
  (b_X12_twoOf_226 q))
  else
  (b_X12_twoOf_226 q))), (60, (if a2 ≤ a1 then
  (some (0 : Int32))
  else
  (some (1 : Int32)))), (61, (if a1 = a2 then
  (some (1 : Int32))
  else
  (some (0 : Int32)))), (62, (if a1 ≤ a2 then
  (some (0 : Int32))
  else
  (some (1 : Int32))))]
  (if a1 = 0 then
  (if a2 = 0 then
  (some (0 : Int32))
  else
  (b_X12_twoOf_226 q))
  else
  (b_X12_twoOf_226 q))
theorem e_X12_twoOf {E : EE} (hE : GE E) (q : SS) (a0 : Int32) (a1 : Int32) (a2 : Int32) : R E (κi E q) 0 222 0 [(0, .int a0), (1, .int a1), (2, .int a2)] [] q (f_X12_twoOf q a0 a1 a2) := by
  unfold f_X12_twoOf
  refine r_iload_n (x := a0) gX12_twoOf_0.1 rfl ?_
  refine r_sw1 (fun h1 => ?_) (fun h1 => ?_)
  · refine r_jmp (t := 154) dX12_twoOf_1 rfl (by rw [h1]; rfl) ?_
    refine r_iload_n (x := a2) gX12_twoOf_140.2.2.2.2.2.2.2.2.2.2.1 rfl ?_
    refine r_if_eq (t := 163) gX12_twoOf_140.2.2.2.2.2.2.2.2.2.2.2.1 rfl (fun h3 => ?_) (fun h3 => ?_)
    · exact r_sub (L' := []) sub_n (rb_X12_twoOf_163 hE q)
    · refine r_iload_n (x := a2) gX12_twoOf_140.2.2.2.2.2.2.2.2.2.2.2.2.1 rfl ?_
      refine r_iconst (v := (-1 : Int32)) gX12_twoOf_140.2.2.2.2.2.2.2.2.2.2.2.2.2.1 rfl ?_
      refine r_icmp_ne (t := 167) gX12_twoOf_140.2.2.2.2.2.2.2.2.2.2.2.2.2.2.1 rfl (fun h2 => ?_) (fun h2 => ?_)
      · exact r_sub (L' := []) sub_n (rb_X12_twoOf_163 hE q)
      · refine r_iload_n (x := a1) gX12_twoOf_164.2.1 rfl ?_
        refine r_iload_n (x := a2) gX12_twoOf_164.2.2.1 rfl ?_
        refine r_irem gX12_twoOf_164.2.2.2.1 ?_
        exact r_ireturn gX12_twoOf_164.2.2.2.2.1 rfl rfl
  refine r_sw1 (fun h4 => ?_) (fun h4 => ?_)
  · refine r_jmp (t := 204) dX12_twoOf_1 rfl (by rw [h4]; rfl) ?_
    refine r_iload_n (x := a1) gX12_twoOf_188.2.2.2.2.2.2.2.2.2.2.1 rfl ?_
    refine r_if_eq (t := 216) gX12_twoOf_188.2.2.2.2.2.2.2.2.2.2.2.1 rfl (fun h6 => ?_) (fun h6 => ?_)
    · refine r_iconst (v := (0 : Int32)) gX12_twoOf_216.1 rfl ?_
      exact r_ireturn gX12_twoOf_216.2.1 rfl rfl
    · refine r_iload_n (x := a2) gX12_twoOf_188.2.2.2.2.2.2.2.2.2.2.2.2.1 rfl ?_
      refine r_if_eq (t := 216) gX12_twoOf_188.2.2.2.2.2.2.2.2.2.2.2.2.2.1 rfl (fun h5 => ?_) (fun h5 => ?_)
      · refine r_iconst (v := (0 : Int32)) gX12_twoOf_216.1 rfl ?_
        exact r_ireturn gX12_twoOf_216.2.1 rfl rfl
      · refine r_iconst (v := (1 : Int32)) gX12_twoOf_188.2.2.2.2.2.2.2.2.2.2.2.2.2.2.1 rfl ?_
        refine r_goto (t := 217) gX12_twoOf_188.2.2.2.2.2.2.2.2.2.2.2.2.2.2.2.1 rfl ?_
        exact r_ireturn gX12_twoOf_216.2.1 rfl rfl
  refine r_sw1 (fun h7 => ?_) (fun h7 => ?_)
  · refine r_jmp (t := 218) dX12_twoOf_1 rfl (by rw [h7]; rfl) ?_
    refine r_iload_n (x := a1) gX12_twoOf_216.2.2.1 rfl ?_
    refine r_if_ne (t := 226) gX12_twoOf_216.2.2.2.1 rfl (fun h9 => ?_) (fun h9 => ?_)
    · refine r_iload_n (x := a2) gX12_twoOf_216.2.2.2.2.1 rfl ?_
      refine r_if_eq (t := 230) gX12_twoOf_216.2.2.2.2.2.1 rfl (fun h8 => ?_) (fun h8 => ?_)
      · refine r_iconst (v := (0 : Int32)) gX12_twoOf_216.2.2.2.2.2.2.2.2.1 rfl ?_
        exact r_ireturn gX12_twoOf_216.2.2.2.2.2.2.2.2.2.1 rfl rfl
      · exact r_sub (L' := []) sub_n (rb_X12_twoOf_226 hE q)
    · exact r_sub (L' := []) sub_n (rb_X12_twoOf_226 hE q)
  refine r_sw1 (fun h10 => ?_) (fun h10 => ?_)
  · refine r_jmp (t := 218) dX12_twoOf_1 rfl (by rw [h10]; rfl) ?_
    refine r_iload_n (x := a1) gX12_twoOf_216.2.2.1 rfl ?_
    refine r_if_ne (t := 226) gX12_twoOf_216.2.2.2.1 rfl (fun h12 => ?_) (fun h12 => ?_)
    · refine r_iload_n (x := a2) gX12_twoOf_216.2.2.2.2.1 rfl ?_
      refine r_if_eq (t := 230) gX12_twoOf_216.2.2.2.2.2.1 rfl (fun h11 => ?_) (fun h11 => ?_)
      · refine r_iconst (v := (0 : Int32)) gX12_twoOf_216.2.2.2.2.2.2.2.2.1 rfl ?_
        exact r_ireturn gX12_twoOf_216.2.2.2.2.2.2.2.2.2.1 rfl rfl
      · exact r_sub (L' := []) sub_n (rb_X12_twoOf_226 hE q)
    · exact r_sub (L' := []) sub_n (rb_X12_twoOf_226 hE q)
  refine r_sw1 (fun h13 => ?_) (fun h13 => ?_)
  · refine r_jmp (t := 218) dX12_twoOf_1 rfl (by rw [h13]; rfl) ?_
    refine r_iload_n (x := a1) gX12_twoOf_216.2.2.1 rfl ?_
    refine r_if_ne (t := 226) gX12_twoOf_216.2.2.2.1 rfl (fun h15 => ?_) (fun h15 => ?_)
    · refine r_iload_n (x := a2) gX12_twoOf_216.2.2.2.2.1 rfl ?_
      refine r_if_eq (t := 230) gX12_twoOf_216.2.2.2.2.2.1 rfl (fun h14 => ?_) (fun h14 => ?_)
      · refine r_iconst (v := (0 : Int32)) gX12_twoOf_216.2.2.2.2.2.2.2.2.1 rfl ?_
        exact r_ireturn gX12_twoOf_216.2.2.2.2.2.2.2.2.2.1 rfl rfl
      · exact r_sub (L' := []) sub_n (rb_X12_twoOf_226 hE q)
    · exact r_sub (L' := []) sub_n (rb_X12_twoOf_226 hE q)
  refine r_sw1 (fun h16 => ?_) (fun h16 => ?_)
  · refine r_jmp (t := 128) dX12_twoOf_1 rfl (by rw [h16]; rfl) ?_
    refine r_iload_n (x := a1) gX12_twoOf_120.2.2.2.2.2.2.2.2.1 rfl ?_
    refine r_iload_n (x := a2) gX12_twoOf_120.2.2.2.2.2.2.2.2.2.1 rfl ?_
    refine r_imul gX12_twoOf_120.2.2.2.2.2.2.2.2.2.2.1 ?_
    exact r_ireturn gX12_twoOf_120.2.2.2.2.2.2.2.2.2.2.2.1 rfl rfl
  refine r_sw1 (fun h17 => ?_) (fun h17 => ?_)
  · refine r_jmp (t := 120) dX12_twoOf_1 rfl (by rw [h17]; rfl) ?_
    refine r_iload_n (x := a1) gX12_twoOf_120.1 rfl ?_
    refine r_iload_n (x := a2) gX12_twoOf_120.2.1 rfl ?_
    refine r_iadd gX12_twoOf_120.2.2.1 ?_
    exact r_ireturn gX12_twoOf_120.2.2.2.1 rfl rfl
  refine r_sw1 (fun h18 => ?_) (fun h18 => ?_)
  · refine r_jmp (t := 218) dX12_twoOf_1 rfl (by rw [h18]; rfl) ?_
    refine r_iload_n (x := a1) gX12_twoOf_216.2.2.1 rfl ?_
    refine r_if_ne (t := 226) gX12_twoOf_216.2.2.2.1 rfl (fun h20 => ?_) (fun h20 => ?_)
    · refine r_iload_n (x := a2) gX12_twoOf_216.2.2.2.2.1 rfl ?_
      refine r_if_eq (t := 230) gX12_twoOf_216.2.2.2.2.2.1 rfl (fun h19 => ?_) (fun h19 => ?_)
      · refine r_iconst (v := (0 : Int32)) gX12_twoOf_216.2.2.2.2.2.2.2.2.1 rfl ?_
        exact r_ireturn gX12_twoOf_216.2.2.2.2.2.2.2.2.2.1 rfl rfl
      · exact r_sub (L' := []) sub_n (rb_X12_twoOf_226 hE q)
    · exact r_sub (L' := []) sub_n (rb_X12_twoOf_226 hE q)
  refine r_sw1 (fun h21 => ?_) (fun h21 => ?_)
  · refine r_jmp (t := 124) dX12_twoOf_1 rfl (by rw [h21]; rfl) ?_
    refine r_iload_n (x := a1) gX12_twoOf_120.2.2.2.2.1 rfl ?_
    refine r_iload_n (x := a2) gX12_twoOf_120.2.2.2.2.2.1 rfl ?_
    refine r_isub gX12_twoOf_120.2.2.2.2.2.2.1 ?_
    exact r_ireturn gX12_twoOf_120.2.2.2.2.2.2.2.1 rfl rfl
  refine r_sw1 (fun h22 => ?_) (fun h22 => ?_)
  · refine r_jmp (t := 218) dX12_twoOf_1 rfl (by rw [h22]; rfl) ?_
    refine r_iload_n (x := a1) gX12_twoOf_216.2.2.1 rfl ?_
    refine r_if_ne (t := 226) gX12_twoOf_216.2.2.2.1 rfl (fun h24 => ?_) (fun h24 => ?_)
    · refine r_iload_n (x := a2) gX12_twoOf_216.2.2.2.2.1 rfl ?_
      refine r_if_eq (t := 230) gX12_twoOf_216.2.2.2.2.2.1 rfl (fun h23 => ?_) (fun h23 => ?_)
      · refine r_iconst (v := (0 : Int32)) gX12_twoOf_216.2.2.2.2.2.2.2.2.1 rfl ?_
        exact r_ireturn gX12_twoOf_216.2.2.2.2.2.2.2.2.2.1 rfl rfl
      · exact r_sub (L' := []) sub_n (rb_X12_twoOf_226 hE q)
    · exact r_sub (L' := []) sub_n (rb_X12_twoOf_226 hE q)
  refine r_sw1 (fun h25 => ?_) (fun h25 => ?_)
  · refine r_jmp (t := 132) dX12_twoOf_1 rfl (by rw [h25]; rfl) ?_
    refine r_iload_n (x := a2) gX12_twoOf_120.2.2.2.2.2.2.2.2.2.2.2.2.1 rfl ?_
    refine r_if_ne (t := 140) gX12_twoOf_120.2.2.2.2.2.2.2.2.2.2.2.2.2.1 rfl (fun h27 => ?_) (fun h27 => ?_)
    · refine r_iconst (v := (0 : Int32)) gX12_twoOf_120.2.2.2.2.2.2.2.2.2.2.2.2.2.2.1 rfl ?_
      refine r_goto (t := 153) gX12_twoOf_120.2.2.2.2.2.2.2.2.2.2.2.2.2.2.2.1 rfl ?_
      exact r_ireturn gX12_twoOf_140.2.2.2.2.2.2.2.2.2.1 rfl rfl
    · refine r_iload_n (x := a2) gX12_twoOf_140.1 rfl ?_
      refine r_iconst (v := (-1 : Int32)) gX12_twoOf_140.2.1 rfl ?_
      refine r_icmp_ne (t := 150) gX12_twoOf_140.2.2.1 rfl (fun h26 => ?_) (fun h26 => ?_)
      · refine r_iload_n (x := a1) gX12_twoOf_140.2.2.2.1 rfl ?_
        refine r_ineg gX12_twoOf_140.2.2.2.2.1 ?_
        refine r_goto (t := 153) gX12_twoOf_140.2.2.2.2.2.1 rfl ?_
        exact r_ireturn gX12_twoOf_140.2.2.2.2.2.2.2.2.2.1 rfl rfl
      · refine r_iload_n (x := a1) gX12_twoOf_140.2.2.2.2.2.2.1 rfl ?_
        refine r_iload_n (x := a2) gX12_twoOf_140.2.2.2.2.2.2.2.1 rfl ?_
        refine r_idiv gX12_twoOf_140.2.2.2.2.2.2.2.2.1 ?_
        exact r_ireturn gX12_twoOf_140.2.2.2.2.2.2.2.2.2.1 rfl rfl
  refine r_sw1 (fun h28 => ?_) (fun h28 => ?_)
  · refine r_jmp (t := 218) dX12_twoOf_1 rfl (by rw [h28]; rfl) ?_
    refine r_iload_n (x := a1) gX12_twoOf_216.2.2.1 rfl ?_
    refine r_if_ne (t := 226) gX12_twoOf_216.2.2.2.1 rfl (fun h30 => ?_) (fun h30 => ?_)
    · refine r_iload_n (x := a2) gX12_twoOf_216.2.2.2.2.1 rfl ?_
      refine r_if_eq (t := 230) gX12_twoOf_216.2.2.2.2.2.1 rfl (fun h29 => ?_) (fun h29 => ?_)
      · refine r_iconst (v := (0 : Int32)) gX12_twoOf_216.2.2.2.2.2.2.2.2.1 rfl ?_
        exact r_ireturn gX12_twoOf_216.2.2.2.2.2.2.2.2.2.1 rfl rfl
      · exact r_sub (L' := []) sub_n (rb_X12_twoOf_226 hE q)
    · exact r_sub (L' := []) sub_n (rb_X12_twoOf_226 hE q)
  refine r_sw1 (fun h31 => ?_) (fun h31 => ?_)
  · refine r_jmp (t := 218) dX12_twoOf_1 rfl (by rw [h31]; rfl) ?_
    refine r_iload_n (x := a1) gX12_twoOf_216.2.2.1 rfl ?_
    refine r_if_ne (t := 226) gX12_twoOf_216.2.2.2.1 rfl (fun h33 => ?_) (fun h33 => ?_)
    · refine r_iload_n (x := a2) gX12_twoOf_216.2.2.2.2.1 rfl ?_
      refine r_if_eq (t := 230) gX12_twoOf_216.2.2.2.2.2.1 rfl (fun h32 => ?_) (fun h32 => ?_)
      · refine r_iconst (v := (0 : Int32)) gX12_twoOf_216.2.2.2.2.2.2.2.2.1 rfl ?_
        exact r_ireturn gX12_twoOf_216.2.2.2.2.2.2.2.2.2.1 rfl rfl
      · exact r_sub (L' := []) sub_n (rb_X12_twoOf_226 hE q)
    · exact r_sub (L' := []) sub_n (rb_X12_twoOf_226 hE q)
  refine r_sw1 (fun h34 => ?_) (fun h34 => ?_)
  · refine r_jmp (t := 218) dX12_twoOf_1 rfl (by rw [h34]; rfl) ?_
    refine r_iload_n (x := a1) gX12_twoOf_216.2.2.1 rfl ?_
    refine r_if_ne (t := 226) gX12_twoOf_216.2.2.2.1 rfl (fun h36 => ?_) (fun h36 => ?_)
    · refine r_iload_n (x := a2) gX12_twoOf_216.2.2.2.2.1 rfl ?_
      refine r_if_eq (t := 230) gX12_twoOf_216.2.2.2.2.2.1 rfl (fun h35 => ?_) (fun h35 => ?_)
      · refine r_iconst (v := (0 : Int32)) gX12_twoOf_216.2.2.2.2.2.2.2.2.1 rfl ?_
        exact r_ireturn gX12_twoOf_216.2.2.2.2.2.2.2.2.2.1 rfl rfl
      · exact r_sub (L' := []) sub_n (rb_X12_twoOf_226 hE q)
    · exact r_sub (L' := []) sub_n (rb_X12_twoOf_226 hE q)
  refine r_sw1 (fun h37 => ?_) (fun h37 => ?_)
  · refine r_jmp (t := 218) dX12_twoOf_1 rfl (by rw [h37]; rfl) ?_
    refine r_iload_n (x := a1) gX12_twoOf_216.2.2.1 rfl ?_
    refine r_if_ne (t := 226) gX12_twoOf_216.2.2.2.1 rfl (fun h39 => ?_) (fun h39 => ?_)
    · refine r_iload_n (x := a2) gX12_twoOf_216.2.2.2.2.1 rfl ?_
      refine r_if_eq (t := 230) gX12_twoOf_216.2.2.2.2.2.1 rfl (fun h38 => ?_) (fun h38 => ?_)
      · refine r_iconst (v := (0 : Int32)) gX12_twoOf_216.2.2.2.2.2.2.2.2.1 rfl ?_
        exact r_ireturn gX12_twoOf_216.2.2.2.2.2.2.2.2.2.1 rfl rfl
      · exact r_sub (L' := []) sub_n (rb_X12_twoOf_226 hE q)
    · exact r_sub (L' := []) sub_n (rb_X12_twoOf_226 hE q)
  refine r_sw1 (fun h40 => ?_) (fun h40 => ?_)
  · refine r_jmp (t := 218) dX12_twoOf_1 rfl (by rw [h40]; rfl) ?_
    refine r_iload_n (x := a1) gX12_twoOf_216.2.2.1 rfl ?_
    refine r_if_ne (t := 226) gX12_twoOf_216.2.2.2.1 rfl (fun h42 => ?_) (fun h42 => ?_)
    · refine r_iload_n (x := a2) gX12_twoOf_216.2.2.2.2.1 rfl ?_
      refine r_if_eq (t := 230) gX12_twoOf_216.2.2.2.2.2.1 rfl (fun h41 => ?_) (fun h41 => ?_)
      · refine r_iconst (v := (0 : Int32)) gX12_twoOf_216.2.2.2.2.2.2.2.2.1 rfl ?_
        exact r_ireturn gX12_twoOf_216.2.2.2.2.2.2.2.2.2.1 rfl rfl
      · exact r_sub (L' := []) sub_n (rb_X12_twoOf_226 hE q)
    · exact r_sub (L' := []) sub_n (rb_X12_twoOf_226 hE q)
  refine r_sw1 (fun h43 => ?_) (fun h43 => ?_)
  · refine r_jmp (t := 218) dX12_twoOf_1 rfl (by rw [h43]; rfl) ?_
    refine r_iload_n (x := a1) gX12_twoOf_216.2.2.1 rfl ?_
    refine r_if_ne (t := 226) gX12_twoOf_216.2.2.2.1 rfl (fun h45 => ?_) (fun h45 => ?_)
    · refine r_iload_n (x := a2) gX12_twoOf_216.2.2.2.2.1 rfl ?_
      refine r_if_eq (t := 230) gX12_twoOf_216.2.2.2.2.2.1 rfl (fun h44 => ?_) (fun h44 => ?_)
      · refine r_iconst (v := (0 : Int32)) gX12_twoOf_216.2.2.2.2.2.2.2.2.1 rfl ?_
        exact r_ireturn gX12_twoOf_216.2.2.2.2.2.2.2.2.2.1 rfl rfl
      · exact r_sub (L' := []) sub_n (rb_X12_twoOf_226 hE q)
    · exact r_sub (L' := []) sub_n (rb_X12_twoOf_226 hE q)
  refine r_sw1 (fun h46 => ?_) (fun h46 => ?_)
  · refine r_jmp (t := 218) dX12_twoOf_1 rfl (by rw [h46]; rfl) ?_
    refine r_iload_n (x := a1) gX12_twoOf_216.2.2.1 rfl ?_
    refine r_if_ne (t := 226) gX12_twoOf_216.2.2.2.1 rfl (fun h48 => ?_) (fun h48 => ?_)
    · refine r_iload_n (x := a2) gX12_twoOf_216.2.2.2.2.1 rfl ?_
      refine r_if_eq (t := 230) gX12_twoOf_216.2.2.2.2.2.1 rfl (fun h47 => ?_) (fun h47 => ?_)
      · refine r_iconst (v := (0 : Int32)) gX12_twoOf_216.2.2.2.2.2.2.2.2.1 rfl ?_
        exact r_ireturn gX12_twoOf_216.2.2.2.2.2.2.2.2.2.1 rfl rfl
      · exact r_sub (L' := []) sub_n (rb_X12_twoOf_226 hE q)
    · exact r_sub (L' := []) sub_n (rb_X12_twoOf_226 hE q)
  refine r_sw1 (fun h49 => ?_) (fun h49 => ?_)
  · refine r_jmp (t := 218) dX12_twoOf_1 rfl (by rw [h49]; rfl) ?_
    refine r_iload_n (x := a1) gX12_twoOf_216.2.2.1 rfl ?_
    refine r_if_ne (t := 226) gX12_twoOf_216.2.2.2.1 rfl (fun h51 => ?_) (fun h51 => ?_)
    · refine r_iload_n (x := a2) gX12_twoOf_216.2.2.2.2.1 rfl ?_
      refine r_if_eq (t := 230) gX12_twoOf_216.2.2.2.2.2.1 rfl (fun h50 => ?_) (fun h50 => ?_)
      · refine r_iconst (v := (0 : Int32)) gX12_twoOf_216.2.2.2.2.2.2.2.2.1 rfl ?_
        exact r_ireturn gX12_twoOf_216.2.2.2.2.2.2.2.2.2.1 rfl rfl
      · exact r_sub (L' := []) sub_n (rb_X12_twoOf_226 hE q)
    · exact r_sub (L' := []) sub_n (rb_X12_twoOf_226 hE q)
  refine r_sw1 (fun h52 => ?_) (fun h52 => ?_)
  · refine r_jmp (t := 218) dX12_twoOf_1 rfl (by rw [h52]; rfl) ?_
    refine r_iload_n (x := a1) gX12_twoOf_216.2.2.1 rfl ?_
    refine r_if_ne (t := 226) gX12_twoOf_216.2.2.2.1 rfl (fun h54 => ?_) (fun h54 => ?_)
    · refine r_iload_n (x := a2) gX12_twoOf_216.2.2.2.2.1 rfl ?_
      refine r_if_eq (t := 230) gX12_twoOf_216.2.2.2.2.2.1 rfl (fun h53 => ?_) (fun h53 => ?_)
      · refine r_iconst (v := (0 : Int32)) gX12_twoOf_216.2.2.2.2.2.2.2.2.1 rfl ?_
        exact r_ireturn gX12_twoOf_216.2.2.2.2.2.2.2.2.2.1 rfl rfl
      · exact r_sub (L' := []) sub_n (rb_X12_twoOf_226 hE q)
    · exact r_sub (L' := []) sub_n (rb_X12_twoOf_226 hE q)
  refine r_sw1 (fun h55 => ?_) (fun h55 => ?_)
  · refine r_jmp (t := 218) dX12_twoOf_1 rfl (by rw [h55]; rfl) ?_
    refine r_iload_n (x := a1) gX12_twoOf_216.2.2.1 rfl ?_
    refine r_if_ne (t := 226) gX12_twoOf_216.2.2.2.1 rfl (fun h57 => ?_) (fun h57 => ?_)
    · refine r_iload_n (x := a2) gX12_twoOf_216.2.2.2.2.1 rfl ?_
      refine r_if_eq (t := 230) gX12_twoOf_216.2.2.2.2.2.1 rfl (fun h56 => ?_) (fun h56 => ?_)
      · refine r_iconst (v := (0 : Int32)) gX12_twoOf_216.2.2.2.2.2.2.2.2.1 rfl ?_
        exact r_ireturn gX12_twoOf_216.2.2.2.2.2.2.2.2.2.1 rfl rfl
      · exact r_sub (L' := []) sub_n (rb_X12_twoOf_226 hE q)
    · exact r_sub (L' := []) sub_n (rb_X12_twoOf_226 hE q)
  refine r_sw1 (fun h58 => ?_) (fun h58 => ?_)
  · refine r_jmp (t := 218) dX12_twoOf_1 rfl (by rw [h58]; rfl) ?_
    refine r_iload_n (x := a1) gX12_twoOf_216.2.2.1 rfl ?_
    refine r_if_ne (t := 226) gX12_twoOf_216.2.2.2.1 rfl (fun h60 => ?_) (fun h60 => ?_)
    · refine r_iload_n (x := a2) gX12_twoOf_216.2.2.2.2.1 rfl ?_
      refine r_if_eq (t := 230) gX12_twoOf_216.2.2.2.2.2.1 rfl (fun h59 => ?_) (fun h59 => ?_)
      · refine r_iconst (v := (0 : Int32)) gX12_twoOf_216.2.2.2.2.2.2.2.2.1 rfl ?_
        exact r_ireturn gX12_twoOf_216.2.2.2.2.2.2.2.2.2.1 rfl rfl
      · exact r_sub (L' := []) sub_n (rb_X12_twoOf_226 hE q)
    · exact r_sub (L' := []) sub_n (rb_X12_twoOf_226 hE q)
  refine r_sw1 (fun h61 => ?_) (fun h61 => ?_)
  · refine r_jmp (t := 218) dX12_twoOf_1 rfl (by rw [h61]; rfl) ?_
    refine r_iload_n (x := a1) gX12_twoOf_216.2.2.1 rfl ?_
    refine r_if_ne (t := 226) gX12_twoOf_216.2.2.2.1 rfl (fun h63 => ?_) (fun h63 => ?_)
    · refine r_iload_n (x := a2) gX12_twoOf_216.2.2.2.2.1 rfl ?_
      refine r_if_eq (t := 230) gX12_twoOf_216.2.2.2.2.2.1 rfl (fun h62 => ?_) (fun h62 => ?_)
      · refine r_iconst (v := (0 : Int32)) gX12_twoOf_216.2.2.2.2.2.2.2.2.1 rfl ?_
        exact r_ireturn gX12_twoOf_216.2.2.2.2.2.2.2.2.2.1 rfl rfl
      · exact r_sub (L' := []) sub_n (rb_X12_twoOf_226 hE q)
    · exact r_sub (L' := []) sub_n (rb_X12_twoOf_226 hE q)
  refine r_sw1 (fun h64 => ?_) (fun h64 => ?_)
  · refine r_jmp (t := 171) dX12_twoOf_1 rfl (by rw [h64]; rfl) ?_
    refine r_iload_n (x := a1) gX12_twoOf_164.2.2.2.2.2.1 rfl ?_
    refine r_iload_n (x := a2) gX12_twoOf_164.2.2.2.2.2.2.1 rfl ?_
    refine r_icmp_ge (t := 180) gX12_twoOf_164.2.2.2.2.2.2.2.1 rfl (fun h65 => ?_) (fun h65 => ?_)
    · refine r_iconst (v := (0 : Int32)) gX12_twoOf_164.2.2.2.2.2.2.2.2.2.2.1 rfl ?_
      exact r_ireturn gX12_twoOf_164.2.2.2.2.2.2.2.2.2.2.2.1 rfl rfl
    · refine r_iconst (v := (1 : Int32)) gX12_twoOf_164.2.2.2.2.2.2.2.2.1 rfl ?_
      refine r_goto (t := 181) gX12_twoOf_164.2.2.2.2.2.2.2.2.2.1 rfl ?_
      exact r_ireturn gX12_twoOf_164.2.2.2.2.2.2.2.2.2.2.2.1 rfl rfl
  refine r_sw1 (fun h66 => ?_) (fun h66 => ?_)
  · refine r_jmp (t := 182) dX12_twoOf_1 rfl (by rw [h66]; rfl) ?_
    refine r_iload_n (x := a1) gX12_twoOf_164.2.2.2.2.2.2.2.2.2.2.2.2.1 rfl ?_
    refine r_iload_n (x := a2) gX12_twoOf_164.2.2.2.2.2.2.2.2.2.2.2.2.2.1 rfl ?_
    refine r_icmp_ne (t := 191) gX12_twoOf_164.2.2.2.2.2.2.2.2.2.2.2.2.2.2.1 rfl (fun h67 => ?_) (fun h67 => ?_)
    · refine r_iconst (v := (1 : Int32)) gX12_twoOf_164.2.2.2.2.2.2.2.2.2.2.2.2.2.2.2.1 rfl ?_
      refine r_goto (t := 192) gX12_twoOf_188.1 rfl ?_
      exact r_ireturn gX12_twoOf_188.2.2.1 rfl rfl
    · refine r_iconst (v := (0 : Int32)) gX12_twoOf_188.2.1 rfl ?_
      exact r_ireturn gX12_twoOf_188.2.2.1 rfl rfl
  refine r_sw1 (fun h68 => ?_) (fun h68 => ?_)
  · refine r_jmp (t := 193) dX12_twoOf_1 rfl (by rw [h68]; rfl) ?_
    refine r_iload_n (x := a1) gX12_twoOf_188.2.2.2.1 rfl ?_
    refine r_iload_n (x := a2) gX12_twoOf_188.2.2.2.2.1 rfl ?_
    refine r_icmp_le (t := 202) gX12_twoOf_188.2.2.2.2.2.1 rfl (fun h69 => ?_) (fun h69 => ?_)
    · refine r_iconst (v := (0 : Int32)) gX12_twoOf_188.2.2.2.2.2.2.2.2.1 rfl ?_
      exact r_ireturn gX12_twoOf_188.2.2.2.2.2.2.2.2.2.1 rfl rfl
    · refine r_iconst (v := (1 : Int32)) gX12_twoOf_188.2.2.2.2.2.2.1 rfl ?_
      refine r_goto (t := 203) gX12_twoOf_188.2.2.2.2.2.2.2.1 rfl ?_
      exact r_ireturn gX12_twoOf_188.2.2.2.2.2.2.2.2.2.1 rfl rfl
  refine r_jmp (t := 218) dX12_twoOf_1 rfl ?_ ?_
  · have h72 := sw_lo (v := a0.toInt) 37
    have h72 := sw_st h72 h1
    have h72 := sw_st h72 h4
    have h72 := sw_st h72 h7
    have h72 := sw_st h72 h10
    have h72 := sw_st h72 h13
    have h72 := sw_st h72 h16
    have h72 := sw_st h72 h17
    have h72 := sw_st h72 h18
    have h72 := sw_st h72 h21
    have h72 := sw_st h72 h22
    have h72 := sw_st h72 h25
    have h72 := sw_st h72 h28
    have h72 := sw_st h72 h31
    have h72 := sw_st h72 h34
    have h72 := sw_st h72 h37
    have h72 := sw_st h72 h40
    have h72 := sw_st h72 h43
    have h72 := sw_st h72 h46
    have h72 := sw_st h72 h49
    have h72 := sw_st h72 h52
    have h72 := sw_st h72 h55
    have h72 := sw_st h72 h58
    have h72 := sw_st h72 h61
    have h72 := sw_st h72 h64
    have h72 := sw_st h72 h66
    have h72 := sw_st h72 h68
    exact sw_df h72 (by decide) rfl
  refine r_iload_n (x := a1) gX12_twoOf_216.2.2.1 rfl ?_
  refine r_if_ne (t := 226) gX12_twoOf_216.2.2.2.1 rfl (fun h71 => ?_) (fun h71 => ?_)
  · refine r_iload_n (x := a2) gX12_twoOf_216.2.2.2.2.1 rfl ?_
    refine r_if_eq (t := 230) gX12_twoOf_216.2.2.2.2.2.1 rfl (fun h70 => ?_) (fun h70 => ?_)
    · refine r_iconst (v := (0 : Int32)) gX12_twoOf_216.2.2.2.2.2.2.2.2.1 rfl ?_
      exact r_ireturn gX12_twoOf_216.2.2.2.2.2.2.2.2.2.1 rfl rfl
    · exact r_sub (L' := []) sub_n (rb_X12_twoOf_226 hE q)
  · exact r_sub (L' := []) sub_n (rb_X12_twoOf_226 hE q)
def b_X12_worked_182 (rec_12 : SS → Int32 → Int32 → Int32 → Int32 → Option (Int32 × SS)) (q : SS) (l1 : Int32) (l3 : Int32) (l4 : Int32) (l5 : Int32) : Option (Int32 × SS) :=
  rec_12 q l1 l3 l4 (l5 + (1 : Int32))
theorem rb_X12_worked_182 {E : EE} (hE : GE E) {rec_12 : SS → Int32 → Int32 → Int32 → Int32 → Option (Int32 × SS)} (hrec_12 : ∀ (yq : SS) (yl1 : Int32) (yl3 : Int32) (yl4 : Int32) (yl5 : Int32), R E (κI E) 1 223 12 [(0, .ref 60), (1, .int yl1), (3, .int yl3), (4, .int yl4), (5, .int yl5)] [] yq (rec_12 yq yl1 yl3 yl4 yl5)) (q : SS) (l1 : Int32) (l3 : Int32) (l4 : Int32) (l5 : Int32) : R E (κI E) 1 223 182 [(0, .ref 60), (1, .int l1), (3, .int l3), (4, .int l4), (5, .int l5)] [] q (b_X12_worked_182 rec_12 q l1 l3 l4 l5) := by
  unfold b_X12_worked_182
  refine r_iinc (x := l5) (v := (l5 + (1 : Int32))) (L2 := [(0, .ref 60), (1, .int l1), (3, .int l3), (4, .int l4), (5, .int (l5 + (1 : Int32)))]) gX12_worked_170.2.2.2.2.2.2.2.1 rfl rfl rfl rfl ?_
  refine r_goto (t := 12) gX12_worked_170.2.2.2.2.2.2.2.2.1 rfl ?_
  exact r_sub (L' := [(0, .ref 60), (1, .int l1), (3, .int l3), (4, .int l4), (5, .int (l5 + (1 : Int32)))]) (sub_c rfl (sub_c rfl (sub_c rfl (sub_c rfl (sub_c rfl sub_n))))) (hrec_12 q l1 l3 l4 (l5 + (1 : Int32)))
def b_X12_worked_79 (rec_12 : SS → Int32 → Int32 → Int32 → Int32 → Option (Int32 × SS)) (q : SS) (l1 : Int32) (l3 : Int32) (l4 : Int32) (l5 : Int32) (s0 : Int32) (s1 : Int32) : Option (Int32 × SS) :=
  if vin s1 130 then
  nm (sI q 80 s1.toNatClampNeg s0) fun q3 =>
  b_X12_worked_182 rec_12 q3 l1 l3 (l4 + (1 : Int32)) l5
  else none
theorem rb_X12_worked_79 {E : EE} (hE : GE E) {rec_12 : SS → Int32 → Int32 → Int32 → Int32 → Option (Int32 × SS)} (hrec_12 : ∀ (yq : SS) (yl1 : Int32) (yl3 : Int32) (yl4 : Int32) (yl5 : Int32), R E (κI E) 1 223 12 [(0, .ref 60), (1, .int yl1), (3, .int yl3), (4, .int yl4), (5, .int yl5)] [] yq (rec_12 yq yl1 yl3 yl4 yl5)) (q : SS) (l1 : Int32) (l3 : Int32) (l4 : Int32) (l5 : Int32) (s0 : Int32) (s1 : Int32) : R E (κI E) 1 223 79 [(0, .ref 60), (1, .int l1), (3, .int l3), (4, .int l4), (5, .int l5)] [.int s0, .int s1, .ref 80] q (b_X12_worked_79 rec_12 q l1 l3 l4 l5 s0 s1) := by
  unfold b_X12_worked_79
  refine r_iastore gX12_worked_57.2.2.2.2.2.2.2.2.2.2.2.2.1 (ar_80 hE) ?_
  refine r_nmS fun q3 _ => ?_
  refine r_iinc (x := l4) (v := (l4 + (1 : Int32))) (L2 := [(0, .ref 60), (1, .int l1), (3, .int l3), (4, .int (l4 + (1 : Int32))), (5, .int l5)]) gX12_worked_57.2.2.2.2.2.2.2.2.2.2.2.2.2.1 rfl rfl rfl rfl ?_
  refine r_goto (t := 182) gX12_worked_57.2.2.2.2.2.2.2.2.2.2.2.2.2.2.1 rfl ?_
  exact r_sub (L' := [(0, .ref 60), (1, .int l1), (3, .int l3), (4, .int (l4 + (1 : Int32))), (5, .int l5)]) (sub_c rfl (sub_c rfl (sub_c rfl (sub_c rfl (sub_c rfl sub_n))))) (rb_X12_worked_182 hE hrec_12 q3 l1 l3 (l4 + (1 : Int32)) l5)
def b_X12_worked_45 (rec_12 : SS → Int32 → Int32 → Int32 → Int32 → Option (Int32 × SS)) (q : SS) (l1 : Int32) (l3 : Int32) (l4 : Int32) (l5 : Int32) (l6 : Int32) : Option (Int32 × SS) :=
  if l6 = (1 : Int32) then
  (if vin l5 260 then
  b_X12_worked_79 rec_12 q l1 l3 l4 l5 (q.1 75 l5.toNatClampNeg) l4
  else none)
  else
  (if vin l5 260 then
  if vin (q.1 75 l5.toNatClampNeg) 6 then
  b_X12_worked_79 rec_12 q l1 l3 l4 l5 (q.1 79 (q.1 75 l5.toNatClampNeg).toNatClampNeg) l4
  else none
  else none)
theorem rb_X12_worked_45 {E : EE} (hE : GE E) {rec_12 : SS → Int32 → Int32 → Int32 → Int32 → Option (Int32 × SS)} (hrec_12 : ∀ (yq : SS) (yl1 : Int32) (yl3 : Int32) (yl4 : Int32) (yl5 : Int32), R E (κI E) 1 223 12 [(0, .ref 60), (1, .int yl1), (3, .int yl3), (4, .int yl4), (5, .int yl5)] [] yq (rec_12 yq yl1 yl3 yl4 yl5)) (q : SS) (l1 : Int32) (l3 : Int32) (l4 : Int32) (l5 : Int32) (l6 : Int32) : R E (κI E) 1 223 45 [(0, .ref 60), (1, .int l1), (3, .int l3), (4, .int l4), (5, .int l5), (6, .int l6)] [] q (b_X12_worked_45 rec_12 q l1 l3 l4 l5 l6) := by
  unfold b_X12_worked_45
  refine r_aload_n (x := 60) gX12_worked_25.2.2.2.2.2.2.2.2.2.2.1 rfl ?_
  refine r_getA gX12_worked_25.2.2.2.2.2.2.2.2.2.2.2.1 (fa_12_71_60 hE) ?_
  refine r_iload (x := l4) gX12_worked_25.2.2.2.2.2.2.2.2.2.2.2.2.1 rfl ?_
  refine r_iload (x := l6) gX12_worked_25.2.2.2.2.2.2.2.2.2.2.2.2.2.1 rfl ?_
  refine r_iconst (v := (1 : Int32)) gX12_worked_25.2.2.2.2.2.2.2.2.2.2.2.2.2.2.1 rfl ?_
  refine r_icmp_ne (t := 67) gX12_worked_25.2.2.2.2.2.2.2.2.2.2.2.2.2.2.2.1 rfl (fun h4 => ?_) (fun h4 => ?_)
  · refine r_aload_n (x := 60) gX12_worked_57.1 rfl ?_
    refine r_getA gX12_worked_57.2.1 (fa_12_55_60 hE) ?_
    refine r_iload (x := l5) gX12_worked_57.2.2.1 rfl ?_
    refine r_iaload gX12_worked_57.2.2.2.1 (ar_75 hE) ?_
    refine r_goto (t := 79) gX12_worked_57.2.2.2.2.1 rfl ?_
    exact r_sub (L' := [(0, .ref 60), (1, .int l1), (3, .int l3), (4, .int l4), (5, .int l5)]) (sub_c rfl (sub_c rfl (sub_c rfl (sub_c rfl (sub_c rfl sub_n))))) (rb_X12_worked_79 hE hrec_12 q l1 l3 l4 l5 (q.1 75 l5.toNatClampNeg) l4)
  · refine r_aload_n (x := 60) gX12_worked_57.2.2.2.2.2.1 rfl ?_
    refine r_getA gX12_worked_57.2.2.2.2.2.2.1 (fa_12_68_60 hE) ?_
    refine r_aload_n (x := 60) gX12_worked_57.2.2.2.2.2.2.2.1 rfl ?_
    refine r_getA gX12_worked_57.2.2.2.2.2.2.2.2.1 (fa_12_55_60 hE) ?_
    refine r_iload (x := l5) gX12_worked_57.2.2.2.2.2.2.2.2.2.1 rfl ?_
    refine r_iaload gX12_worked_57.2.2.2.2.2.2.2.2.2.2.1 (ar_75 hE) ?_
    refine r_iaload gX12_worked_57.2.2.2.2.2.2.2.2.2.2.2.1 (ar_79 hE) ?_
    exact r_sub (L' := [(0, .ref 60), (1, .int l1), (3, .int l3), (4, .int l4), (5, .int l5)]) (sub_c rfl (sub_c rfl (sub_c rfl (sub_c rfl (sub_c rfl sub_n))))) (rb_X12_worked_79 hE hrec_12 q l1 l3 l4 l5 (q.1 79 (q.1 75 l5.toNatClampNeg).toNatClampNeg) l4)
def b_X12_worked_117 (rec_12 : SS → Int32 → Int32 → Int32 → Int32 → Option (Int32 × SS)) (q : SS) (l1 : Int32) (l3 : Int32) (l4 : Int32) (l5 : Int32) (s0 : Int32) (s1 : Int32) : Option (Int32 × SS) :=
  if vin s1 130 then
  nm (sI q 80 s1.toNatClampNeg s0) fun q5 =>
  b_X12_worked_182 rec_12 q5 l1 l3 l4 l5
  else none
theorem rb_X12_worked_117 {E : EE} (hE : GE E) {rec_12 : SS → Int32 → Int32 → Int32 → Int32 → Option (Int32 × SS)} (hrec_12 : ∀ (yq : SS) (yl1 : Int32) (yl3 : Int32) (yl4 : Int32) (yl5 : Int32), R E (κI E) 1 223 12 [(0, .ref 60), (1, .int yl1), (3, .int yl3), (4, .int yl4), (5, .int yl5)] [] yq (rec_12 yq yl1 yl3 yl4 yl5)) (q : SS) (l1 : Int32) (l3 : Int32) (l4 : Int32) (l5 : Int32) (s0 : Int32) (s1 : Int32) : R E (κI E) 1 223 117 [(0, .ref 60), (1, .int l1), (3, .int l3), (4, .int l4), (5, .int l5)] [.int s0, .int s1, .ref 80] q (b_X12_worked_117 rec_12 q l1 l3 l4 l5 s0 s1) := by
  unfold b_X12_worked_117
  refine r_iastore gX12_worked_116.2.1 (ar_80 hE) ?_
  refine r_nmS fun q5 _ => ?_
  refine r_goto (t := 182) gX12_worked_116.2.2.1 rfl ?_
  exact r_sub (L' := [(0, .ref 60), (1, .int l1), (3, .int l3), (4, .int l4), (5, .int l5)]) (sub_c rfl (sub_c rfl (sub_c rfl (sub_c rfl (sub_c rfl sub_n))))) (rb_X12_worked_182 hE hrec_12 q5 l1 l3 l4 l5)
def b_X12_worked_12 : SS → Int32 → Int32 → Int32 → Int32 → Option (Int32 × SS) :=
  fx5 (fun (rec_12 : SS → Int32 → Int32 → Int32 → Int32 → Option (Int32 × SS)) (q : SS) (l1 : Int32) (l3 : Int32) (l4 : Int32) (l5 : Int32) =>
  if (((130 : Int32) * l1) + l3) ≤ l5 then
  (if vin (0 : Int32) 130 then
  some ((q.1 80 (0 : Int32).toNatClampNeg), q)
  else none)
  else
  (if vin l5 260 then
  nm (q.1 74 l5.toNatClampNeg) fun v2 =>
  if v2 = (1 : Int32) then
  (b_X12_worked_45 rec_12 q l1 l3 l4 l5 v2)
  else
  (if v2 = (2 : Int32) then
  (b_X12_worked_45 rec_12 q l1 l3 l4 l5 v2)
  else
  (if v2 = (3 : Int32) then
  (if vin (l4 - (1 : Int32)) 130 then
  if (q.1 80 (l4 - (1 : Int32)).toNatClampNeg) = 0 then
  (b_X12_worked_117 rec_12 q l1 l3 l4 l5 (1 : Int32) (l4 - (1 : Int32)))
  else
  (b_X12_worked_117 rec_12 q l1 l3 l4 l5 (0 : Int32) (l4 - (1 : Int32)))
  else none)
  else
  (if v2 = (4 : Int32) then
  (if vin (l4 - (1 : Int32)) 130 then
  if vin (l4 - (1 : Int32)) 130 then
  nm (sI q 80 (l4 - (1 : Int32)).toNatClampNeg (-(q.1 80 (l4 - (1 : Int32)).toNatClampNeg))) fun q7 =>
  b_X12_worked_182 rec_12 q7 l1 l3 l4 l5
  else none
  else none)
  else
  (if vin ((l4 + (-1 : Int32)) - (1 : Int32)) 130 then
  if vin (l4 + (-1 : Int32)) 130 then
  (f_X12_twoOf q v2 (q.1 80 ((l4 + (-1 : Int32)) - (1 : Int32)).toNatClampNeg) (q.1 80 (l4 + (-1 : Int32)).toNatClampNeg)).bind fun r8 =>
  if vin ((l4 + (-1 : Int32)) - (1 : Int32)) 130 then
  nm (sI q 80 ((l4 + (-1 : Int32)) - (1 : Int32)).toNatClampNeg r8) fun q9 =>
  b_X12_worked_182 rec_12 q9 l1 l3 (l4 + (-1 : Int32)) l5
  else none
  else none
  else none))))
  else none)) FU
theorem rb_X12_worked_12 {E : EE} (hE : GE E) (q : SS) (l1 : Int32) (l3 : Int32) (l4 : Int32) (l5 : Int32) : R E (κI E) 1 223 12 [(0, .ref 60), (1, .int l1), (3, .int l3), (4, .int l4), (5, .int l5)] [] q (b_X12_worked_12 q l1 l3 l4 l5) := by
  unfold b_X12_worked_12
  refine fx5_ok (P := fun q l1 l3 l4 l5 o => R E (κI E) 1 223 12 [(0, .ref 60), (1, .int l1), (3, .int l3), (4, .int l4), (5, .int l5)] [] q o) (fun _ _ _ _ _ => r_no) (fun rec_12 hrec_12 q l1 l3 l4 l5 => ?_) _ _ _ _ _ _
  refine r_iload (x := l5) gX12_worked_0.2.2.2.2.2.2.2.2.1 rfl ?_
  refine r_sipush (v := (130 : Int32)) gX12_worked_0.2.2.2.2.2.2.2.2.2.1 rfl ?_
  refine r_iload_n (x := l1) gX12_worked_0.2.2.2.2.2.2.2.2.2.2.1 rfl ?_
  refine r_imul gX12_worked_0.2.2.2.2.2.2.2.2.2.2.2.1 ?_
  refine r_iload_n (x := l3) gX12_worked_0.2.2.2.2.2.2.2.2.2.2.2.2.1 rfl ?_
  refine r_iadd gX12_worked_0.2.2.2.2.2.2.2.2.2.2.2.2.2.1 ?_
  refine r_icmp_ge (t := 188) gX12_worked_0.2.2.2.2.2.2.2.2.2.2.2.2.2.2.1 rfl (fun h14 => ?_) (fun h14 => ?_)
  · refine r_aload_n (x := 60) gX12_worked_170.2.2.2.2.2.2.2.2.2.1 rfl ?_
    refine r_getA gX12_worked_170.2.2.2.2.2.2.2.2.2.2.1 (fa_12_71_60 hE) ?_
    refine r_iconst (v := (0 : Int32)) gX12_worked_170.2.2.2.2.2.2.2.2.2.2.2.1 rfl ?_
    refine r_iaload gX12_worked_170.2.2.2.2.2.2.2.2.2.2.2.2.1 (ar_80 hE) ?_
    exact r_ireturn gX12_worked_170.2.2.2.2.2.2.2.2.2.2.2.2.2.1 rfl rfl
  · refine r_aload_n (x := 60) gX12_worked_0.2.2.2.2.2.2.2.2.2.2.2.2.2.2.2.1 rfl ?_
    refine r_getA gX12_worked_25.1 (fa_12_52_60 hE) ?_
    refine r_iload (x := l5) gX12_worked_25.2.1 rfl ?_
    refine r_baload gX12_worked_25.2.2.1 (ar_74 hE) ?_
    refine r_nmI fun v2 _ => ?_
    refine r_istore (L2 := [(0, .ref 60), (1, .int l1), (3, .int l3), (4, .int l4), (5, .int l5), (6, .int v2)]) gX12_worked_25.2.2.2.1 rfl rfl ?_
    refine r_iload (x := v2) gX12_worked_25.2.2.2.2.1 rfl ?_
    refine r_iconst (v := (1 : Int32)) gX12_worked_25.2.2.2.2.2.1 rfl ?_
    refine r_icmp_eq (t := 45) gX12_worked_25.2.2.2.2.2.2.1 rfl (fun h13 => ?_) (fun h13 => ?_)
    · exact r_sub (L' := [(0, .ref 60), (1, .int l1), (3, .int l3), (4, .int l4), (5, .int l5), (6, .int v2)]) (sub_c rfl (sub_c rfl (sub_c rfl (sub_c rfl (sub_c rfl (sub_c rfl sub_n)))))) (rb_X12_worked_45 hE hrec_12 q l1 l3 l4 l5 v2)
    · refine r_iload (x := v2) gX12_worked_25.2.2.2.2.2.2.2.1 rfl ?_
      refine r_iconst (v := (2 : Int32)) gX12_worked_25.2.2.2.2.2.2.2.2.1 rfl ?_
      refine r_icmp_ne (t := 86) gX12_worked_25.2.2.2.2.2.2.2.2.2.1 rfl (fun h12 => ?_) (fun h12 => ?_)
      · exact r_sub (L' := [(0, .ref 60), (1, .int l1), (3, .int l3), (4, .int l4), (5, .int l5), (6, .int v2)]) (sub_c rfl (sub_c rfl (sub_c rfl (sub_c rfl (sub_c rfl (sub_c rfl sub_n)))))) (rb_X12_worked_45 hE hrec_12 q l1 l3 l4 l5 v2)
      · refine r_iload (x := v2) gX12_worked_57.2.2.2.2.2.2.2.2.2.2.2.2.2.2.2.1 rfl ?_
        refine r_iconst (v := (3 : Int32)) gX12_worked_88.1 rfl ?_
        refine r_icmp_ne (t := 121) gX12_worked_88.2.1 rfl (fun h11 => ?_) (fun h11 => ?_)
        · refine r_aload_n (x := 60) gX12_worked_88.2.2.1 rfl ?_
          refine r_getA gX12_worked_88.2.2.2.1 (fa_12_71_60 hE) ?_
          refine r_iload (x := l4) gX12_worked_88.2.2.2.2.1 rfl ?_
          refine r_iconst (v := (1 : Int32)) gX12_worked_88.2.2.2.2.2.1 rfl ?_
          refine r_isub gX12_worked_88.2.2.2.2.2.2.1 ?_
          refine r_aload_n (x := 60) gX12_worked_88.2.2.2.2.2.2.2.1 rfl ?_
          refine r_getA gX12_worked_88.2.2.2.2.2.2.2.2.1 (fa_12_71_60 hE) ?_
          refine r_iload (x := l4) gX12_worked_88.2.2.2.2.2.2.2.2.2.1 rfl ?_
          refine r_iconst (v := (1 : Int32)) gX12_worked_88.2.2.2.2.2.2.2.2.2.2.1 rfl ?_
          refine r_isub gX12_worked_88.2.2.2.2.2.2.2.2.2.2.2.1 ?_
          refine r_iaload gX12_worked_88.2.2.2.2.2.2.2.2.2.2.2.2.1 (ar_80 hE) ?_
          refine r_if_ne (t := 116) gX12_worked_88.2.2.2.2.2.2.2.2.2.2.2.2.2.1 rfl (fun h6 => ?_) (fun h6 => ?_)
          · refine r_iconst (v := (1 : Int32)) gX12_worked_88.2.2.2.2.2.2.2.2.2.2.2.2.2.2.1 rfl ?_
            refine r_goto (t := 117) gX12_worked_88.2.2.2.2.2.2.2.2.2.2.2.2.2.2.2.1 rfl ?_
            exact r_sub (L' := [(0, .ref 60), (1, .int l1), (3, .int l3), (4, .int l4), (5, .int l5)]) (sub_c rfl (sub_c rfl (sub_c rfl (sub_c rfl (sub_c rfl sub_n))))) (rb_X12_worked_117 hE hrec_12 q l1 l3 l4 l5 (1 : Int32) (l4 - (1 : Int32)))
          · refine r_iconst (v := (0 : Int32)) gX12_worked_116.1 rfl ?_
            exact r_sub (L' := [(0, .ref 60), (1, .int l1), (3, .int l3), (4, .int l4), (5, .int l5)]) (sub_c rfl (sub_c rfl (sub_c rfl (sub_c rfl (sub_c rfl sub_n))))) (rb_X12_worked_117 hE hrec_12 q l1 l3 l4 l5 (0 : Int32) (l4 - (1 : Int32)))
        · refine r_iload (x := v2) gX12_worked_116.2.2.2.1 rfl ?_
          refine r_iconst (v := (4 : Int32)) gX12_worked_116.2.2.2.2.1 rfl ?_
          refine r_icmp_ne (t := 149) gX12_worked_116.2.2.2.2.2.1 rfl (fun h10 => ?_) (fun h10 => ?_)
          · refine r_aload_n (x := 60) gX12_worked_116.2.2.2.2.2.2.1 rfl ?_
            refine r_getA gX12_worked_116.2.2.2.2.2.2.2.1 (fa_12_71_60 hE) ?_
            refine r_iload (x := l4) gX12_worked_116.2.2.2.2.2.2.2.2.1 rfl ?_
            refine r_iconst (v := (1 : Int32)) gX12_worked_116.2.2.2.2.2.2.2.2.2.1 rfl ?_
            refine r_isub gX12_worked_116.2.2.2.2.2.2.2.2.2.2.1 ?_
            refine r_aload_n (x := 60) gX12_worked_116.2.2.2.2.2.2.2.2.2.2.2.1 rfl ?_
            refine r_getA gX12_worked_116.2.2.2.2.2.2.2.2.2.2.2.2.1 (fa_12_71_60 hE) ?_
            refine r_iload (x := l4) gX12_worked_116.2.2.2.2.2.2.2.2.2.2.2.2.2.1 rfl ?_
            refine r_iconst (v := (1 : Int32)) gX12_worked_116.2.2.2.2.2.2.2.2.2.2.2.2.2.2.1 rfl ?_
            refine r_isub gX12_worked_116.2.2.2.2.2.2.2.2.2.2.2.2.2.2.2.1 ?_
            refine r_iaload gX12_worked_143.1 (ar_80 hE) ?_
            refine r_ineg gX12_worked_143.2.1 ?_
            refine r_iastore gX12_worked_143.2.2.1 (ar_80 hE) ?_
            refine r_nmS fun q7 _ => ?_
            refine r_goto (t := 182) gX12_worked_143.2.2.2.1 rfl ?_
            exact r_sub (L' := [(0, .ref 60), (1, .int l1), (3, .int l3), (4, .int l4), (5, .int l5)]) (sub_c rfl (sub_c rfl (sub_c rfl (sub_c rfl (sub_c rfl sub_n))))) (rb_X12_worked_182 hE hrec_12 q7 l1 l3 l4 l5)
          · refine r_iinc (x := l4) (v := (l4 + (-1 : Int32))) (L2 := [(0, .ref 60), (1, .int l1), (3, .int l3), (4, .int (l4 + (-1 : Int32))), (5, .int l5), (6, .int v2)]) gX12_worked_143.2.2.2.2.1 rfl rfl rfl rfl ?_
            refine r_aload_n (x := 60) gX12_worked_143.2.2.2.2.2.1 rfl ?_
            refine r_getA gX12_worked_143.2.2.2.2.2.2.1 (fa_12_71_60 hE) ?_
            refine r_iload (x := (l4 + (-1 : Int32))) gX12_worked_143.2.2.2.2.2.2.2.1 rfl ?_
            refine r_iconst (v := (1 : Int32)) gX12_worked_143.2.2.2.2.2.2.2.2.1 rfl ?_
            refine r_isub gX12_worked_143.2.2.2.2.2.2.2.2.2.1 ?_
            refine r_iload (x := v2) gX12_worked_143.2.2.2.2.2.2.2.2.2.2.1 rfl ?_
            refine r_aload_n (x := 60) gX12_worked_143.2.2.2.2.2.2.2.2.2.2.2.1 rfl ?_
            refine r_getA gX12_worked_143.2.2.2.2.2.2.2.2.2.2.2.2.1 (fa_12_71_60 hE) ?_
            refine r_iload (x := (l4 + (-1 : Int32))) gX12_worked_143.2.2.2.2.2.2.2.2.2.2.2.2.2.1 rfl ?_
            refine r_iconst (v := (1 : Int32)) gX12_worked_143.2.2.2.2.2.2.2.2.2.2.2.2.2.2.1 rfl ?_
            refine r_isub gX12_worked_143.2.2.2.2.2.2.2.2.2.2.2.2.2.2.2.1 ?_
            refine r_iaload gX12_worked_170.1 (ar_80 hE) ?_
            refine r_aload_n (x := 60) gX12_worked_170.2.1 rfl ?_
            refine r_getA gX12_worked_170.2.2.1 (fa_12_71_60 hE) ?_
            refine r_iload (x := (l4 + (-1 : Int32))) gX12_worked_170.2.2.2.1 rfl ?_
            refine r_iaload gX12_worked_170.2.2.2.2.1 (ar_80 hE) ?_
            refine r_calli (k := 2) (idx := 235) (y := 222) (as := [.int v2, .int (q.1 80 ((l4 + (-1 : Int32)) - (1 : Int32)).toNatClampNeg), .int (q.1 80 (l4 + (-1 : Int32)).toNatClampNeg)]) (rest := [.int ((l4 + (-1 : Int32)) - (1 : Int32)), .ref 80]) (L0 := [(0, .int v2), (1, .int (q.1 80 ((l4 + (-1 : Int32)) - (1 : Int32)).toNatClampNeg)), (2, .int (q.1 80 (l4 + (-1 : Int32)).toNatClampNeg))]) gX12_worked_170.2.2.2.2.2.1 rfl rfl rfl rfl rfl vok_s rfl (r_dep (by decide) (e_X12_twoOf hE q v2 (q.1 80 ((l4 + (-1 : Int32)) - (1 : Int32)).toNatClampNeg) (q.1 80 (l4 + (-1 : Int32)).toNatClampNeg))) (fun r8 => ?_)
            refine r_iastore gX12_worked_170.2.2.2.2.2.2.1 (ar_80 hE) ?_
            refine r_nmS fun q9 _ => ?_
            exact r_sub (L' := [(0, .ref 60), (1, .int l1), (3, .int l3), (4, .int (l4 + (-1 : Int32))), (5, .int l5)]) (sub_c rfl (sub_c rfl (sub_c rfl (sub_c rfl (sub_c rfl sub_n))))) (rb_X12_worked_182 hE hrec_12 q9 l1 l3 (l4 + (-1 : Int32)) l5)
def f_X12_worked (q : SS) (a1 : Int32) (a2 : Int32) (a3 : Int32) : Option (Int32 × SS) :=
  nm (((130 : Int32) * a1) + a2) fun v1 =>
  b_X12_worked_12 q a1 a3 (0 : Int32) v1
theorem e_X12_worked {E : EE} (hE : GE E) (q : SS) (a1 : Int32) (a2 : Int32) (a3 : Int32) : R E (κI E) 1 223 0 [(0, .ref 60), (1, .int a1), (2, .int a2), (3, .int a3)] [] q (f_X12_worked q a1 a2 a3) := by
  unfold f_X12_worked
  refine r_iconst (v := (0 : Int32)) gX12_worked_0.1 rfl ?_
  refine r_istore (L2 := [(0, .ref 60), (1, .int a1), (2, .int a2), (3, .int a3), (4, .int (0 : Int32))]) gX12_worked_0.2.1 rfl rfl ?_
  refine r_sipush (v := (130 : Int32)) gX12_worked_0.2.2.1 rfl ?_
  refine r_iload_n (x := a1) gX12_worked_0.2.2.2.1 rfl ?_
  refine r_imul gX12_worked_0.2.2.2.2.1 ?_
  refine r_iload_n (x := a2) gX12_worked_0.2.2.2.2.2.1 rfl ?_
  refine r_iadd gX12_worked_0.2.2.2.2.2.2.1 ?_
  refine r_nmI fun v1 _ => ?_
  refine r_istore (L2 := [(0, .ref 60), (1, .int a1), (2, .int a2), (3, .int a3), (4, .int (0 : Int32)), (5, .int v1)]) gX12_worked_0.2.2.2.2.2.2.2.1 rfl rfl ?_
  exact r_sub (L' := [(0, .ref 60), (1, .int a1), (3, .int a3), (4, .int (0 : Int32)), (5, .int v1)]) (sub_c rfl (sub_c rfl (sub_c rfl (sub_c rfl (sub_c rfl sub_n))))) (rb_X12_worked_12 hE q a1 a3 (0 : Int32) v1)
def b_X12_gives_47 (q : SS) (l1 : Int32) (l3 : Int32) : Option (Int32 × SS) :=
  if vin l3 122 then
  if vin l3 122 then
  (f_X12_worked q l1 (q.1 77 l3.toNatClampNeg) (q.1 78 l3.toNatClampNeg)).bind fun r2 =>
  some (r2.1, r2.2)
  else none
  else none
theorem rb_X12_gives_47 {E : EE} (hE : GE E) (q : SS) (l1 : Int32) (l3 : Int32) : R E (κI E) 2 224 47 [(0, .ref 60), (1, .int l1), (3, .int l3)] [] q (b_X12_gives_47 q l1 l3) := by
  unfold b_X12_gives_47
  refine r_aload_n (x := 60) gX12_gives_22.2.2.2.2.2.2.2.2.2.2.2.2.2.2.2.1 rfl ?_
  refine r_iload_n (x := l1) gX12_gives_48.1 rfl ?_
  refine r_aload_n (x := 60) gX12_gives_48.2.1 rfl ?_
  refine r_getA gX12_gives_48.2.2.1 (fa_12_61_60 hE) ?_
  refine r_iload_n (x := l3) gX12_gives_48.2.2.2.1 rfl ?_
  refine r_saload gX12_gives_48.2.2.2.2.1 (ar_77 hE) ?_
  refine r_aload_n (x := 60) gX12_gives_48.2.2.2.2.2.1 rfl ?_
  refine r_getA gX12_gives_48.2.2.2.2.2.2.1 (fa_12_65_60 hE) ?_
  refine r_iload_n (x := l3) gX12_gives_48.2.2.2.2.2.2.2.1 rfl ?_
  refine r_saload gX12_gives_48.2.2.2.2.2.2.2.2.1 (ar_78 hE) ?_
  refine r_callI (k := 0) (idx := 238) (y := 223) (as := [.ref 60, .int l1, .int (q.1 77 l3.toNatClampNeg), .int (q.1 78 l3.toNatClampNeg)]) (rest := []) (L0 := [(0, .ref 60), (1, .int l1), (2, .int (q.1 77 l3.toNatClampNeg)), (3, .int (q.1 78 l3.toNatClampNeg))]) gX12_gives_48.2.2.2.2.2.2.2.2.2.1 rfl rfl rfl rfl rfl (vok_v (ob_60 hE) rfl) rfl (r_dep (by decide) (e_X12_worked hE q l1 (q.1 77 l3.toNatClampNeg) (q.1 78 l3.toNatClampNeg))) (fun r2 => ?_)
  exact r_ireturn gX12_gives_48.2.2.2.2.2.2.2.2.2.2.1 rfl rfl
def b_X12_gives_7 : SS → Int32 → Int32 → Int32 → Option (Int32 × SS) :=
  fx4 (fun (rec_7 : SS → Int32 → Int32 → Int32 → Option (Int32 × SS)) (q : SS) (l1 : Int32) (l2 : Int32) (l3 : Int32) =>
  if vin l1 2 then
  if (((61 : Int32) * l1) + (q.1 76 l1.toNatClampNeg)) ≤ l3 then
  (some ((0 : Int32), q))
  else
  (if vin l3 122 then
  if (q.1 77 l3.toNatClampNeg) = l2 then
  (b_X12_gives_47 q l1 l3)
  else
  (if vin l3 122 then
  (f_X12_worked q l1 l2 (q.1 77 l3.toNatClampNeg)).bind fun r3 =>
  if r3.1 = 0 then
  (if vin l3 122 then
  nm (r3.2.1 78 l3.toNatClampNeg) fun v4 =>
  rec_7 r3.2 l1 v4 (l3 + (1 : Int32))
  else none)
  else
  (b_X12_gives_47 r3.2 l1 l3)
  else none)
  else none)
  else none) FU
theorem rb_X12_gives_7 {E : EE} (hE : GE E) (q : SS) (l1 : Int32) (l2 : Int32) (l3 : Int32) : R E (κI E) 2 224 7 [(0, .ref 60), (1, .int l1), (2, .int l2), (3, .int l3)] [] q (b_X12_gives_7 q l1 l2 l3) := by
  unfold b_X12_gives_7
  refine fx4_ok (P := fun q l1 l2 l3 o => R E (κI E) 2 224 7 [(0, .ref 60), (1, .int l1), (2, .int l2), (3, .int l3)] [] q o) (fun _ _ _ _ => r_no) (fun rec_7 hrec_7 q l1 l2 l3 => ?_) _ _ _ _ _
  refine r_iload_n (x := l3) gX12_gives_0.2.2.2.2.2.2.1 rfl ?_
  refine r_bipush (v := (61 : Int32)) gX12_gives_0.2.2.2.2.2.2.2.1 rfl ?_
  refine r_iload_n (x := l1) gX12_gives_0.2.2.2.2.2.2.2.2.1 rfl ?_
  refine r_imul gX12_gives_0.2.2.2.2.2.2.2.2.2.1 ?_
  refine r_aload_n (x := 60) gX12_gives_0.2.2.2.2.2.2.2.2.2.2.1 rfl ?_
  refine r_getA gX12_gives_0.2.2.2.2.2.2.2.2.2.2.2.1 (fa_12_58_60 hE) ?_
  refine r_iload_n (x := l1) gX12_gives_0.2.2.2.2.2.2.2.2.2.2.2.2.1 rfl ?_
  refine r_iaload gX12_gives_0.2.2.2.2.2.2.2.2.2.2.2.2.2.1 (ar_76 hE) ?_
  refine r_iadd gX12_gives_0.2.2.2.2.2.2.2.2.2.2.2.2.2.2.1 ?_
  refine r_icmp_ge (t := 78) gX12_gives_0.2.2.2.2.2.2.2.2.2.2.2.2.2.2.2.1 rfl (fun h7 => ?_) (fun h7 => ?_)
  · refine r_iconst (v := (0 : Int32)) gX12_gives_72.2.2.1 rfl ?_
    exact r_ireturn gX12_gives_72.2.2.2.1 rfl rfl
  · refine r_aload_n (x := 60) gX12_gives_22.1 rfl ?_
    refine r_getA gX12_gives_22.2.1 (fa_12_61_60 hE) ?_
    refine r_iload_n (x := l3) gX12_gives_22.2.2.1 rfl ?_
    refine r_saload gX12_gives_22.2.2.2.1 (ar_77 hE) ?_
    refine r_iload_n (x := l2) gX12_gives_22.2.2.2.2.1 rfl ?_
    refine r_icmp_eq (t := 47) gX12_gives_22.2.2.2.2.2.1 rfl (fun h6 => ?_) (fun h6 => ?_)
    · exact r_sub (L' := [(0, .ref 60), (1, .int l1), (3, .int l3)]) (sub_c rfl (sub_c rfl (sub_c rfl sub_n))) (rb_X12_gives_47 hE q l1 l3)
    · refine r_aload_n (x := 60) gX12_gives_22.2.2.2.2.2.2.1 rfl ?_
      refine r_iload_n (x := l1) gX12_gives_22.2.2.2.2.2.2.2.1 rfl ?_
      refine r_iload_n (x := l2) gX12_gives_22.2.2.2.2.2.2.2.2.1 rfl ?_
      refine r_aload_n (x := 60) gX12_gives_22.2.2.2.2.2.2.2.2.2.1 rfl ?_
      refine r_getA gX12_gives_22.2.2.2.2.2.2.2.2.2.2.1 (fa_12_61_60 hE) ?_
      refine r_iload_n (x := l3) gX12_gives_22.2.2.2.2.2.2.2.2.2.2.2.1 rfl ?_
      refine r_saload gX12_gives_22.2.2.2.2.2.2.2.2.2.2.2.2.1 (ar_77 hE) ?_
      refine r_callI (k := 0) (idx := 238) (y := 223) (as := [.ref 60, .int l1, .int l2, .int (q.1 77 l3.toNatClampNeg)]) (rest := []) (L0 := [(0, .ref 60), (1, .int l1), (2, .int l2), (3, .int (q.1 77 l3.toNatClampNeg))]) gX12_gives_22.2.2.2.2.2.2.2.2.2.2.2.2.2.1 rfl rfl rfl rfl rfl (vok_v (ob_60 hE) rfl) rfl (r_dep (by decide) (e_X12_worked hE q l1 l2 (q.1 77 l3.toNatClampNeg))) (fun r3 => ?_)
      refine r_if_eq (t := 65) gX12_gives_22.2.2.2.2.2.2.2.2.2.2.2.2.2.2.1 rfl (fun h5 => ?_) (fun h5 => ?_)
      · refine r_aload_n (x := 60) gX12_gives_48.2.2.2.2.2.2.2.2.2.2.2.1 rfl ?_
        refine r_getA gX12_gives_48.2.2.2.2.2.2.2.2.2.2.2.2.1 (fa_12_65_60 hE) ?_
        refine r_iload_n (x := l3) gX12_gives_48.2.2.2.2.2.2.2.2.2.2.2.2.2.1 rfl ?_
        refine r_saload gX12_gives_48.2.2.2.2.2.2.2.2.2.2.2.2.2.2.1 (ar_78 hE) ?_
        refine r_nmI fun v4 _ => ?_
        refine r_istore_n (L2 := [(0, .ref 60), (1, .int l1), (2, .int v4), (3, .int l3)]) gX12_gives_48.2.2.2.2.2.2.2.2.2.2.2.2.2.2.2.1 rfl rfl ?_
        refine r_iinc (x := l3) (v := (l3 + (1 : Int32))) (L2 := [(0, .ref 60), (1, .int l1), (2, .int v4), (3, .int (l3 + (1 : Int32)))]) gX12_gives_72.1 rfl rfl rfl rfl ?_
        refine r_goto (t := 7) gX12_gives_72.2.1 rfl ?_
        exact r_sub (L' := [(0, .ref 60), (1, .int l1), (2, .int v4), (3, .int (l3 + (1 : Int32)))]) (sub_c rfl (sub_c rfl (sub_c rfl (sub_c rfl sub_n)))) (hrec_7 r3.2 l1 v4 (l3 + (1 : Int32)))
      · exact r_sub (L' := [(0, .ref 60), (1, .int l1), (3, .int l3)]) (sub_c rfl (sub_c rfl (sub_c rfl sub_n))) (rb_X12_gives_47 hE r3.2 l1 l3)
def f_X12_gives (q : SS) (a1 : Int32) : Option (Int32 × SS) :=
  nm ((61 : Int32) * a1) fun v1 =>
  b_X12_gives_7 q a1 (0 : Int32) v1
theorem e_X12_gives {E : EE} (hE : GE E) (q : SS) (a1 : Int32) : R E (κI E) 2 224 0 [(0, .ref 60), (1, .int a1)] [] q (f_X12_gives q a1) := by
  unfold f_X12_gives
  refine r_iconst (v := (0 : Int32)) gX12_gives_0.1 rfl ?_
  refine r_istore_n (L2 := [(0, .ref 60), (1, .int a1), (2, .int (0 : Int32))]) gX12_gives_0.2.1 rfl rfl ?_
  refine r_bipush (v := (61 : Int32)) gX12_gives_0.2.2.1 rfl ?_
  refine r_iload_n (x := a1) gX12_gives_0.2.2.2.1 rfl ?_
  refine r_imul gX12_gives_0.2.2.2.2.1 ?_
  refine r_nmI fun v1 _ => ?_
  refine r_istore_n (L2 := [(0, .ref 60), (1, .int a1), (2, .int (0 : Int32)), (3, .int v1)]) gX12_gives_0.2.2.2.2.2.1 rfl rfl ?_
  exact r_sub (L' := [(0, .ref 60), (1, .int a1), (2, .int (0 : Int32)), (3, .int v1)]) (sub_c rfl (sub_c rfl (sub_c rfl (sub_c rfl sub_n)))) (rb_X12_gives_7 hE q a1 (0 : Int32) v1)
def b_X12_oddsOf_115 (q : SS) (l3 : Int32) : Option (Int32 × SS) :=
  if 0 ≤ l3 then
  (if l3 ≤ (12 : Int32) then
  (some (l3, q))
  else
  (some ((12 : Int32), q)))
  else
  (some ((0 : Int32), q))
theorem rb_X12_oddsOf_115 {E : EE} (hE : GE E) (q : SS) (l3 : Int32) : R E (κI E) 3 231 115 [(3, .int l3)] [] q (b_X12_oddsOf_115 q l3) := by
  unfold b_X12_oddsOf_115
  refine r_iload_n (x := l3) gX12_oddsOf_101.2.2.2.2.2.2.2.2.2.2.1 rfl ?_
  refine r_if_ge (t := 123) gX12_oddsOf_101.2.2.2.2.2.2.2.2.2.2.2.1 rfl (fun h4 => ?_) (fun h4 => ?_)
  · refine r_iload_n (x := l3) gX12_oddsOf_101.2.2.2.2.2.2.2.2.2.2.2.2.2.2.1 rfl ?_
    refine r_bipush (v := (12 : Int32)) gX12_oddsOf_101.2.2.2.2.2.2.2.2.2.2.2.2.2.2.2.1 rfl ?_
    refine r_icmp_le (t := 134) gX12_oddsOf_126.1 rfl (fun h3 => ?_) (fun h3 => ?_)
    · refine r_iload_n (x := l3) gX12_oddsOf_126.2.2.2.1 rfl ?_
      exact r_ireturn gX12_oddsOf_126.2.2.2.2.1 rfl rfl
    · refine r_bipush (v := (12 : Int32)) gX12_oddsOf_126.2.1 rfl ?_
      refine r_goto (t := 135) gX12_oddsOf_126.2.2.1 rfl ?_
      exact r_ireturn gX12_oddsOf_126.2.2.2.2.1 rfl rfl
  · refine r_iconst (v := (0 : Int32)) gX12_oddsOf_101.2.2.2.2.2.2.2.2.2.2.2.2.1 rfl ?_
    refine r_goto (t := 135) gX12_oddsOf_101.2.2.2.2.2.2.2.2.2.2.2.2.2.1 rfl ?_
    exact r_ireturn gX12_oddsOf_126.2.2.2.2.1 rfl rfl
def f_X12_oddsOf (q : SS) (a1 : Int32) (a2 : Int32) : Option (Int32 × SS) :=
  (f_X12_maySlip q a1 a2).bind fun r1 =>
  if r1 = 0 then
  (some ((0 : Int32), q))
  else
  (if vin a2 6 then
  if vin (1 : Int32) 2 then
  nm (((12 : Int32) - (q.1 61 a2.toNatClampNeg)) - (q.1 68 (1 : Int32).toNatClampNeg)) fun v2 =>
  if (q.1 60 30) = 0 then
  (b_X12_oddsOf_115 q v2)
  else
  (if vin a2 6 then
  if vin (0 : Int32) 6 then
  nm (sI q 79 (0 : Int32).toNatClampNeg (q.1 61 a2.toNatClampNeg)) fun q5 =>
  if vin a1 12 then
  if vin (q5.1 81 a1.toNatClampNeg) 6 then
  if vin (1 : Int32) 6 then
  nm (sI q5 79 (1 : Int32).toNatClampNeg (q5.1 61 (q5.1 81 a1.toNatClampNeg).toNatClampNeg)) fun q6 =>
  (f_X12_manyOf q6 a2).bind fun r7 =>
  if vin (2 : Int32) 6 then
  nm (sI q6 79 (2 : Int32).toNatClampNeg r7) fun q8 =>
  if vin a1 12 then
  if vin (3 : Int32) 6 then
  nm (sI q8 79 (3 : Int32).toNatClampNeg (q8.1 67 a1.toNatClampNeg)) fun q9 =>
  if vin (4 : Int32) 6 then
  nm (sI q9 79 (4 : Int32).toNatClampNeg (q9.1 60 32)) fun q10 =>
  if vin (1 : Int32) 2 then
  if vin (5 : Int32) 6 then
  nm (sI q10 79 (5 : Int32).toNatClampNeg (q10.1 68 (1 : Int32).toNatClampNeg)) fun q11 =>
  (f_X12_gives q11 (0 : Int32)).bind fun r12 =>
  b_X12_oddsOf_115 r12.2 r12.1
  else none
  else none
  else none
  else none
  else none
  else none
  else none
  else none
  else none
  else none
  else none)
  else none
  else none)
theorem e_X12_oddsOf {E : EE} (hE : GE E) (q : SS) (a1 : Int32) (a2 : Int32) : R E (κI E) 3 231 0 [(0, .ref 60), (1, .int a1), (2, .int a2)] [] q (f_X12_oddsOf q a1 a2) := by
  unfold f_X12_oddsOf
  refine r_aload_n (x := 60) gX12_oddsOf_0.1 rfl ?_
  refine r_iload_n (x := a1) gX12_oddsOf_0.2.1 rfl ?_
  refine r_iload_n (x := a2) gX12_oddsOf_0.2.2.1 rfl ?_
  refine r_calli (k := 0) (idx := 251) (y := 230) (as := [.ref 60, .int a1, .int a2]) (rest := []) (L0 := [(0, .ref 60), (1, .int a1), (2, .int a2)]) gX12_oddsOf_0.2.2.2.1 rfl rfl rfl rfl rfl (vok_v (ob_60 hE) rfl) rfl (r_dep (by decide) (e_X12_maySlip hE q a1 a2)) (fun r1 => ?_)
  refine r_if_ne (t := 11) gX12_oddsOf_0.2.2.2.2.1 rfl (fun h14 => ?_) (fun h14 => ?_)
  · refine r_iconst (v := (0 : Int32)) gX12_oddsOf_0.2.2.2.2.2.1 rfl ?_
    exact r_ireturn gX12_oddsOf_0.2.2.2.2.2.2.1 rfl rfl
  · refine r_bipush (v := (12 : Int32)) gX12_oddsOf_0.2.2.2.2.2.2.2.1 rfl ?_
    refine r_aload_n (x := 60) gX12_oddsOf_0.2.2.2.2.2.2.2.2.1 rfl ?_
    refine r_getA gX12_oddsOf_0.2.2.2.2.2.2.2.2.2.1 (fa_12_9_60 hE) ?_
    refine r_iload_n (x := a2) gX12_oddsOf_0.2.2.2.2.2.2.2.2.2.2.1 rfl ?_
    refine r_iaload gX12_oddsOf_0.2.2.2.2.2.2.2.2.2.2.2.1 (ar_61 hE) ?_
    refine r_isub gX12_oddsOf_0.2.2.2.2.2.2.2.2.2.2.2.2.1 ?_
    refine r_aload_n (x := 60) gX12_oddsOf_0.2.2.2.2.2.2.2.2.2.2.2.2.2.1 rfl ?_
    refine r_getA gX12_oddsOf_0.2.2.2.2.2.2.2.2.2.2.2.2.2.2.1 (fa_12_33_60 hE) ?_
    refine r_iconst (v := (1 : Int32)) gX12_oddsOf_0.2.2.2.2.2.2.2.2.2.2.2.2.2.2.2.1 rfl ?_
    refine r_iaload gX12_oddsOf_25.1 (ar_68 hE) ?_
    refine r_isub gX12_oddsOf_25.2.1 ?_
    refine r_nmI fun v2 _ => ?_
    refine r_istore_n (L2 := [(0, .ref 60), (1, .int a1), (2, .int a2), (3, .int v2)]) gX12_oddsOf_25.2.2.1 rfl rfl ?_
    refine r_aload_n (x := 60) gX12_oddsOf_25.2.2.2.1 rfl ?_
    refine r_getI gX12_oddsOf_25.2.2.2.2.1 (ff_12_244_60 hE) (by decide) ?_
    refine r_if_eq (t := 115) gX12_oddsOf_25.2.2.2.2.2.1 rfl (fun h13 => ?_) (fun h13 => ?_)
    · exact r_sub (L' := [(3, .int v2)]) (sub_c rfl sub_n) (rb_X12_oddsOf_115 hE q v2)
    · refine r_aload_n (x := 60) gX12_oddsOf_25.2.2.2.2.2.2.1 rfl ?_
      refine r_getA gX12_oddsOf_25.2.2.2.2.2.2.2.1 (fa_12_68_60 hE) ?_
      refine r_iconst (v := (0 : Int32)) gX12_oddsOf_25.2.2.2.2.2.2.2.2.1 rfl ?_
      refine r_aload_n (x := 60) gX12_oddsOf_25.2.2.2.2.2.2.2.2.2.1 rfl ?_
      refine r_getA gX12_oddsOf_25.2.2.2.2.2.2.2.2.2.2.1 (fa_12_9_60 hE) ?_
      refine r_iload_n (x := a2) gX12_oddsOf_25.2.2.2.2.2.2.2.2.2.2.2.1 rfl ?_
      refine r_iaload gX12_oddsOf_25.2.2.2.2.2.2.2.2.2.2.2.2.1 (ar_61 hE) ?_
      refine r_iastore gX12_oddsOf_25.2.2.2.2.2.2.2.2.2.2.2.2.2.1 (ar_79 hE) ?_
      refine r_nmS fun q5 _ => ?_
      refine r_aload_n (x := 60) gX12_oddsOf_25.2.2.2.2.2.2.2.2.2.2.2.2.2.2.1 rfl ?_
      refine r_getA gX12_oddsOf_25.2.2.2.2.2.2.2.2.2.2.2.2.2.2.2.1 (fa_12_68_60 hE) ?_
      refine r_iconst (v := (1 : Int32)) gX12_oddsOf_51.1 rfl ?_
      refine r_aload_n (x := 60) gX12_oddsOf_51.2.1 rfl ?_
      refine r_getA gX12_oddsOf_51.2.2.1 (fa_12_9_60 hE) ?_
      refine r_aload_n (x := 60) gX12_oddsOf_51.2.2.2.1 rfl ?_
      refine r_getA gX12_oddsOf_51.2.2.2.2.1 (fa_12_74_60 hE) ?_
      refine r_iload_n (x := a1) gX12_oddsOf_51.2.2.2.2.2.1 rfl ?_
      refine r_iaload gX12_oddsOf_51.2.2.2.2.2.2.1 (ar_81 hE) ?_
      refine r_iaload gX12_oddsOf_51.2.2.2.2.2.2.2.1 (ar_61 hE) ?_
      refine r_iastore gX12_oddsOf_51.2.2.2.2.2.2.2.2.1 (ar_79 hE) ?_
      refine r_nmS fun q6 _ => ?_
      refine r_aload_n (x := 60) gX12_oddsOf_51.2.2.2.2.2.2.2.2.2.1 rfl ?_
      refine r_getA gX12_oddsOf_51.2.2.2.2.2.2.2.2.2.2.1 (fa_12_68_60 hE) ?_
      refine r_iconst (v := (2 : Int32)) gX12_oddsOf_51.2.2.2.2.2.2.2.2.2.2.2.1 rfl ?_
      refine r_aload_n (x := 60) gX12_oddsOf_51.2.2.2.2.2.2.2.2.2.2.2.2.1 rfl ?_
      refine r_iload_n (x := a2) gX12_oddsOf_51.2.2.2.2.2.2.2.2.2.2.2.2.2.1 rfl ?_
      refine r_calli (k := 0) (idx := 171) (y := 227) (as := [.ref 60, .int a2]) (rest := [.int (2 : Int32), .ref 79]) (L0 := [(0, .ref 60), (1, .int a2)]) gX12_oddsOf_51.2.2.2.2.2.2.2.2.2.2.2.2.2.2.1 rfl rfl rfl rfl rfl (vok_v (ob_60 hE) rfl) rfl (r_dep (by decide) (e_X12_manyOf hE q6 a2)) (fun r7 => ?_)
      refine r_iastore gX12_oddsOf_51.2.2.2.2.2.2.2.2.2.2.2.2.2.2.2.1 (ar_79 hE) ?_
      refine r_nmS fun q8 _ => ?_
      refine r_aload_n (x := 60) gX12_oddsOf_75.1 rfl ?_
      refine r_getA gX12_oddsOf_75.2.1 (fa_12_68_60 hE) ?_
      refine r_iconst (v := (3 : Int32)) gX12_oddsOf_75.2.2.1 rfl ?_
      refine r_aload_n (x := 60) gX12_oddsOf_75.2.2.2.1 rfl ?_
      refine r_getA gX12_oddsOf_75.2.2.2.2.1 (fa_12_30_60 hE) ?_
      refine r_iload_n (x := a1) gX12_oddsOf_75.2.2.2.2.2.1 rfl ?_
      refine r_iaload gX12_oddsOf_75.2.2.2.2.2.2.1 (ar_67 hE) ?_
      refine r_iastore gX12_oddsOf_75.2.2.2.2.2.2.2.1 (ar_79 hE) ?_
      refine r_nmS fun q9 _ => ?_
      refine r_aload_n (x := 60) gX12_oddsOf_75.2.2.2.2.2.2.2.2.1 rfl ?_
      refine r_getA gX12_oddsOf_75.2.2.2.2.2.2.2.2.2.1 (fa_12_68_60 hE) ?_
      refine r_iconst (v := (4 : Int32)) gX12_oddsOf_75.2.2.2.2.2.2.2.2.2.2.1 rfl ?_
      refine r_aload_n (x := 60) gX12_oddsOf_75.2.2.2.2.2.2.2.2.2.2.2.1 rfl ?_
      refine r_getI gX12_oddsOf_75.2.2.2.2.2.2.2.2.2.2.2.2.1 (ff_12_248_60 hE) (by decide) ?_
      refine r_iastore gX12_oddsOf_75.2.2.2.2.2.2.2.2.2.2.2.2.2.1 (ar_79 hE) ?_
      refine r_nmS fun q10 _ => ?_
      refine r_aload_n (x := 60) gX12_oddsOf_75.2.2.2.2.2.2.2.2.2.2.2.2.2.2.1 rfl ?_
      refine r_getA gX12_oddsOf_75.2.2.2.2.2.2.2.2.2.2.2.2.2.2.2.1 (fa_12_68_60 hE) ?_
      refine r_iconst (v := (5 : Int32)) gX12_oddsOf_101.1 rfl ?_
      refine r_aload_n (x := 60) gX12_oddsOf_101.2.1 rfl ?_
      refine r_getA gX12_oddsOf_101.2.2.1 (fa_12_33_60 hE) ?_
      refine r_iconst (v := (1 : Int32)) gX12_oddsOf_101.2.2.2.1 rfl ?_
      refine r_iaload gX12_oddsOf_101.2.2.2.2.1 (ar_68 hE) ?_
      refine r_iastore gX12_oddsOf_101.2.2.2.2.2.1 (ar_79 hE) ?_
      refine r_nmS fun q11 _ => ?_
      refine r_aload_n (x := 60) gX12_oddsOf_101.2.2.2.2.2.2.1 rfl ?_
      refine r_iconst (v := (0 : Int32)) gX12_oddsOf_101.2.2.2.2.2.2.2.1 rfl ?_
      refine r_callI (k := 0) (idx := 254) (y := 224) (as := [.ref 60, .int (0 : Int32)]) (rest := []) (L0 := [(0, .ref 60), (1, .int (0 : Int32))]) gX12_oddsOf_101.2.2.2.2.2.2.2.2.1 rfl rfl rfl rfl rfl (vok_v (ob_60 hE) rfl) rfl (r_dep (by decide) (e_X12_gives hE q11 (0 : Int32))) (fun r12 => ?_)
      refine r_istore_n (L2 := [(0, .ref 60), (1, .int a1), (2, .int a2), (3, .int r12.1)]) gX12_oddsOf_101.2.2.2.2.2.2.2.2.2.1 rfl rfl ?_
      exact r_sub (L' := [(3, .int r12.1)]) (sub_c rfl sub_n) (rb_X12_oddsOf_115 hE r12.2 r12.1)
